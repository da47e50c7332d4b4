section
-- ===== PART A: goes FIRST, ahead of the names: the tables' words, and 'selects' of the private methods out of them =====
/-- a private method of a class that the tables say can be made, by its rows of tables_1 -/
def lw_okq (q : MethodName × Nat) : Prop := (q.1.cls ≠ "java/lang/invoke/MethodHandle" ∧ q.1.cls ≠ "java/lang/invoke/VarHandle") ∧ Cond.instantiable q.1.cls q.2 ∈ tables_1 ∧ Cond.privateMethod q.1 ∈ tables_1 ∧ Cond.instanceMethod q.1 ∈ tables_1
theorem lw_p0 : lw_okq (⟨"LeeVanes", "sheetAt", "(I)LLeeVanes$Sheet;"⟩, 7) := ⟨⟨by decide +kernel, by decide +kernel⟩, List.mem_of_getElem? (i := 11) (by decide +kernel), List.mem_of_getElem? (i := 162) (by decide +kernel), List.mem_of_getElem? (i := 163) (by decide +kernel)⟩
theorem lw_p1 : lw_okq (⟨"LeeVanes", "fail", "(I)I"⟩, 7) := ⟨⟨by decide +kernel, by decide +kernel⟩, List.mem_of_getElem? (i := 11) (by decide +kernel), List.mem_of_getElem? (i := 181) (by decide +kernel), List.mem_of_getElem? (i := 182) (by decide +kernel)⟩
theorem lw_p2 : lw_okq (⟨"LeeVanes$TextReader", "takes", "(I)Z"⟩, 3) := ⟨⟨by decide +kernel, by decide +kernel⟩, List.mem_of_getElem? (i := 21) (by decide +kernel), List.mem_of_getElem? (i := 207) (by decide +kernel), List.mem_of_getElem? (i := 208) (by decide +kernel)⟩
theorem lw_p3 : lw_okq (⟨"LeeVanes$TextReader", "next", "()I"⟩, 3) := ⟨⟨by decide +kernel, by decide +kernel⟩, List.mem_of_getElem? (i := 21) (by decide +kernel), List.mem_of_getElem? (i := 211) (by decide +kernel), List.mem_of_getElem? (i := 212) (by decide +kernel)⟩
theorem lw_p4 : lw_okq (⟨"LeeVanes$TextReader", "digit", "(II)I"⟩, 3) := ⟨⟨by decide +kernel, by decide +kernel⟩, List.mem_of_getElem? (i := 21) (by decide +kernel), List.mem_of_getElem? (i := 215) (by decide +kernel), List.mem_of_getElem? (i := 216) (by decide +kernel)⟩
theorem lw_p5 : lw_okq (⟨"LeeVanes$TextReader", "readRow", "(LLeeVanes$Town;I)Z"⟩, 3) := ⟨⟨by decide +kernel, by decide +kernel⟩, List.mem_of_getElem? (i := 21) (by decide +kernel), List.mem_of_getElem? (i := 220) (by decide +kernel), List.mem_of_getElem? (i := 221) (by decide +kernel)⟩
theorem lw_p6 : lw_okq (⟨"LeeVanes$TextReader", "readPart", "(LLeeVanes$Town;II)Z"⟩, 3) := ⟨⟨by decide +kernel, by decide +kernel⟩, List.mem_of_getElem? (i := 21) (by decide +kernel), List.mem_of_getElem? (i := 224) (by decide +kernel), List.mem_of_getElem? (i := 225) (by decide +kernel)⟩
theorem lw_p7 : lw_okq (⟨"LeeVanes$Town", "measureWay", "(IIII)V"⟩, 18) := ⟨⟨by decide +kernel, by decide +kernel⟩, List.mem_of_getElem? (i := 39) (by decide +kernel), List.mem_of_getElem? (i := 236) (by decide +kernel), List.mem_of_getElem? (i := 237) (by decide +kernel)⟩
theorem lw_p8 : lw_okq (⟨"LeeVanes$Town", "castVotes", "(II)V"⟩, 18) := ⟨⟨by decide +kernel, by decide +kernel⟩, List.mem_of_getElem? (i := 39) (by decide +kernel), List.mem_of_getElem? (i := 349) (by decide +kernel), List.mem_of_getElem? (i := 350) (by decide +kernel)⟩
theorem lw_p9 : lw_okq (⟨"LeeVanes$Town", "winner", "(II)I"⟩, 18) := ⟨⟨by decide +kernel, by decide +kernel⟩, List.mem_of_getElem? (i := 39) (by decide +kernel), List.mem_of_getElem? (i := 354) (by decide +kernel), List.mem_of_getElem? (i := 355) (by decide +kernel)⟩
theorem lw_p10 : lw_okq (⟨"LeeVanes", "leastBy", "(IZ)I"⟩, 7) := ⟨⟨by decide +kernel, by decide +kernel⟩, List.mem_of_getElem? (i := 11) (by decide +kernel), List.mem_of_getElem? (i := 378) (by decide +kernel), List.mem_of_getElem? (i := 379) (by decide +kernel)⟩
theorem lw_p11 : lw_okq (⟨"LeeVanes", "vaneOrNone", "(II)I"⟩, 7) := ⟨⟨by decide +kernel, by decide +kernel⟩, List.mem_of_getElem? (i := 11) (by decide +kernel), List.mem_of_getElem? (i := 396) (by decide +kernel), List.mem_of_getElem? (i := 397) (by decide +kernel)⟩
theorem lw_p12 : lw_okq (⟨"LeeVanes", "tellFine", "(I)I"⟩, 7) := ⟨⟨by decide +kernel, by decide +kernel⟩, List.mem_of_getElem? (i := 11) (by decide +kernel), List.mem_of_getElem? (i := 486) (by decide +kernel), List.mem_of_getElem? (i := 487) (by decide +kernel)⟩
theorem lw_p13 : lw_okq (⟨"LeeVanes", "leave", "(I)V"⟩, 7) := ⟨⟨by decide +kernel, by decide +kernel⟩, List.mem_of_getElem? (i := 11) (by decide +kernel), List.mem_of_getElem? (i := 490) (by decide +kernel), List.mem_of_getElem? (i := 491) (by decide +kernel)⟩
theorem lw_p14 : lw_okq (⟨"LeeVanes", "tellRich", "(I)I"⟩, 7) := ⟨⟨by decide +kernel, by decide +kernel⟩, List.mem_of_getElem? (i := 11) (by decide +kernel), List.mem_of_getElem? (i := 494) (by decide +kernel), List.mem_of_getElem? (i := 495) (by decide +kernel)⟩
theorem lw_p15 : lw_okq (⟨"LeeVanes", "tellWard", "(I)I"⟩, 7) := ⟨⟨by decide +kernel, by decide +kernel⟩, List.mem_of_getElem? (i := 11) (by decide +kernel), List.mem_of_getElem? (i := 498) (by decide +kernel), List.mem_of_getElem? (i := 499) (by decide +kernel)⟩
def lw_privs_1 : List (MethodName × Nat) := [(⟨"LeeVanes", "sheetAt", "(I)LLeeVanes$Sheet;"⟩, 7), (⟨"LeeVanes", "fail", "(I)I"⟩, 7), (⟨"LeeVanes$TextReader", "takes", "(I)Z"⟩, 3), (⟨"LeeVanes$TextReader", "next", "()I"⟩, 3), (⟨"LeeVanes$TextReader", "digit", "(II)I"⟩, 3), (⟨"LeeVanes$TextReader", "readRow", "(LLeeVanes$Town;I)Z"⟩, 3), (⟨"LeeVanes$TextReader", "readPart", "(LLeeVanes$Town;II)Z"⟩, 3), (⟨"LeeVanes$Town", "measureWay", "(IIII)V"⟩, 18), (⟨"LeeVanes$Town", "castVotes", "(II)V"⟩, 18), (⟨"LeeVanes$Town", "winner", "(II)I"⟩, 18), (⟨"LeeVanes", "leastBy", "(IZ)I"⟩, 7), (⟨"LeeVanes", "vaneOrNone", "(II)I"⟩, 7), (⟨"LeeVanes", "tellFine", "(I)I"⟩, 7), (⟨"LeeVanes", "leave", "(I)V"⟩, 7), (⟨"LeeVanes", "tellRich", "(I)I"⟩, 7), (⟨"LeeVanes", "tellWard", "(I)I"⟩, 7)]
theorem lw_r1 : ∀ q ∈ lw_privs_1, lw_okq q := List.forall_mem_cons.mpr ⟨lw_p0, List.forall_mem_cons.mpr ⟨lw_p1, List.forall_mem_cons.mpr ⟨lw_p2, List.forall_mem_cons.mpr ⟨lw_p3, List.forall_mem_cons.mpr ⟨lw_p4, List.forall_mem_cons.mpr ⟨lw_p5, List.forall_mem_cons.mpr ⟨lw_p6, List.forall_mem_cons.mpr ⟨lw_p7, List.forall_mem_cons.mpr ⟨lw_p8, List.forall_mem_cons.mpr ⟨lw_p9, List.forall_mem_cons.mpr ⟨lw_p10, List.forall_mem_cons.mpr ⟨lw_p11, List.forall_mem_cons.mpr ⟨lw_p12, List.forall_mem_cons.mpr ⟨lw_p13, List.forall_mem_cons.mpr ⟨lw_p14, List.forall_mem_cons.mpr ⟨lw_p15, fun _ h => absurd h List.not_mem_nil⟩⟩⟩⟩⟩⟩⟩⟩⟩⟩⟩⟩⟩⟩⟩⟩
theorem lw_p16 : lw_okq (⟨"LeeVanesModel", "refused", "(I)I"⟩, 32) := ⟨⟨by decide +kernel, by decide +kernel⟩, List.mem_of_getElem? (i := 522) (by decide +kernel), List.mem_of_getElem? (i := 636) (by decide +kernel), List.mem_of_getElem? (i := 637) (by decide +kernel)⟩
theorem lw_p17 : lw_okq (⟨"LeeVanesModel", "cellsBarred", "(IIIJ)I"⟩, 32) := ⟨⟨by decide +kernel, by decide +kernel⟩, List.mem_of_getElem? (i := 522) (by decide +kernel), List.mem_of_getElem? (i := 641) (by decide +kernel), List.mem_of_getElem? (i := 642) (by decide +kernel)⟩
theorem lw_p18 : lw_okq (⟨"LeeVanesModel", "failed", "(I)I"⟩, 32) := ⟨⟨by decide +kernel, by decide +kernel⟩, List.mem_of_getElem? (i := 522) (by decide +kernel), List.mem_of_getElem? (i := 645) (by decide +kernel), List.mem_of_getElem? (i := 646) (by decide +kernel)⟩
theorem lw_p19 : lw_okq (⟨"LeeVanesModel", "readsTown", "(II)Z"⟩, 32) := ⟨⟨by decide +kernel, by decide +kernel⟩, List.mem_of_getElem? (i := 522) (by decide +kernel), List.mem_of_getElem? (i := 652) (by decide +kernel), List.mem_of_getElem? (i := 653) (by decide +kernel)⟩
theorem lw_p20 : lw_okq (⟨"LeeVanesModel", "codeAt", "(II)I"⟩, 32) := ⟨⟨by decide +kernel, by decide +kernel⟩, List.mem_of_getElem? (i := 522) (by decide +kernel), List.mem_of_getElem? (i := 656) (by decide +kernel), List.mem_of_getElem? (i := 657) (by decide +kernel)⟩
theorem lw_p21 : lw_okq (⟨"LeeVanesModel", "figure", "(IIII)I"⟩, 32) := ⟨⟨by decide +kernel, by decide +kernel⟩, List.mem_of_getElem? (i := 522) (by decide +kernel), List.mem_of_getElem? (i := 660) (by decide +kernel), List.mem_of_getElem? (i := 661) (by decide +kernel)⟩
theorem lw_p22 : lw_okq (⟨"LeeVanesModel", "readsSpot", "(III)Z"⟩, 32) := ⟨⟨by decide +kernel, by decide +kernel⟩, List.mem_of_getElem? (i := 522) (by decide +kernel), List.mem_of_getElem? (i := 664) (by decide +kernel), List.mem_of_getElem? (i := 665) (by decide +kernel)⟩
theorem lw_p23 : lw_okq (⟨"LeeVanesModel", "readsWork", "(III)Z"⟩, 32) := ⟨⟨by decide +kernel, by decide +kernel⟩, List.mem_of_getElem? (i := 522) (by decide +kernel), List.mem_of_getElem? (i := 668) (by decide +kernel), List.mem_of_getElem? (i := 669) (by decide +kernel)⟩
theorem lw_p24 : lw_okq (⟨"LeeVanesModel", "readsWard", "(IIII)Z"⟩, 32) := ⟨⟨by decide +kernel, by decide +kernel⟩, List.mem_of_getElem? (i := 522) (by decide +kernel), List.mem_of_getElem? (i := 672) (by decide +kernel), List.mem_of_getElem? (i := 673) (by decide +kernel)⟩
theorem lw_p25 : lw_okq (⟨"LeeVanesModel", "noWard", "(I)Z"⟩, 32) := ⟨⟨by decide +kernel, by decide +kernel⟩, List.mem_of_getElem? (i := 522) (by decide +kernel), List.mem_of_getElem? (i := 680) (by decide +kernel), List.mem_of_getElem? (i := 681) (by decide +kernel)⟩
theorem lw_p26 : lw_okq (⟨"LeeVanesModel", "mindsOfOne", "(I)I"⟩, 32) := ⟨⟨by decide +kernel, by decide +kernel⟩, List.mem_of_getElem? (i := 522) (by decide +kernel), List.mem_of_getElem? (i := 684) (by decide +kernel), List.mem_of_getElem? (i := 685) (by decide +kernel)⟩
theorem lw_p27 : lw_okq (⟨"LeeVanesModel", "noWork", "(I)Z"⟩, 32) := ⟨⟨by decide +kernel, by decide +kernel⟩, List.mem_of_getElem? (i := 522) (by decide +kernel), List.mem_of_getElem? (i := 692) (by decide +kernel), List.mem_of_getElem? (i := 693) (by decide +kernel)⟩
theorem lw_p28 : lw_okq (⟨"LeeVanesModel", "noSpot", "(I)Z"⟩, 32) := ⟨⟨by decide +kernel, by decide +kernel⟩, List.mem_of_getElem? (i := 522) (by decide +kernel), List.mem_of_getElem? (i := 708) (by decide +kernel), List.mem_of_getElem? (i := 709) (by decide +kernel)⟩
theorem lw_p29 : lw_okq (⟨"LeeVanesModel", "smellOf", "(I)I"⟩, 32) := ⟨⟨by decide +kernel, by decide +kernel⟩, List.mem_of_getElem? (i := 522) (by decide +kernel), List.mem_of_getElem? (i := 712) (by decide +kernel), List.mem_of_getElem? (i := 713) (by decide +kernel)⟩
theorem lw_p30 : lw_okq (⟨"LeeVanesModel", "comesTo", "(II)I"⟩, 32) := ⟨⟨by decide +kernel, by decide +kernel⟩, List.mem_of_getElem? (i := 522) (by decide +kernel), List.mem_of_getElem? (i := 716) (by decide +kernel), List.mem_of_getElem? (i := 717) (by decide +kernel)⟩
theorem lw_p31 : lw_okq (⟨"LeeVanesModel", "mindsNow", "(I)I"⟩, 32) := ⟨⟨by decide +kernel, by decide +kernel⟩, List.mem_of_getElem? (i := 522) (by decide +kernel), List.mem_of_getElem? (i := 724) (by decide +kernel), List.mem_of_getElem? (i := 725) (by decide +kernel)⟩
def lw_privs_2 : List (MethodName × Nat) := [(⟨"LeeVanesModel", "refused", "(I)I"⟩, 32), (⟨"LeeVanesModel", "cellsBarred", "(IIIJ)I"⟩, 32), (⟨"LeeVanesModel", "failed", "(I)I"⟩, 32), (⟨"LeeVanesModel", "readsTown", "(II)Z"⟩, 32), (⟨"LeeVanesModel", "codeAt", "(II)I"⟩, 32), (⟨"LeeVanesModel", "figure", "(IIII)I"⟩, 32), (⟨"LeeVanesModel", "readsSpot", "(III)Z"⟩, 32), (⟨"LeeVanesModel", "readsWork", "(III)Z"⟩, 32), (⟨"LeeVanesModel", "readsWard", "(IIII)Z"⟩, 32), (⟨"LeeVanesModel", "noWard", "(I)Z"⟩, 32), (⟨"LeeVanesModel", "mindsOfOne", "(I)I"⟩, 32), (⟨"LeeVanesModel", "noWork", "(I)Z"⟩, 32), (⟨"LeeVanesModel", "noSpot", "(I)Z"⟩, 32), (⟨"LeeVanesModel", "smellOf", "(I)I"⟩, 32), (⟨"LeeVanesModel", "comesTo", "(II)I"⟩, 32), (⟨"LeeVanesModel", "mindsNow", "(I)I"⟩, 32)]
theorem lw_r2 : ∀ q ∈ lw_privs_2, lw_okq q := List.forall_mem_cons.mpr ⟨lw_p16, List.forall_mem_cons.mpr ⟨lw_p17, List.forall_mem_cons.mpr ⟨lw_p18, List.forall_mem_cons.mpr ⟨lw_p19, List.forall_mem_cons.mpr ⟨lw_p20, List.forall_mem_cons.mpr ⟨lw_p21, List.forall_mem_cons.mpr ⟨lw_p22, List.forall_mem_cons.mpr ⟨lw_p23, List.forall_mem_cons.mpr ⟨lw_p24, List.forall_mem_cons.mpr ⟨lw_p25, List.forall_mem_cons.mpr ⟨lw_p26, List.forall_mem_cons.mpr ⟨lw_p27, List.forall_mem_cons.mpr ⟨lw_p28, List.forall_mem_cons.mpr ⟨lw_p29, List.forall_mem_cons.mpr ⟨lw_p30, List.forall_mem_cons.mpr ⟨lw_p31, fun _ h => absurd h List.not_mem_nil⟩⟩⟩⟩⟩⟩⟩⟩⟩⟩⟩⟩⟩⟩⟩⟩
theorem lw_p32 : lw_okq (⟨"LeeVanesModel", "burdenNow", "()I"⟩, 32) := ⟨⟨by decide +kernel, by decide +kernel⟩, List.mem_of_getElem? (i := 522) (by decide +kernel), List.mem_of_getElem? (i := 732) (by decide +kernel), List.mem_of_getElem? (i := 733) (by decide +kernel)⟩
theorem lw_p33 : lw_okq (⟨"LeeVanesModel", "vanesNow", "()I"⟩, 32) := ⟨⟨by decide +kernel, by decide +kernel⟩, List.mem_of_getElem? (i := 522) (by decide +kernel), List.mem_of_getElem? (i := 740) (by decide +kernel), List.mem_of_getElem? (i := 741) (by decide +kernel)⟩
theorem lw_p34 : lw_okq (⟨"LeeVanesModel", "turnAll", "(I)V"⟩, 32) := ⟨⟨by decide +kernel, by decide +kernel⟩, List.mem_of_getElem? (i := 522) (by decide +kernel), List.mem_of_getElem? (i := 744) (by decide +kernel), List.mem_of_getElem? (i := 745) (by decide +kernel)⟩
theorem lw_p35 : lw_okq (⟨"LeeVanesModel", "voteOf", "(II)I"⟩, 32) := ⟨⟨by decide +kernel, by decide +kernel⟩, List.mem_of_getElem? (i := 522) (by decide +kernel), List.mem_of_getElem? (i := 752) (by decide +kernel), List.mem_of_getElem? (i := 753) (by decide +kernel)⟩
theorem lw_p36 : lw_okq (⟨"LeeVanesModel", "winsBy", "(III)I"⟩, 32) := ⟨⟨by decide +kernel, by decide +kernel⟩, List.mem_of_getElem? (i := 522) (by decide +kernel), List.mem_of_getElem? (i := 760) (by decide +kernel), List.mem_of_getElem? (i := 761) (by decide +kernel)⟩
theorem lw_p37 : lw_okq (⟨"LeeVanesModel", "goYear", "()I"⟩, 32) := ⟨⟨by decide +kernel, by decide +kernel⟩, List.mem_of_getElem? (i := 522) (by decide +kernel), List.mem_of_getElem? (i := 771) (by decide +kernel), List.mem_of_getElem? (i := 772) (by decide +kernel)⟩
theorem lw_p38 : lw_okq (⟨"LeeVanesModel", "leastRow", "(Z)I"⟩, 32) := ⟨⟨by decide +kernel, by decide +kernel⟩, List.mem_of_getElem? (i := 522) (by decide +kernel), List.mem_of_getElem? (i := 783) (by decide +kernel), List.mem_of_getElem? (i := 784) (by decide +kernel)⟩
theorem lw_p39 : lw_okq (⟨"LeeVanesModel", "rows", "()I"⟩, 32) := ⟨⟨by decide +kernel, by decide +kernel⟩, List.mem_of_getElem? (i := 522) (by decide +kernel), List.mem_of_getElem? (i := 787) (by decide +kernel), List.mem_of_getElem? (i := 788) (by decide +kernel)⟩
theorem lw_p40 : lw_okq (⟨"LeeVanesModel", "mostMinded", "()I"⟩, 32) := ⟨⟨by decide +kernel, by decide +kernel⟩, List.mem_of_getElem? (i := 522) (by decide +kernel), List.mem_of_getElem? (i := 791) (by decide +kernel), List.mem_of_getElem? (i := 792) (by decide +kernel)⟩
theorem lw_p41 : lw_okq (⟨"LeeVanesModel", "vaneIn", "(II)I"⟩, 32) := ⟨⟨by decide +kernel, by decide +kernel⟩, List.mem_of_getElem? (i := 522) (by decide +kernel), List.mem_of_getElem? (i := 795) (by decide +kernel), List.mem_of_getElem? (i := 796) (by decide +kernel)⟩
theorem lw_p42 : lw_okq (⟨"LeeVanesModel", "areSo", "()Z"⟩, 32) := ⟨⟨by decide +kernel, by decide +kernel⟩, List.mem_of_getElem? (i := 522) (by decide +kernel), List.mem_of_getElem? (i := 823) (by decide +kernel), List.mem_of_getElem? (i := 824) (by decide +kernel)⟩
theorem lw_p43 : lw_okq (⟨"LeeVanesModel", "noCell", "(II)I"⟩, 32) := ⟨⟨by decide +kernel, by decide +kernel⟩, List.mem_of_getElem? (i := 522) (by decide +kernel), List.mem_of_getElem? (i := 858) (by decide +kernel), List.mem_of_getElem? (i := 859) (by decide +kernel)⟩
theorem lw_p44 : lw_okq (⟨"LeeVanesModel", "failedLong", "(I)J"⟩, 32) := ⟨⟨by decide +kernel, by decide +kernel⟩, List.mem_of_getElem? (i := 522) (by decide +kernel), List.mem_of_getElem? (i := 866) (by decide +kernel), List.mem_of_getElem? (i := 867) (by decide +kernel)⟩
theorem lw_p45 : lw_okq (⟨"LeeVanesModel", "traced", "(I)V"⟩, 32) := ⟨⟨by decide +kernel, by decide +kernel⟩, List.mem_of_getElem? (i := 522) (by decide +kernel), List.mem_of_getElem? (i := 878) (by decide +kernel), List.mem_of_getElem? (i := 879) (by decide +kernel)⟩
def lw_privs_3 : List (MethodName × Nat) := [(⟨"LeeVanesModel", "burdenNow", "()I"⟩, 32), (⟨"LeeVanesModel", "vanesNow", "()I"⟩, 32), (⟨"LeeVanesModel", "turnAll", "(I)V"⟩, 32), (⟨"LeeVanesModel", "voteOf", "(II)I"⟩, 32), (⟨"LeeVanesModel", "winsBy", "(III)I"⟩, 32), (⟨"LeeVanesModel", "goYear", "()I"⟩, 32), (⟨"LeeVanesModel", "leastRow", "(Z)I"⟩, 32), (⟨"LeeVanesModel", "rows", "()I"⟩, 32), (⟨"LeeVanesModel", "mostMinded", "()I"⟩, 32), (⟨"LeeVanesModel", "vaneIn", "(II)I"⟩, 32), (⟨"LeeVanesModel", "areSo", "()Z"⟩, 32), (⟨"LeeVanesModel", "noCell", "(II)I"⟩, 32), (⟨"LeeVanesModel", "failedLong", "(I)J"⟩, 32), (⟨"LeeVanesModel", "traced", "(I)V"⟩, 32)]
theorem lw_r3 : ∀ q ∈ lw_privs_3, lw_okq q := List.forall_mem_cons.mpr ⟨lw_p32, List.forall_mem_cons.mpr ⟨lw_p33, List.forall_mem_cons.mpr ⟨lw_p34, List.forall_mem_cons.mpr ⟨lw_p35, List.forall_mem_cons.mpr ⟨lw_p36, List.forall_mem_cons.mpr ⟨lw_p37, List.forall_mem_cons.mpr ⟨lw_p38, List.forall_mem_cons.mpr ⟨lw_p39, List.forall_mem_cons.mpr ⟨lw_p40, List.forall_mem_cons.mpr ⟨lw_p41, List.forall_mem_cons.mpr ⟨lw_p42, List.forall_mem_cons.mpr ⟨lw_p43, List.forall_mem_cons.mpr ⟨lw_p44, List.forall_mem_cons.mpr ⟨lw_p45, fun _ h => absurd h List.not_mem_nil⟩⟩⟩⟩⟩⟩⟩⟩⟩⟩⟩⟩⟩⟩
def lw_privs : List (MethodName × Nat) := lw_privs_1 ++ (lw_privs_2 ++ (lw_privs_3))
def lw_tbl : List Cond := k2_sels lw_privs ++ tables_1
theorem lw_privs_ok : ∀ q ∈ lw_privs, lw_okq q := by
  show ∀ q ∈ lw_privs_1 ++ (lw_privs_2 ++ (lw_privs_3)), lw_okq q
  exact List.forall_mem_append.mpr ⟨lw_r1, List.forall_mem_append.mpr ⟨lw_r2, lw_r3⟩⟩
-- ===== end of PART A; then your names; then what follows =====
end
section
/-! ===== BEGIN words of one list among another's, by their places ===== -/
theorem goodIn_r {big : List Cond} (ws : List Cond) (ps : List Nat) (hp : ws = ps.filterMap (fun i => big[i]?)) (h : ws.all goodWord = true) : GoodIn big ws := by
  intro w hw
  have h1 := List.all_eq_true.mp h w hw
  rw [hp] at hw
  obtain ⟨i, -, hi⟩ := List.mem_filterMap.mp hw
  have hm : w ∈ big := by first | exact List.mem_of_getElem? hi | exact List.getElem?_mem hi
  exact ⟨hm, good_of_word h1⟩
theorem goodIn_app {big a b : List Cond} (ha : GoodIn big a) (hb : GoodIn big b) : GoodIn big (a ++ b) := fun w h => (List.mem_append.mp h).elim (ha w) (hb w)
theorem goodIn_ca {big a b : List Cond} {c : Cond} (ha : GoodIn big (c :: a)) (hb : GoodIn big b) : GoodIn big (c :: (a ++ b)) := fun w h => (List.mem_cons.mp h).elim (fun e => ha w (List.mem_cons.mpr (Or.inl e))) (fun h => (List.mem_append.mp h).elim (fun h => ha w (List.mem_cons.mpr (Or.inr h))) (hb w))
theorem goodIn_sub {big ws : List Cond} (hm : ∀ w ∈ ws, w ∈ big) (h : ws.all goodWord = true) : GoodIn big ws := fun w hw => ⟨hm w hw, good_of_word (List.all_eq_true.mp h w hw)⟩
/-! ===== END ===== -/

/-! ===== BEGIN printed: names, fields, word lists, decode rows ===== -/
def RX0 : String := "LeeVanes$Sheet"
def TX0 : u_T := fun k => match k with
  | 0 => ("LeeVanes$Sheet", "row", "[I", true)
  | 1 => ("LeeVanes$Sheet", "lane", "I", false)
  | _ => ("LeeVanes$Sheet", "size", "I", false)
def tyX0 : Nat → FieldType := fun k => match k with
  | 0 => .array .int
  | 1 => .int
  | _ => .int
abbrev wsX00 : List Cond := u_ws RX0 TX0 3
theorem nmX0 : ∀ a, a < 3 → ∀ b, b < 3 → a ≠ b → (TX0 a).2.1 ≠ (TX0 b).2.1 := by decide +kernel
theorem tyX0_ok : ∀ k, k < 3 → parseFieldDescriptor (TX0 k).2.2.1 = some (tyX0 k) := by decide +kernel
abbrev cX0_init : ByteArray := prog_2_method_1_code
def yX0_init : MethodName := ⟨RX0, "<init>", "()V"⟩
abbrev cX0_hasRow : ByteArray := prog_2_method_2_code
def yX0_hasRow : MethodName := ⟨RX0, "hasRow", "()Z"⟩
abbrev cX0_renew : ByteArray := prog_2_method_3_code
def yX0_renew : MethodName := ⟨RX0, "renew", "(II)V"⟩
abbrev cX0_cut : ByteArray := prog_2_method_4_code
def yX0_cut : MethodName := ⟨RX0, "cut", "(I)I"⟩
abbrev cX0_holds : ByteArray := prog_2_method_5_code
def yX0_holds : MethodName := ⟨RX0, "holds", "(II)Z"⟩
abbrev cX0_faultOfTaking : ByteArray := prog_2_method_6_code
def yX0_faultOfTaking : MethodName := ⟨RX0, "faultOfTaking", "(III)I"⟩
def RX1 : String := "LeeVanes$TextReader"
def TX1 : u_T := fun k => match k with
  | 0 => ("LeeVanes$TextReader", "codes", "[I", true)
  | 1 => ("LeeVanes$TextReader", "size", "I", false)
  | _ => ("LeeVanes$TextReader", "place", "I", false)
def tyX1 : Nat → FieldType := fun k => match k with
  | 0 => .array .int
  | 1 => .int
  | _ => .int
abbrev wsX10 : List Cond := u_ws RX1 TX1 3
theorem nmX1 : ∀ a, a < 3 → ∀ b, b < 3 → a ≠ b → (TX1 a).2.1 ≠ (TX1 b).2.1 := by decide +kernel
theorem tyX1_ok : ∀ k, k < 3 → parseFieldDescriptor (TX1 k).2.2.1 = some (tyX1 k) := by decide +kernel
abbrev cX1_init : ByteArray := prog_3_method_1_code
def yX1_init : MethodName := ⟨RX1, "<init>", "()V"⟩
abbrev cX1_load : ByteArray := prog_3_method_2_code
def yX1_load : MethodName := ⟨RX1, "load", "(LLeeVanes$Sheet;II)V"⟩
abbrev cX1_readInto : ByteArray := prog_3_method_3_code
def yX1_readInto : MethodName := ⟨RX1, "readInto", "(LLeeVanes$Town;)Z"⟩
abbrev cX1_readRow : ByteArray := prog_3_method_4_code
def yX1_readRow : MethodName := ⟨RX1, "readRow", "(LLeeVanes$Town;I)Z"⟩
abbrev cX1_readPart : ByteArray := prog_3_method_5_code
def yX1_readPart : MethodName := ⟨RX1, "readPart", "(LLeeVanes$Town;II)Z"⟩
abbrev cX1_kindOf : ByteArray := prog_3_method_6_code
def yX1_kindOf : MethodName := ⟨RX1, "kindOf", "(I)I"⟩
abbrev cX1_next : ByteArray := prog_3_method_7_code
def yX1_next : MethodName := ⟨RX1, "next", "()I"⟩
abbrev cX1_takes : ByteArray := prog_3_method_8_code
def yX1_takes : MethodName := ⟨RX1, "takes", "(I)Z"⟩
abbrev cX1_digit : ByteArray := prog_3_method_9_code
def yX1_digit : MethodName := ⟨RX1, "digit", "(II)I"⟩
def RX2 : String := "LeeVanes$Town"
def TX2 : u_T := fun k => match k with
  | 0 => ("LeeVanes$Town", "kinds", "[I", true)
  | 1 => ("LeeVanes$Town", "noses", "[I", true)
  | 2 => ("LeeVanes$Town", "wardCells", "[I", true)
  | 3 => ("LeeVanes$Town", "workCells", "[I", true)
  | 4 => ("LeeVanes$Town", "strengths", "[I", true)
  | 5 => ("LeeVanes$Town", "readingCells", "[I", true)
  | 6 => ("LeeVanes$Town", "readingSmells", "[I", true)
  | 7 => ("LeeVanes$Town", "distances", "[I", true)
  | 8 => ("LeeVanes$Town", "votes", "[I", true)
  | 9 => ("LeeVanes$Town", "stands", "Z", false)
  | 10 => ("LeeVanes$Town", "high", "I", false)
  | 11 => ("LeeVanes$Town", "wide", "I", false)
  | 12 => ("LeeVanes$Town", "cells", "I", false)
  | 13 => ("LeeVanes$Town", "works", "I", false)
  | 14 => ("LeeVanes$Town", "wards", "I", false)
  | 15 => ("LeeVanes$Town", "lawNow", "I", false)
  | 16 => ("LeeVanes$Town", "setting", "I", false)
  | _ => ("LeeVanes$Town", "readings", "I", false)
def tyX2 : Nat → FieldType := fun k => match k with
  | 0 => .array .int
  | 1 => .array .int
  | 2 => .array .int
  | 3 => .array .int
  | 4 => .array .int
  | 5 => .array .int
  | 6 => .array .int
  | 7 => .array .int
  | 8 => .array .int
  | 9 => .boolean
  | 10 => .int
  | 11 => .int
  | 12 => .int
  | 13 => .int
  | 14 => .int
  | 15 => .int
  | 16 => .int
  | _ => .int
abbrev wsX20 : List Cond := u_ws RX2 TX2 18
theorem nmX2 : ∀ a, a < 18 → ∀ b, b < 18 → a ≠ b → (TX2 a).2.1 ≠ (TX2 b).2.1 := by decide +kernel
theorem tyX2_ok : ∀ k, k < 18 → parseFieldDescriptor (TX2 k).2.2.1 = some (tyX2 k) := by decide +kernel
abbrev cX2_init : ByteArray := prog_4_method_1_code
def yX2_init : MethodName := ⟨RX2, "<init>", "()V"⟩
abbrev cX2_clear : ByteArray := prog_4_method_2_code
def yX2_clear : MethodName := ⟨RX2, "clear", "()V"⟩
abbrev cX2_measure : ByteArray := prog_4_method_3_code
def yX2_measure : MethodName := ⟨RX2, "measure", "(II)V"⟩
abbrev cX2_addWard : ByteArray := prog_4_method_4_code
def yX2_addWard : MethodName := ⟨RX2, "addWard", "(III)V"⟩
abbrev cX2_addWork : ByteArray := prog_4_method_5_code
def yX2_addWork : MethodName := ⟨RX2, "addWork", "(III)V"⟩
abbrev cX2_measureWay : ByteArray := prog_4_method_6_code
def yX2_measureWay : MethodName := ⟨RX2, "measureWay", "(IIII)V"⟩
abbrev cX2_wayIndex : ByteArray := prog_4_method_7_code
def yX2_wayIndex : MethodName := ⟨RX2, "wayIndex", "(II)I"⟩
abbrev cX2_hasCell : ByteArray := prog_4_method_8_code
def yX2_hasCell : MethodName := ⟨RX2, "hasCell", "(I)Z"⟩
abbrev cX2_hasWork : ByteArray := prog_4_method_9_code
def yX2_hasWork : MethodName := ⟨RX2, "hasWork", "(I)Z"⟩
abbrev cX2_hasWard : ByteArray := prog_4_method_10_code
def yX2_hasWard : MethodName := ⟨RX2, "hasWard", "(I)Z"⟩
abbrev cX2_settingsInAll : ByteArray := prog_4_method_11_code
def yX2_settingsInAll : MethodName := ⟨RX2, "settingsInAll", "()I"⟩
abbrev cX2_vaneIn : ByteArray := prog_4_method_12_code
def yX2_vaneIn : MethodName := ⟨RX2, "vaneIn", "(II)I"⟩
abbrev cX2_turned : ByteArray := prog_4_method_13_code
def yX2_turned : MethodName := ⟨RX2, "turned", "(III)I"⟩
abbrev cX2_factorOf : ByteArray := prog_4_method_14_code
def yX2_factorOf : MethodName := ⟨RX2, "factorOf", "(I)I"⟩
abbrev cX2_smellBy : ByteArray := prog_4_method_15_code
def yX2_smellBy : MethodName := ⟨RX2, "smellBy", "(II)I"⟩
abbrev cX2_mindedBy : ByteArray := prog_4_method_16_code
def yX2_mindedBy : MethodName := ⟨RX2, "mindedBy", "(II)I"⟩
abbrev cX2_burdenBy : ByteArray := prog_4_method_17_code
def yX2_burdenBy : MethodName := ⟨RX2, "burdenBy", "(I)I"⟩
abbrev cX2_mostMindedBy : ByteArray := prog_4_method_18_code
def yX2_mostMindedBy : MethodName := ⟨RX2, "mostMindedBy", "(I)I"⟩
abbrev cX2_voteBy : ByteArray := prog_4_method_19_code
def yX2_voteBy : MethodName := ⟨RX2, "voteBy", "(III)I"⟩
abbrev cX2_castVotes : ByteArray := prog_4_method_20_code
def yX2_castVotes : MethodName := ⟨RX2, "castVotes", "(II)V"⟩
abbrev cX2_winner : ByteArray := prog_4_method_21_code
def yX2_winner : MethodName := ⟨RX2, "winner", "(II)I"⟩
abbrev cX2_ballotBy : ByteArray := prog_4_method_22_code
def yX2_ballotBy : MethodName := ⟨RX2, "ballotBy", "(II)I"⟩
abbrev cX2_fewestBribed : ByteArray := prog_4_method_23_code
def yX2_fewestBribed : MethodName := ⟨RX2, "fewestBribed", "(II)I"⟩
abbrev cX2_yearAfter : ByteArray := prog_4_method_24_code
def yX2_yearAfter : MethodName := ⟨RX2, "yearAfter", "(I)I"⟩
abbrev cX2_leastSetting : ByteArray := prog_4_method_25_code
def yX2_leastSetting : MethodName := ⟨RX2, "leastSetting", "(Z)I"⟩
abbrev cX2_agreesBy : ByteArray := prog_4_method_26_code
def yX2_agreesBy : MethodName := ⟨RX2, "agreesBy", "(I)Z"⟩
def RX3 : String := "LeeVanes"
def TX3 : u_T := fun k => match k with
  | 0 => ("LeeVanes", "sheets", "[LLeeVanes$Sheet;", true)
  | 1 => ("LeeVanes", "reader", "LLeeVanes$TextReader;", true)
  | 2 => ("LeeVanes", "firstYear", "[I", true)
  | 3 => ("LeeVanes", "present", "LLeeVanes$Town;", false)
  | 4 => ("LeeVanes", "spare", "LLeeVanes$Town;", false)
  | 5 => ("LeeVanes", "traced", "I", false)
  | _ => ("LeeVanes", "lastFault", "I", false)
def tyX3 : Nat → FieldType := fun k => match k with
  | 0 => .array (.object "LeeVanes$Sheet")
  | 1 => .object "LeeVanes$TextReader"
  | 2 => .array .int
  | 3 => .object "LeeVanes$Town"
  | 4 => .object "LeeVanes$Town"
  | 5 => .int
  | _ => .int
abbrev wsX30 : List Cond := u_ws RX3 TX3 7
theorem nmX3 : ∀ a, a < 7 → ∀ b, b < 7 → a ≠ b → (TX3 a).2.1 ≠ (TX3 b).2.1 := by decide +kernel
theorem tyX3_ok : ∀ k, k < 7 → parseFieldDescriptor (TX3 k).2.2.1 = some (tyX3 k) := by decide +kernel
abbrev cX3_init : ByteArray := prog_1_method_1_code
def yX3_init : MethodName := ⟨RX3, "<init>", "()V"⟩
abbrev cX3_town : ByteArray := prog_1_method_2_code
def yX3_town : MethodName := ⟨RX3, "town", "(IIII)I"⟩
abbrev cX3_ofWard : ByteArray := prog_1_method_3_code
def yX3_ofWard : MethodName := ⟨RX3, "ofWard", "(II)I"⟩
abbrev cX3_ofWork : ByteArray := prog_1_method_4_code
def yX3_ofWork : MethodName := ⟨RX3, "ofWork", "(II)I"⟩
abbrev cX3_law : ByteArray := prog_1_method_5_code
def yX3_law : MethodName := ⟨RX3, "law", "(I)I"⟩
abbrev cX3_turn : ByteArray := prog_1_method_6_code
def yX3_turn : MethodName := ⟨RX3, "turn", "(II)I"⟩
abbrev cX3_smell : ByteArray := prog_1_method_7_code
def yX3_smell : MethodName := ⟨RX3, "smell", "(I)I"⟩
abbrev cX3_minds : ByteArray := prog_1_method_8_code
def yX3_minds : MethodName := ⟨RX3, "minds", "(I)I"⟩
abbrev cX3_burden : ByteArray := prog_1_method_9_code
def yX3_burden : MethodName := ⟨RX3, "burden", "()I"⟩
abbrev cX3_told : ByteArray := prog_1_method_10_code
def yX3_told : MethodName := ⟨RX3, "told", "(IIII)I"⟩
abbrev cX3_vote : ByteArray := prog_1_method_11_code
def yX3_vote : MethodName := ⟨RX3, "vote", "(II)I"⟩
abbrev cX3_ballot : ByteArray := prog_1_method_12_code
def yX3_ballot : MethodName := ⟨RX3, "ballot", "(I)I"⟩
abbrev cX3_year : ByteArray := prog_1_method_13_code
def yX3_year : MethodName := ⟨RX3, "year", "()I"⟩
abbrev cX3_round : ByteArray := prog_1_method_14_code
def yX3_round : MethodName := ⟨RX3, "round", "(I)I"⟩
abbrev cX3_best : ByteArray := prog_1_method_15_code
def yX3_best : MethodName := ⟨RX3, "best", "(I)I"⟩
abbrev cX3_calm : ByteArray := prog_1_method_16_code
def yX3_calm : MethodName := ⟨RX3, "calm", "(I)I"⟩
abbrev cX3_bribe : ByteArray := prog_1_method_17_code
def yX3_bribe : MethodName := ⟨RX3, "bribe", "(II)I"⟩
abbrev cX3_reading : ByteArray := prog_1_method_18_code
def yX3_reading : MethodName := ⟨RX3, "reading", "(II)I"⟩
abbrev cX3_back : ByteArray := prog_1_method_19_code
def yX3_back : MethodName := ⟨RX3, "back", "(I)I"⟩
abbrev cX3_settings : ByteArray := prog_1_method_20_code
def yX3_settings : MethodName := ⟨RX3, "settings", "(I)I"⟩
abbrev cX3_laws : ByteArray := prog_1_method_21_code
def yX3_laws : MethodName := ⟨RX3, "laws", "()I"⟩
abbrev cX3_powers : ByteArray := prog_1_method_22_code
def yX3_powers : MethodName := ⟨RX3, "powers", "(I)I"⟩
abbrev cX3_odds : ByteArray := prog_1_method_23_code
def yX3_odds : MethodName := ⟨RX3, "odds", "(III)J"⟩
abbrev cX3_sheet : ByteArray := prog_1_method_24_code
def yX3_sheet : MethodName := ⟨RX3, "sheet", "(III)I"⟩
abbrev cX3_lose : ByteArray := prog_1_method_25_code
def yX3_lose : MethodName := ⟨RX3, "lose", "(I)I"⟩
abbrev cX3_put : ByteArray := prog_1_method_26_code
def yX3_put : MethodName := ⟨RX3, "put", "(III)I"⟩
abbrev cX3_cell : ByteArray := prog_1_method_27_code
def yX3_cell : MethodName := ⟨RX3, "cell", "(III)J"⟩
abbrev cX3_copy : ByteArray := prog_1_method_28_code
def yX3_copy : MethodName := ⟨RX3, "copy", "(IIIII)I"⟩
abbrev cX3_tell : ByteArray := prog_1_method_29_code
def yX3_tell : MethodName := ⟨RX3, "tell", "(I)I"⟩
abbrev cX3_woo : ByteArray := prog_1_method_30_code
def yX3_woo : MethodName := ⟨RX3, "woo", "(I)I"⟩
abbrev cX3_as : ByteArray := prog_1_method_31_code
def yX3_as : MethodName := ⟨RX3, "as", "(II)I"⟩
abbrev cX3_trace : ByteArray := prog_1_method_32_code
def yX3_trace : MethodName := ⟨RX3, "trace", "()I"⟩
abbrev cX3_fault : ByteArray := prog_1_method_33_code
def yX3_fault : MethodName := ⟨RX3, "fault", "()I"⟩
abbrev cX3_many : ByteArray := prog_1_method_34_code
def yX3_many : MethodName := ⟨RX3, "many", "(I)I"⟩
abbrev cX3_isUpTo : ByteArray := prog_1_method_35_code
def yX3_isUpTo : MethodName := ⟨RX3, "isUpTo", "(II)Z"⟩
abbrev cX3_read : ByteArray := prog_1_method_36_code
def yX3_read : MethodName := ⟨RX3, "read", "([II)I"⟩
abbrev cX3_write : ByteArray := prog_1_method_37_code
def yX3_write : MethodName := ⟨RX3, "write", "([III)V"⟩
abbrev cX3_sheetAt : ByteArray := prog_1_method_38_code
def yX3_sheetAt : MethodName := ⟨RX3, "sheetAt", "(I)LLeeVanes$Sheet;"⟩
abbrev cX3_fail : ByteArray := prog_1_method_39_code
def yX3_fail : MethodName := ⟨RX3, "fail", "(I)I"⟩
abbrev cX3_leastBy : ByteArray := prog_1_method_40_code
def yX3_leastBy : MethodName := ⟨RX3, "leastBy", "(IZ)I"⟩
abbrev cX3_vaneOrNone : ByteArray := prog_1_method_41_code
def yX3_vaneOrNone : MethodName := ⟨RX3, "vaneOrNone", "(II)I"⟩
abbrev cX3_leave : ByteArray := prog_1_method_42_code
def yX3_leave : MethodName := ⟨RX3, "leave", "(I)V"⟩
abbrev cX3_tellWard : ByteArray := prog_1_method_43_code
def yX3_tellWard : MethodName := ⟨RX3, "tellWard", "(I)I"⟩
abbrev cX3_tellRich : ByteArray := prog_1_method_44_code
def yX3_tellRich : MethodName := ⟨RX3, "tellRich", "(I)I"⟩
abbrev cX3_tellFine : ByteArray := prog_1_method_45_code
def yX3_tellFine : MethodName := ⟨RX3, "tellFine", "(I)I"⟩
def RX4 : String := "LeeVanesModel"
def TX4 : u_T := fun k => match k with
  | 0 => ("LeeVanesModel", "fault", "I", false)
  | 1 => ("LeeVanesModel", "high", "I", false)
  | 2 => ("LeeVanesModel", "wide", "I", false)
  | 3 => ("LeeVanesModel", "works", "I", false)
  | 4 => ("LeeVanesModel", "workIn", "[I", true)
  | 5 => ("LeeVanesModel", "strongOf", "[I", true)
  | 6 => ("LeeVanesModel", "vaneOf", "[I", true)
  | 7 => ("LeeVanesModel", "wards", "I", false)
  | 8 => ("LeeVanesModel", "wardIn", "[I", true)
  | 9 => ("LeeVanesModel", "kindOf", "[I", true)
  | 10 => ("LeeVanesModel", "noseOf", "[I", true)
  | 11 => ("LeeVanesModel", "lawNow", "I", false)
  | 12 => ("LeeVanesModel", "readAt", "I", false)
  | 13 => ("LeeVanesModel", "readHigh", "I", false)
  | 14 => ("LeeVanesModel", "readWide", "I", false)
  | 15 => ("LeeVanesModel", "readWorks", "I", false)
  | 16 => ("LeeVanesModel", "readWards", "I", false)
  | 17 => ("LeeVanesModel", "readWork", "[I", true)
  | 18 => ("LeeVanesModel", "readStrong", "[I", true)
  | 19 => ("LeeVanesModel", "readWard", "[I", true)
  | 20 => ("LeeVanesModel", "readKind", "[I", true)
  | 21 => ("LeeVanesModel", "readNose", "[I", true)
  | 22 => ("LeeVanesModel", "firstIn", "[I", true)
  | 23 => ("LeeVanesModel", "leastIs", "I", false)
  | 24 => ("LeeVanesModel", "readings", "I", false)
  | 25 => ("LeeVanesModel", "readingOf", "[I", true)
  | 26 => ("LeeVanesModel", "readingSmell", "[I", true)
  | 27 => ("LeeVanesModel", "sheetSize", "[I", true)
  | 28 => ("LeeVanesModel", "sheetLane", "[I", true)
  | 29 => ("LeeVanesModel", "sheet", "[I", true)
  | 30 => ("LeeVanesModel", "hands", "[I", true)
  | _ => ("LeeVanesModel", "traceNow", "I", false)
def tyX4 : Nat → FieldType := fun k => match k with
  | 0 => .int
  | 1 => .int
  | 2 => .int
  | 3 => .int
  | 4 => .array .int
  | 5 => .array .int
  | 6 => .array .int
  | 7 => .int
  | 8 => .array .int
  | 9 => .array .int
  | 10 => .array .int
  | 11 => .int
  | 12 => .int
  | 13 => .int
  | 14 => .int
  | 15 => .int
  | 16 => .int
  | 17 => .array .int
  | 18 => .array .int
  | 19 => .array .int
  | 20 => .array .int
  | 21 => .array .int
  | 22 => .array .int
  | 23 => .int
  | 24 => .int
  | 25 => .array .int
  | 26 => .array .int
  | 27 => .array .int
  | 28 => .array .int
  | 29 => .array .int
  | 30 => .array .int
  | _ => .int
abbrev wsX40 : List Cond := u_ws RX4 TX4 32
theorem nmX4 : ∀ a, a < 32 → ∀ b, b < 32 → a ≠ b → (TX4 a).2.1 ≠ (TX4 b).2.1 := by decide +kernel
theorem tyX4_ok : ∀ k, k < 32 → parseFieldDescriptor (TX4 k).2.2.1 = some (tyX4 k) := by decide +kernel
abbrev cX4_init : ByteArray := prog_6_method_1_code
def yX4_init : MethodName := ⟨RX4, "<init>", "()V"⟩
abbrev cX4_in : ByteArray := prog_6_method_2_code
def yX4_in : MethodName := ⟨RX4, "in", "(JJJ)Z"⟩
abbrev cX4_lost : ByteArray := prog_6_method_3_code
def yX4_lost : MethodName := ⟨RX4, "lost", "()J"⟩
abbrev cX4_isIn : ByteArray := prog_6_method_4_code
def yX4_isIn : MethodName := ⟨RX4, "isIn", "(II)Z"⟩
abbrev cX4_bits : ByteArray := prog_6_method_5_code
def yX4_bits : MethodName := ⟨RX4, "bits", "(I)I"⟩
abbrev cX4_share : ByteArray := prog_6_method_6_code
def yX4_share : MethodName := ⟨RX4, "share", "(JJI)J"⟩
abbrev cX4_refused : ByteArray := prog_6_method_7_code
def yX4_refused : MethodName := ⟨RX4, "refused", "(I)I"⟩
abbrev cX4_failed : ByteArray := prog_6_method_8_code
def yX4_failed : MethodName := ⟨RX4, "failed", "(I)I"⟩
abbrev cX4_failedLong : ByteArray := prog_6_method_9_code
def yX4_failedLong : MethodName := ⟨RX4, "failedLong", "(I)J"⟩
abbrev cX4_noSpot : ByteArray := prog_6_method_10_code
def yX4_noSpot : MethodName := ⟨RX4, "noSpot", "(I)Z"⟩
abbrev cX4_noWork : ByteArray := prog_6_method_11_code
def yX4_noWork : MethodName := ⟨RX4, "noWork", "(I)Z"⟩
abbrev cX4_noWard : ByteArray := prog_6_method_12_code
def yX4_noWard : MethodName := ⟨RX4, "noWard", "(I)Z"⟩
abbrev cX4_codeAt : ByteArray := prog_6_method_13_code
def yX4_codeAt : MethodName := ⟨RX4, "codeAt", "(II)I"⟩
abbrev cX4_figure : ByteArray := prog_6_method_14_code
def yX4_figure : MethodName := ⟨RX4, "figure", "(IIII)I"⟩
abbrev cX4_readsWork : ByteArray := prog_6_method_15_code
def yX4_readsWork : MethodName := ⟨RX4, "readsWork", "(III)Z"⟩
abbrev cX4_readsWard : ByteArray := prog_6_method_16_code
def yX4_readsWard : MethodName := ⟨RX4, "readsWard", "(IIII)Z"⟩
abbrev cX4_readsSpot : ByteArray := prog_6_method_17_code
def yX4_readsSpot : MethodName := ⟨RX4, "readsSpot", "(III)Z"⟩
abbrev cX4_readsTown : ByteArray := prog_6_method_18_code
def yX4_readsTown : MethodName := ⟨RX4, "readsTown", "(II)Z"⟩
abbrev cX4_cellsBarred : ByteArray := prog_6_method_19_code
def yX4_cellsBarred : MethodName := ⟨RX4, "cellsBarred", "(IIIJ)I"⟩
abbrev cX4_town : ByteArray := prog_6_method_20_code
def yX4_town : MethodName := ⟨RX4, "town", "(IIII)I"⟩
abbrev cX4_mindsOfOne : ByteArray := prog_6_method_21_code
def yX4_mindsOfOne : MethodName := ⟨RX4, "mindsOfOne", "(I)I"⟩
abbrev cX4_ofWard : ByteArray := prog_6_method_22_code
def yX4_ofWard : MethodName := ⟨RX4, "ofWard", "(II)I"⟩
abbrev cX4_ofWork : ByteArray := prog_6_method_23_code
def yX4_ofWork : MethodName := ⟨RX4, "ofWork", "(II)I"⟩
abbrev cX4_law : ByteArray := prog_6_method_24_code
def yX4_law : MethodName := ⟨RX4, "law", "(I)I"⟩
abbrev cX4_turn : ByteArray := prog_6_method_25_code
def yX4_turn : MethodName := ⟨RX4, "turn", "(II)I"⟩
abbrev cX4_comesTo : ByteArray := prog_6_method_26_code
def yX4_comesTo : MethodName := ⟨RX4, "comesTo", "(II)I"⟩
abbrev cX4_smellOf : ByteArray := prog_6_method_27_code
def yX4_smellOf : MethodName := ⟨RX4, "smellOf", "(I)I"⟩
abbrev cX4_smell : ByteArray := prog_6_method_28_code
def yX4_smell : MethodName := ⟨RX4, "smell", "(I)I"⟩
abbrev cX4_mindsNow : ByteArray := prog_6_method_29_code
def yX4_mindsNow : MethodName := ⟨RX4, "mindsNow", "(I)I"⟩
abbrev cX4_minds : ByteArray := prog_6_method_30_code
def yX4_minds : MethodName := ⟨RX4, "minds", "(I)I"⟩
abbrev cX4_burdenNow : ByteArray := prog_6_method_31_code
def yX4_burdenNow : MethodName := ⟨RX4, "burdenNow", "()I"⟩
abbrev cX4_burden : ByteArray := prog_6_method_32_code
def yX4_burden : MethodName := ⟨RX4, "burden", "()I"⟩
abbrev cX4_vanesNow : ByteArray := prog_6_method_33_code
def yX4_vanesNow : MethodName := ⟨RX4, "vanesNow", "()I"⟩
abbrev cX4_turnAll : ByteArray := prog_6_method_34_code
def yX4_turnAll : MethodName := ⟨RX4, "turnAll", "(I)V"⟩
abbrev cX4_rows : ByteArray := prog_6_method_35_code
def yX4_rows : MethodName := ⟨RX4, "rows", "()I"⟩
abbrev cX4_told : ByteArray := prog_6_method_36_code
def yX4_told : MethodName := ⟨RX4, "told", "(IIII)I"⟩
abbrev cX4_voteOf : ByteArray := prog_6_method_37_code
def yX4_voteOf : MethodName := ⟨RX4, "voteOf", "(II)I"⟩
abbrev cX4_vote : ByteArray := prog_6_method_38_code
def yX4_vote : MethodName := ⟨RX4, "vote", "(II)I"⟩
abbrev cX4_winsBy : ByteArray := prog_6_method_39_code
def yX4_winsBy : MethodName := ⟨RX4, "winsBy", "(III)I"⟩
abbrev cX4_ballot : ByteArray := prog_6_method_40_code
def yX4_ballot : MethodName := ⟨RX4, "ballot", "(I)I"⟩
abbrev cX4_goYear : ByteArray := prog_6_method_41_code
def yX4_goYear : MethodName := ⟨RX4, "goYear", "()I"⟩
abbrev cX4_year : ByteArray := prog_6_method_42_code
def yX4_year : MethodName := ⟨RX4, "year", "()I"⟩
abbrev cX4_round : ByteArray := prog_6_method_43_code
def yX4_round : MethodName := ⟨RX4, "round", "(I)I"⟩
abbrev cX4_mostMinded : ByteArray := prog_6_method_44_code
def yX4_mostMinded : MethodName := ⟨RX4, "mostMinded", "()I"⟩
abbrev cX4_leastRow : ByteArray := prog_6_method_45_code
def yX4_leastRow : MethodName := ⟨RX4, "leastRow", "(Z)I"⟩
abbrev cX4_vaneIn : ByteArray := prog_6_method_46_code
def yX4_vaneIn : MethodName := ⟨RX4, "vaneIn", "(II)I"⟩
abbrev cX4_best : ByteArray := prog_6_method_47_code
def yX4_best : MethodName := ⟨RX4, "best", "(I)I"⟩
abbrev cX4_calm : ByteArray := prog_6_method_48_code
def yX4_calm : MethodName := ⟨RX4, "calm", "(I)I"⟩
abbrev cX4_bribe : ByteArray := prog_6_method_49_code
def yX4_bribe : MethodName := ⟨RX4, "bribe", "(II)I"⟩
abbrev cX4_reading : ByteArray := prog_6_method_50_code
def yX4_reading : MethodName := ⟨RX4, "reading", "(II)I"⟩
abbrev cX4_back : ByteArray := prog_6_method_51_code
def yX4_back : MethodName := ⟨RX4, "back", "(I)I"⟩
abbrev cX4_areSo : ByteArray := prog_6_method_52_code
def yX4_areSo : MethodName := ⟨RX4, "areSo", "()Z"⟩
abbrev cX4_settings : ByteArray := prog_6_method_53_code
def yX4_settings : MethodName := ⟨RX4, "settings", "(I)I"⟩
abbrev cX4_laws : ByteArray := prog_6_method_54_code
def yX4_laws : MethodName := ⟨RX4, "laws", "()I"⟩
abbrev cX4_powers : ByteArray := prog_6_method_55_code
def yX4_powers : MethodName := ⟨RX4, "powers", "(I)I"⟩
abbrev cX4_odds : ByteArray := prog_6_method_56_code
def yX4_odds : MethodName := ⟨RX4, "odds", "(III)J"⟩
abbrev cX4_noSheet : ByteArray := prog_6_method_57_code
def yX4_noSheet : MethodName := ⟨RX4, "noSheet", "(I)Z"⟩
abbrev cX4_sheet : ByteArray := prog_6_method_58_code
def yX4_sheet : MethodName := ⟨RX4, "sheet", "(III)I"⟩
abbrev cX4_lose : ByteArray := prog_6_method_59_code
def yX4_lose : MethodName := ⟨RX4, "lose", "(I)I"⟩
abbrev cX4_noCell : ByteArray := prog_6_method_60_code
def yX4_noCell : MethodName := ⟨RX4, "noCell", "(II)I"⟩
abbrev cX4_put : ByteArray := prog_6_method_61_code
def yX4_put : MethodName := ⟨RX4, "put", "(III)I"⟩
abbrev cX4_cell : ByteArray := prog_6_method_62_code
def yX4_cell : MethodName := ⟨RX4, "cell", "(III)J"⟩
abbrev cX4_isBeyond : ByteArray := prog_6_method_63_code
def yX4_isBeyond : MethodName := ⟨RX4, "isBeyond", "(IJI)Z"⟩
abbrev cX4_copy : ByteArray := prog_6_method_64_code
def yX4_copy : MethodName := ⟨RX4, "copy", "(IIIII)I"⟩
abbrev cX4_traced : ByteArray := prog_6_method_65_code
def yX4_traced : MethodName := ⟨RX4, "traced", "(I)V"⟩
abbrev cX4_tell : ByteArray := prog_6_method_66_code
def yX4_tell : MethodName := ⟨RX4, "tell", "(I)I"⟩
abbrev cX4_woo : ByteArray := prog_6_method_67_code
def yX4_woo : MethodName := ⟨RX4, "woo", "(I)I"⟩
abbrev cX4_as : ByteArray := prog_6_method_68_code
def yX4_as : MethodName := ⟨RX4, "as", "(II)I"⟩
abbrev cX4_trace : ByteArray := prog_6_method_69_code
def yX4_trace : MethodName := ⟨RX4, "trace", "()I"⟩
abbrev cX4_fault : ByteArray := prog_6_method_70_code
def yX4_fault : MethodName := ⟨RX4, "fault", "()I"⟩
abbrev cX4_many : ByteArray := prog_6_method_71_code
def yX4_many : MethodName := ⟨RX4, "many", "(I)I"⟩
def RJ6 : String := "java/lang/Integer"
def TJ6 : u_T := fun k => match k with
  | _ => ("", "", "", false)
def tyJ6 : Nat → FieldType := fun k => match k with
  | _ => .int
abbrev wsJ60 : List Cond := u_ws RJ6 TJ6 0
theorem nmJ6 : ∀ a, a < 0 → ∀ b, b < 0 → a ≠ b → (TJ6 a).2.1 ≠ (TJ6 b).2.1 := by decide +kernel
theorem tyJ6_ok : ∀ k, k < 0 → parseFieldDescriptor (TJ6 k).2.2.1 = some (tyJ6 k) := by decide +kernel
abbrev cJ6_bitCount_0f7a4 : ByteArray := prog_7_method_49_code
def yJ6_bitCount_0f7a4 : MethodName := ⟨RJ6, "bitCount", "(I)I"⟩
def RJ9 : String := "java/lang/Math"
def TJ9 : u_T := fun k => match k with
  | _ => ("", "", "", false)
def tyJ9 : Nat → FieldType := fun k => match k with
  | _ => .int
abbrev wsJ90 : List Cond := u_ws RJ9 TJ9 0
theorem nmJ9 : ∀ a, a < 0 → ∀ b, b < 0 → a ≠ b → (TJ9 a).2.1 ≠ (TJ9 b).2.1 := by decide +kernel
theorem tyJ9_ok : ∀ k, k < 0 → parseFieldDescriptor (TJ9 k).2.2.1 = some (tyJ9 k) := by decide +kernel
abbrev cJ9_abs_0f7a4 : ByteArray := prog_8_method_59_code
def yJ9_abs_0f7a4 : MethodName := ⟨RJ9, "abs", "(I)I"⟩
abbrev cJ9_max_7cf53 : ByteArray := prog_8_method_65_code
def yJ9_max_7cf53 : MethodName := ⟨RJ9, "max", "(II)I"⟩
def RJ10 : String := "java/lang/System"
def TJ10 : u_T := fun k => match k with
  | _ => ("", "", "", false)
def tyJ10 : Nat → FieldType := fun k => match k with
  | _ => .int
abbrev wsJ100 : List Cond := u_ws RJ10 TJ10 0
theorem nmJ10 : ∀ a, a < 0 → ∀ b, b < 0 → a ≠ b → (TJ10 a).2.1 ≠ (TJ10 b).2.1 := by decide +kernel
theorem tyJ10_ok : ∀ k, k < 0 → parseFieldDescriptor (TJ10 k).2.2.1 = some (tyJ10 k) := by decide +kernel
def RJ7 : String := "java/util/Arrays"
def TJ7 : u_T := fun k => match k with
  | _ => ("", "", "", false)
def tyJ7 : Nat → FieldType := fun k => match k with
  | _ => .int
abbrev wsJ70 : List Cond := u_ws RJ7 TJ7 0
theorem nmJ7 : ∀ a, a < 0 → ∀ b, b < 0 → a ≠ b → (TJ7 a).2.1 ≠ (TJ7 b).2.1 := by decide +kernel
theorem tyJ7_ok : ∀ k, k < 0 → parseFieldDescriptor (TJ7 k).2.2.1 = some (tyJ7 k) := by decide +kernel
abbrev cJ7_fill_53178 : ByteArray := prog_10_method_103_code
def yJ7_fill_53178 : MethodName := ⟨RJ7, "fill", "([II)V"⟩
def RL : String := "LeeVanesLaw"
abbrev cL_law : ByteArray := code
def yL_law : MethodName := ⟨RL, "law", "([I)Z"⟩
def wsX0_init : List Cond := .code yX0_init cX0_init 1 none :: ([.methodLink RX0 3 objectInit, .instanceMethod objectInit, .code objectInit ⟨#[0xb1]⟩ 1 none, .arrayClass .int, .fieldLink RX0 9 "LeeVanes$Sheet" "row" "[I", .fieldLink RX0 15 "LeeVanes$Sheet" "lane" "I", .fieldLink RX0 19 "LeeVanes$Sheet" "size" "I"] ++ wsX00)
def wsX0_hasRow : List Cond := .code yX0_hasRow cX0_hasRow 1 (some .boolean) :: ([.fieldLink RX0 15 "LeeVanes$Sheet" "lane" "I"] ++ wsX00)
def wsJ7_fill_53178 : List Cond := .code yJ7_fill_53178 cJ7_fill_53178 4 none :: ([])
def wsX0_renew : List Cond := .code yX0_renew cX0_renew 3 none :: ([.fieldLink RX0 15 "LeeVanes$Sheet" "lane" "I", .fieldLink RX0 19 "LeeVanes$Sheet" "size" "I", .fieldLink RX0 9 "LeeVanes$Sheet" "row" "[I", .methodLink RX0 22 yJ7_fill_53178, .static yJ7_fill_53178, .initialized RJ7, .code yJ7_fill_53178 cJ7_fill_53178 4 none] ++ wsX00)
def wsX0_cut : List Cond := .code yX0_cut cX0_cut 2 (some .int) :: ([.fieldLink RX0 15 "LeeVanes$Sheet" "lane" "I"] ++ wsX00)
def wsX0_holds : List Cond := .code yX0_holds cX0_holds 3 (some .boolean) :: ([.fieldLink RX0 19 "LeeVanes$Sheet" "size" "I"] ++ wsX00)
def wsX0_faultOfTaking : List Cond := .code yX0_faultOfTaking cX0_faultOfTaking 4 (some .int) :: ([.fieldLink RX0 15 "LeeVanes$Sheet" "lane" "I", .methodLink RX0 28 yX0_hasRow, .instanceMethod yX0_hasRow, .selects RX0 yX0_hasRow yX0_hasRow, .initialized RX0, .code yX0_hasRow cX0_hasRow 1 (some .boolean), .methodLink RX0 32 yX0_holds, .instanceMethod yX0_holds, .selects RX0 yX0_holds yX0_holds, .code yX0_holds cX0_holds 3 (some .boolean), .fieldLink RX0 19 "LeeVanes$Sheet" "size" "I"] ++ wsX00)
def wsX1_init : List Cond := .code yX1_init cX1_init 1 none :: ([.methodLink RX1 3 objectInit, .instanceMethod objectInit, .code objectInit ⟨#[0xb1]⟩ 1 none, .arrayClass .int, .fieldLink RX1 9 "LeeVanes$TextReader" "codes" "[I", .fieldLink RX1 15 "LeeVanes$TextReader" "size" "I", .fieldLink RX1 19 "LeeVanes$TextReader" "place" "I"] ++ wsX10)
def wsX3_read : List Cond := .code yX3_read cX3_read 2 (some .int) :: ([])
def wsX3_write : List Cond := .code yX3_write cX3_write 3 none :: ([])
def wsX1_load : List Cond := .code yX1_load cX1_load 5 none :: ([.fieldLink RX1 19 "LeeVanes$TextReader" "place" "I", .fieldLink RX1 15 "LeeVanes$TextReader" "size" "I", .fieldLink RX1 9 "LeeVanes$TextReader" "codes" "[I", .fieldLink RX1 22 "LeeVanes$Sheet" "row" "[I", .static yX3_read, .initialized RX3, .code yX3_read cX3_read 2 (some .int), .static yX3_write, .code yX3_write cX3_write 3 none] ++ wsX10 ++ wsX00)
def wsX2_measure : List Cond := .code yX2_measure cX2_measure 3 none :: ([.fieldLink RX2 43 "LeeVanes$Town" "high" "I", .fieldLink RX2 47 "LeeVanes$Town" "wide" "I", .fieldLink RX2 50 "LeeVanes$Town" "cells" "I"] ++ wsX20)
def wsX2_clear : List Cond := .code yX2_clear cX2_clear 1 none :: ([.fieldLink RX2 39 "LeeVanes$Town" "stands" "Z", .fieldLink RX2 53 "LeeVanes$Town" "works" "I", .fieldLink RX2 56 "LeeVanes$Town" "wards" "I", .fieldLink RX2 59 "LeeVanes$Town" "lawNow" "I", .fieldLink RX2 62 "LeeVanes$Town" "setting" "I", .fieldLink RX2 65 "LeeVanes$Town" "readings" "I", .methodLink RX2 68 yX2_measure, .instanceMethod yX2_measure, .selects RX2 yX2_measure yX2_measure, .initialized RX2, .code yX2_measure cX2_measure 3 none, .fieldLink RX2 43 "LeeVanes$Town" "high" "I", .fieldLink RX2 47 "LeeVanes$Town" "wide" "I", .fieldLink RX2 50 "LeeVanes$Town" "cells" "I"] ++ wsX20)
def wsX1_next : List Cond := .code yX1_next cX1_next 1 (some .int) :: ([.fieldLink RX1 19 "LeeVanes$TextReader" "place" "I", .fieldLink RX1 15 "LeeVanes$TextReader" "size" "I", .fieldLink RX1 9 "LeeVanes$TextReader" "codes" "[I", .static yX3_read, .initialized RX3, .code yX3_read cX3_read 2 (some .int)] ++ wsX10)
def wsX1_takes : List Cond := .code yX1_takes cX1_takes 2 (some .boolean) :: ([.fieldLink RX1 19 "LeeVanes$TextReader" "place" "I", .methodLink RX1 67 yX1_next, .instanceMethod yX1_next, .selects RX1 yX1_next yX1_next, .initialized RX1, .code yX1_next cX1_next 1 (some .int), .fieldLink RX1 15 "LeeVanes$TextReader" "size" "I", .fieldLink RX1 9 "LeeVanes$TextReader" "codes" "[I", .static yX3_read, .initialized RX3, .code yX3_read cX3_read 2 (some .int)] ++ wsX10)
def wsX1_digit : List Cond := .code yX1_digit cX1_digit 4 (some .int) :: ([.fieldLink RX1 19 "LeeVanes$TextReader" "place" "I", .methodLink RX1 67 yX1_next, .instanceMethod yX1_next, .selects RX1 yX1_next yX1_next, .initialized RX1, .code yX1_next cX1_next 1 (some .int), .fieldLink RX1 15 "LeeVanes$TextReader" "size" "I", .fieldLink RX1 9 "LeeVanes$TextReader" "codes" "[I", .static yX3_read, .initialized RX3, .code yX3_read cX3_read 2 (some .int)] ++ wsX10)
def wsX1_kindOf : List Cond := .code yX1_kindOf cX1_kindOf 1 (some .int) :: ([])
def wsX2_wayIndex : List Cond := .code yX2_wayIndex cX2_wayIndex 2 (some .int) :: ([])
def wsX2_measureWay : List Cond := .code yX2_measureWay cX2_measureWay 8 none :: ([.fieldLink RX2 33 "LeeVanes$Town" "distances" "[I", .constant RX2 84 (1000000), .fieldLink RX2 43 "LeeVanes$Town" "high" "I", .fieldLink RX2 47 "LeeVanes$Town" "wide" "I", .methodLink RX2 80 yX2_wayIndex, .static yX2_wayIndex, .initialized RX2, .code yX2_wayIndex cX2_wayIndex 2 (some .int), .static yX3_write, .initialized RX3, .code yX3_write cX3_write 3 none, .static yX3_read, .code yX3_read cX3_read 2 (some .int)] ++ wsX20)
def wsX2_addWork : List Cond := .code yX2_addWork cX2_addWork 5 none :: ([.fieldLink RX2 21 "LeeVanes$Town" "workCells" "[I", .fieldLink RX2 53 "LeeVanes$Town" "works" "I", .fieldLink RX2 47 "LeeVanes$Town" "wide" "I", .fieldLink RX2 24 "LeeVanes$Town" "strengths" "[I", .static yX3_write, .initialized RX3, .code yX3_write cX3_write 3 none, .methodLink RX2 76 yX2_measureWay, .instanceMethod yX2_measureWay, .selects RX2 yX2_measureWay yX2_measureWay, .initialized RX2, .code yX2_measureWay cX2_measureWay 8 none, .fieldLink RX2 33 "LeeVanes$Town" "distances" "[I", .constant RX2 84 (1000000), .fieldLink RX2 43 "LeeVanes$Town" "high" "I", .methodLink RX2 80 yX2_wayIndex, .static yX2_wayIndex, .code yX2_wayIndex cX2_wayIndex 2 (some .int), .static yX3_read, .code yX3_read cX3_read 2 (some .int)] ++ wsX20)
def wsX2_addWard : List Cond := .code yX2_addWard cX2_addWard 4 none :: ([.fieldLink RX2 9 "LeeVanes$Town" "kinds" "[I", .fieldLink RX2 56 "LeeVanes$Town" "wards" "I", .fieldLink RX2 18 "LeeVanes$Town" "wardCells" "[I", .fieldLink RX2 15 "LeeVanes$Town" "noses" "[I", .static yX3_write, .initialized RX3, .code yX3_write cX3_write 3 none] ++ wsX20)
def wsX1_readPart_r1 : List Cond := [Cond.fieldLink RX1 75 "LeeVanes$Town" "works" "I", Cond.fieldLink RX1 78 "LeeVanes$Town" "wards" "I", Cond.fieldLink RX1 19 "LeeVanes$TextReader" "place" "I", Cond.fieldLink RX1 60 "LeeVanes$Town" "wide" "I", Cond.methodLink RX1 67 yX1_next, Cond.instanceMethod yX1_next, Cond.selects RX1 yX1_next yX1_next, Cond.initialized RX1, Cond.code yX1_next cX1_next 1 (some .int), Cond.fieldLink RX1 15 "LeeVanes$TextReader" "size" "I", Cond.fieldLink RX1 9 "LeeVanes$TextReader" "codes" "[I", Cond.static yX3_read, Cond.initialized RX3, Cond.code yX3_read cX3_read 2 (some .int), Cond.methodLink RX1 71 yX1_kindOf, Cond.static yX1_kindOf, Cond.code yX1_kindOf cX1_kindOf 1 (some .int), Cond.methodLink RX1 44 yX1_digit, Cond.instanceMethod yX1_digit, Cond.selects RX1 yX1_digit yX1_digit, Cond.code yX1_digit cX1_digit 4 (some .int), Cond.methodLink RX1 81 yX2_addWork, Cond.instanceMethod yX2_addWork, Cond.selects RX2 yX2_addWork yX2_addWork]
def wsX1_readPart_r2 : List Cond := [Cond.initialized RX2, Cond.code yX2_addWork cX2_addWork 5 none, Cond.fieldLink RX2 21 "LeeVanes$Town" "workCells" "[I", Cond.fieldLink RX2 53 "LeeVanes$Town" "works" "I", Cond.fieldLink RX2 47 "LeeVanes$Town" "wide" "I", Cond.fieldLink RX2 24 "LeeVanes$Town" "strengths" "[I", Cond.static yX3_write, Cond.code yX3_write cX3_write 3 none, Cond.methodLink RX2 76 yX2_measureWay, Cond.instanceMethod yX2_measureWay, Cond.selects RX2 yX2_measureWay yX2_measureWay, Cond.code yX2_measureWay cX2_measureWay 8 none, Cond.fieldLink RX2 33 "LeeVanes$Town" "distances" "[I", Cond.constant RX2 84 (1000000), Cond.fieldLink RX2 43 "LeeVanes$Town" "high" "I", Cond.methodLink RX2 80 yX2_wayIndex, Cond.static yX2_wayIndex, Cond.code yX2_wayIndex cX2_wayIndex 2 (some .int), Cond.methodLink RX1 85 yX2_addWard, Cond.instanceMethod yX2_addWard, Cond.selects RX2 yX2_addWard yX2_addWard, Cond.code yX2_addWard cX2_addWard 4 none, Cond.fieldLink RX2 9 "LeeVanes$Town" "kinds" "[I", Cond.fieldLink RX2 56 "LeeVanes$Town" "wards" "I"]
def wsX1_readPart_r3 : List Cond := [Cond.fieldLink RX2 18 "LeeVanes$Town" "wardCells" "[I", Cond.fieldLink RX2 15 "LeeVanes$Town" "noses" "[I"]
def wsX1_readPart : List Cond := .code yX1_readPart cX1_readPart 8 (some .boolean) :: ((wsX1_readPart_r1 ++ (wsX1_readPart_r2 ++ wsX1_readPart_r3)) ++ wsX20 ++ wsX10)
def wsX1_readRow_r1 : List Cond := [Cond.fieldLink RX1 60 "LeeVanes$Town" "wide" "I", Cond.methodLink RX1 40 yX1_takes, Cond.instanceMethod yX1_takes, Cond.selects RX1 yX1_takes yX1_takes, Cond.initialized RX1, Cond.code yX1_takes cX1_takes 2 (some .boolean), Cond.fieldLink RX1 19 "LeeVanes$TextReader" "place" "I", Cond.methodLink RX1 67 yX1_next, Cond.instanceMethod yX1_next, Cond.selects RX1 yX1_next yX1_next, Cond.code yX1_next cX1_next 1 (some .int), Cond.fieldLink RX1 15 "LeeVanes$TextReader" "size" "I", Cond.fieldLink RX1 9 "LeeVanes$TextReader" "codes" "[I", Cond.static yX3_read, Cond.initialized RX3, Cond.code yX3_read cX3_read 2 (some .int), Cond.methodLink RX1 63 yX1_readPart, Cond.instanceMethod yX1_readPart, Cond.selects RX1 yX1_readPart yX1_readPart, Cond.code yX1_readPart cX1_readPart 8 (some .boolean), Cond.fieldLink RX1 75 "LeeVanes$Town" "works" "I", Cond.fieldLink RX1 78 "LeeVanes$Town" "wards" "I", Cond.methodLink RX1 71 yX1_kindOf, Cond.static yX1_kindOf]
def wsX1_readRow_r2 : List Cond := [Cond.code yX1_kindOf cX1_kindOf 1 (some .int), Cond.methodLink RX1 44 yX1_digit, Cond.instanceMethod yX1_digit, Cond.selects RX1 yX1_digit yX1_digit, Cond.code yX1_digit cX1_digit 4 (some .int), Cond.methodLink RX1 81 yX2_addWork, Cond.instanceMethod yX2_addWork, Cond.selects RX2 yX2_addWork yX2_addWork, Cond.initialized RX2, Cond.code yX2_addWork cX2_addWork 5 none, Cond.fieldLink RX2 21 "LeeVanes$Town" "workCells" "[I", Cond.fieldLink RX2 53 "LeeVanes$Town" "works" "I", Cond.fieldLink RX2 47 "LeeVanes$Town" "wide" "I", Cond.fieldLink RX2 24 "LeeVanes$Town" "strengths" "[I", Cond.static yX3_write, Cond.code yX3_write cX3_write 3 none, Cond.methodLink RX2 76 yX2_measureWay, Cond.instanceMethod yX2_measureWay, Cond.selects RX2 yX2_measureWay yX2_measureWay, Cond.code yX2_measureWay cX2_measureWay 8 none, Cond.fieldLink RX2 33 "LeeVanes$Town" "distances" "[I", Cond.constant RX2 84 (1000000), Cond.fieldLink RX2 43 "LeeVanes$Town" "high" "I", Cond.methodLink RX2 80 yX2_wayIndex]
def wsX1_readRow_r3 : List Cond := [Cond.static yX2_wayIndex, Cond.code yX2_wayIndex cX2_wayIndex 2 (some .int), Cond.methodLink RX1 85 yX2_addWard, Cond.instanceMethod yX2_addWard, Cond.selects RX2 yX2_addWard yX2_addWard, Cond.code yX2_addWard cX2_addWard 4 none, Cond.fieldLink RX2 9 "LeeVanes$Town" "kinds" "[I", Cond.fieldLink RX2 56 "LeeVanes$Town" "wards" "I", Cond.fieldLink RX2 18 "LeeVanes$Town" "wardCells" "[I", Cond.fieldLink RX2 15 "LeeVanes$Town" "noses" "[I"]
def wsX1_readRow : List Cond := .code yX1_readRow cX1_readRow 4 (some .boolean) :: ((wsX1_readRow_r1 ++ (wsX1_readRow_r2 ++ wsX1_readRow_r3)) ++ wsX20 ++ wsX10)
def wsX1_readInto_r1 : List Cond := [Cond.fieldLink RX1 19 "LeeVanes$TextReader" "place" "I", Cond.fieldLink RX1 15 "LeeVanes$TextReader" "size" "I", Cond.fieldLink RX1 56 "LeeVanes$Town" "stands" "Z", Cond.methodLink RX1 35 yX2_clear, Cond.instanceMethod yX2_clear, Cond.selects RX2 yX2_clear yX2_clear, Cond.initialized RX2, Cond.code yX2_clear cX2_clear 1 none, Cond.fieldLink RX2 39 "LeeVanes$Town" "stands" "Z", Cond.fieldLink RX2 53 "LeeVanes$Town" "works" "I", Cond.fieldLink RX2 56 "LeeVanes$Town" "wards" "I", Cond.fieldLink RX2 59 "LeeVanes$Town" "lawNow" "I", Cond.fieldLink RX2 62 "LeeVanes$Town" "setting" "I", Cond.fieldLink RX2 65 "LeeVanes$Town" "readings" "I", Cond.methodLink RX2 68 yX2_measure, Cond.instanceMethod yX2_measure, Cond.selects RX2 yX2_measure yX2_measure, Cond.code yX2_measure cX2_measure 3 none, Cond.fieldLink RX2 43 "LeeVanes$Town" "high" "I", Cond.fieldLink RX2 47 "LeeVanes$Town" "wide" "I", Cond.fieldLink RX2 50 "LeeVanes$Town" "cells" "I", Cond.methodLink RX1 40 yX1_takes, Cond.instanceMethod yX1_takes, Cond.selects RX1 yX1_takes yX1_takes]
def wsX1_readInto_r2 : List Cond := [Cond.initialized RX1, Cond.code yX1_takes cX1_takes 2 (some .boolean), Cond.methodLink RX1 67 yX1_next, Cond.instanceMethod yX1_next, Cond.selects RX1 yX1_next yX1_next, Cond.code yX1_next cX1_next 1 (some .int), Cond.fieldLink RX1 9 "LeeVanes$TextReader" "codes" "[I", Cond.static yX3_read, Cond.initialized RX3, Cond.code yX3_read cX3_read 2 (some .int), Cond.methodLink RX1 44 yX1_digit, Cond.instanceMethod yX1_digit, Cond.selects RX1 yX1_digit yX1_digit, Cond.code yX1_digit cX1_digit 4 (some .int), Cond.methodLink RX1 48 yX2_measure, Cond.methodLink RX1 52 yX1_readRow, Cond.instanceMethod yX1_readRow, Cond.selects RX1 yX1_readRow yX1_readRow, Cond.code yX1_readRow cX1_readRow 4 (some .boolean), Cond.fieldLink RX1 60 "LeeVanes$Town" "wide" "I", Cond.methodLink RX1 63 yX1_readPart, Cond.instanceMethod yX1_readPart, Cond.selects RX1 yX1_readPart yX1_readPart, Cond.code yX1_readPart cX1_readPart 8 (some .boolean)]
def wsX1_readInto_r3 : List Cond := [Cond.fieldLink RX1 75 "LeeVanes$Town" "works" "I", Cond.fieldLink RX1 78 "LeeVanes$Town" "wards" "I", Cond.methodLink RX1 71 yX1_kindOf, Cond.static yX1_kindOf, Cond.code yX1_kindOf cX1_kindOf 1 (some .int), Cond.methodLink RX1 81 yX2_addWork, Cond.instanceMethod yX2_addWork, Cond.selects RX2 yX2_addWork yX2_addWork, Cond.code yX2_addWork cX2_addWork 5 none, Cond.fieldLink RX2 21 "LeeVanes$Town" "workCells" "[I", Cond.fieldLink RX2 24 "LeeVanes$Town" "strengths" "[I", Cond.static yX3_write, Cond.code yX3_write cX3_write 3 none, Cond.methodLink RX2 76 yX2_measureWay, Cond.instanceMethod yX2_measureWay, Cond.selects RX2 yX2_measureWay yX2_measureWay, Cond.code yX2_measureWay cX2_measureWay 8 none, Cond.fieldLink RX2 33 "LeeVanes$Town" "distances" "[I", Cond.constant RX2 84 (1000000), Cond.methodLink RX2 80 yX2_wayIndex, Cond.static yX2_wayIndex, Cond.code yX2_wayIndex cX2_wayIndex 2 (some .int), Cond.methodLink RX1 85 yX2_addWard, Cond.instanceMethod yX2_addWard]
def wsX1_readInto_r4 : List Cond := [Cond.selects RX2 yX2_addWard yX2_addWard, Cond.code yX2_addWard cX2_addWard 4 none, Cond.fieldLink RX2 9 "LeeVanes$Town" "kinds" "[I", Cond.fieldLink RX2 18 "LeeVanes$Town" "wardCells" "[I", Cond.fieldLink RX2 15 "LeeVanes$Town" "noses" "[I"]
def wsX1_readInto : List Cond := .code yX1_readInto cX1_readInto 5 (some .boolean) :: ((wsX1_readInto_r1 ++ (wsX1_readInto_r2 ++ (wsX1_readInto_r3 ++ wsX1_readInto_r4))) ++ wsX10 ++ wsX20)
def wsX2_init : List Cond := .code yX2_init cX2_init 1 none :: ([.methodLink RX2 3 objectInit, .instanceMethod objectInit, .code objectInit ⟨#[0xb1]⟩ 1 none, .arrayClass .int, .fieldLink RX2 9 "LeeVanes$Town" "kinds" "[I", .fieldLink RX2 15 "LeeVanes$Town" "noses" "[I", .fieldLink RX2 18 "LeeVanes$Town" "wardCells" "[I", .fieldLink RX2 21 "LeeVanes$Town" "workCells" "[I", .fieldLink RX2 24 "LeeVanes$Town" "strengths" "[I", .fieldLink RX2 27 "LeeVanes$Town" "readingCells" "[I", .fieldLink RX2 30 "LeeVanes$Town" "readingSmells" "[I", .fieldLink RX2 33 "LeeVanes$Town" "distances" "[I", .fieldLink RX2 36 "LeeVanes$Town" "votes" "[I", .fieldLink RX2 39 "LeeVanes$Town" "stands" "Z", .fieldLink RX2 43 "LeeVanes$Town" "high" "I", .fieldLink RX2 47 "LeeVanes$Town" "wide" "I", .fieldLink RX2 50 "LeeVanes$Town" "cells" "I", .fieldLink RX2 53 "LeeVanes$Town" "works" "I", .fieldLink RX2 56 "LeeVanes$Town" "wards" "I", .fieldLink RX2 59 "LeeVanes$Town" "lawNow" "I", .fieldLink RX2 62 "LeeVanes$Town" "setting" "I", .fieldLink RX2 65 "LeeVanes$Town" "readings" "I"] ++ wsX20)
def wsX2_hasCell : List Cond := .code yX2_hasCell cX2_hasCell 2 (some .boolean) :: ([.fieldLink RX2 50 "LeeVanes$Town" "cells" "I"] ++ wsX20)
def wsX2_hasWork : List Cond := .code yX2_hasWork cX2_hasWork 2 (some .boolean) :: ([.fieldLink RX2 53 "LeeVanes$Town" "works" "I"] ++ wsX20)
def wsX2_hasWard : List Cond := .code yX2_hasWard cX2_hasWard 2 (some .boolean) :: ([.fieldLink RX2 56 "LeeVanes$Town" "wards" "I"] ++ wsX20)
def wsX2_settingsInAll : List Cond := .code yX2_settingsInAll cX2_settingsInAll 1 (some .int) :: ([.fieldLink RX2 53 "LeeVanes$Town" "works" "I"] ++ wsX20)
def wsX2_vaneIn : List Cond := .code yX2_vaneIn cX2_vaneIn 3 (some .int) :: ([.fieldLink RX2 53 "LeeVanes$Town" "works" "I"] ++ wsX20)
def wsX2_turned : List Cond := .code yX2_turned cX2_turned 5 (some .int) :: ([.fieldLink RX2 53 "LeeVanes$Town" "works" "I"] ++ wsX20)
def wsX2_factorOf : List Cond := .code yX2_factorOf cX2_factorOf 3 (some .int) :: ([.fieldLink RX2 15 "LeeVanes$Town" "noses" "[I", .fieldLink RX2 9 "LeeVanes$Town" "kinds" "[I", .static yX3_read, .initialized RX3, .code yX3_read cX3_read 2 (some .int)] ++ wsX20)
def wsX2_smellBy : List Cond := .code yX2_smellBy cX2_smellBy 7 (some .int) :: ([.fieldLink RX2 53 "LeeVanes$Town" "works" "I", .fieldLink RX2 24 "LeeVanes$Town" "strengths" "[I", .fieldLink RX2 33 "LeeVanes$Town" "distances" "[I", .methodLink RX2 98 Lib.Math.max.name, .static Lib.Math.max.name, .initialized "java/lang/Math", .code Lib.Math.max.name Lib.Math.max.code 2 (some .int), .fieldLink RX2 59 "LeeVanes$Town" "lawNow" "I", .methodLink RX2 103 Lib.Math.abs.name, .static Lib.Math.abs.name, .code Lib.Math.abs.name Lib.Math.abs.code 1 (some .int), .methodLink RX2 95 yX2_vaneIn, .instanceMethod yX2_vaneIn, .selects RX2 yX2_vaneIn yX2_vaneIn, .initialized RX2, .code yX2_vaneIn cX2_vaneIn 3 (some .int), .methodLink RX2 80 yX2_wayIndex, .static yX2_wayIndex, .code yX2_wayIndex cX2_wayIndex 2 (some .int), .static yX3_read, .initialized RX3, .code yX3_read cX3_read 2 (some .int)] ++ wsX20)
def wsX2_mindedBy_r1 : List Cond := [Cond.fieldLink RX2 18 "LeeVanes$Town" "wardCells" "[I", Cond.methodLink RX2 107 yX2_factorOf, Cond.instanceMethod yX2_factorOf, Cond.selects RX2 yX2_factorOf yX2_factorOf, Cond.initialized RX2, Cond.code yX2_factorOf cX2_factorOf 3 (some .int), Cond.fieldLink RX2 15 "LeeVanes$Town" "noses" "[I", Cond.fieldLink RX2 9 "LeeVanes$Town" "kinds" "[I", Cond.static yX3_read, Cond.initialized RX3, Cond.code yX3_read cX3_read 2 (some .int), Cond.methodLink RX2 110 yX2_smellBy, Cond.instanceMethod yX2_smellBy, Cond.selects RX2 yX2_smellBy yX2_smellBy, Cond.code yX2_smellBy cX2_smellBy 7 (some .int), Cond.fieldLink RX2 53 "LeeVanes$Town" "works" "I", Cond.fieldLink RX2 24 "LeeVanes$Town" "strengths" "[I", Cond.fieldLink RX2 33 "LeeVanes$Town" "distances" "[I", Cond.methodLink RX2 98 Lib.Math.max.name, Cond.static Lib.Math.max.name, Cond.initialized "java/lang/Math", Cond.code Lib.Math.max.name Lib.Math.max.code 2 (some .int), Cond.fieldLink RX2 59 "LeeVanes$Town" "lawNow" "I", Cond.methodLink RX2 103 Lib.Math.abs.name]
def wsX2_mindedBy_r2 : List Cond := [Cond.static Lib.Math.abs.name, Cond.code Lib.Math.abs.name Lib.Math.abs.code 1 (some .int), Cond.methodLink RX2 95 yX2_vaneIn, Cond.instanceMethod yX2_vaneIn, Cond.selects RX2 yX2_vaneIn yX2_vaneIn, Cond.code yX2_vaneIn cX2_vaneIn 3 (some .int), Cond.methodLink RX2 80 yX2_wayIndex, Cond.static yX2_wayIndex, Cond.code yX2_wayIndex cX2_wayIndex 2 (some .int)]
def wsX2_mindedBy : List Cond := .code yX2_mindedBy cX2_mindedBy 3 (some .int) :: ((wsX2_mindedBy_r1 ++ wsX2_mindedBy_r2) ++ wsX20)
def wsX2_burdenBy_r1 : List Cond := [Cond.fieldLink RX2 56 "LeeVanes$Town" "wards" "I", Cond.methodLink RX2 113 yX2_mindedBy, Cond.instanceMethod yX2_mindedBy, Cond.selects RX2 yX2_mindedBy yX2_mindedBy, Cond.initialized RX2, Cond.code yX2_mindedBy cX2_mindedBy 3 (some .int), Cond.fieldLink RX2 18 "LeeVanes$Town" "wardCells" "[I", Cond.methodLink RX2 107 yX2_factorOf, Cond.instanceMethod yX2_factorOf, Cond.selects RX2 yX2_factorOf yX2_factorOf, Cond.code yX2_factorOf cX2_factorOf 3 (some .int), Cond.fieldLink RX2 15 "LeeVanes$Town" "noses" "[I", Cond.fieldLink RX2 9 "LeeVanes$Town" "kinds" "[I", Cond.static yX3_read, Cond.initialized RX3, Cond.code yX3_read cX3_read 2 (some .int), Cond.methodLink RX2 110 yX2_smellBy, Cond.instanceMethod yX2_smellBy, Cond.selects RX2 yX2_smellBy yX2_smellBy, Cond.code yX2_smellBy cX2_smellBy 7 (some .int), Cond.fieldLink RX2 53 "LeeVanes$Town" "works" "I", Cond.fieldLink RX2 24 "LeeVanes$Town" "strengths" "[I", Cond.fieldLink RX2 33 "LeeVanes$Town" "distances" "[I", Cond.methodLink RX2 98 Lib.Math.max.name]
def wsX2_burdenBy_r2 : List Cond := [Cond.static Lib.Math.max.name, Cond.initialized "java/lang/Math", Cond.code Lib.Math.max.name Lib.Math.max.code 2 (some .int), Cond.fieldLink RX2 59 "LeeVanes$Town" "lawNow" "I", Cond.methodLink RX2 103 Lib.Math.abs.name, Cond.static Lib.Math.abs.name, Cond.code Lib.Math.abs.name Lib.Math.abs.code 1 (some .int), Cond.methodLink RX2 95 yX2_vaneIn, Cond.instanceMethod yX2_vaneIn, Cond.selects RX2 yX2_vaneIn yX2_vaneIn, Cond.code yX2_vaneIn cX2_vaneIn 3 (some .int), Cond.methodLink RX2 80 yX2_wayIndex, Cond.static yX2_wayIndex, Cond.code yX2_wayIndex cX2_wayIndex 2 (some .int)]
def wsX2_burdenBy : List Cond := .code yX2_burdenBy cX2_burdenBy 4 (some .int) :: ((wsX2_burdenBy_r1 ++ wsX2_burdenBy_r2) ++ wsX20)
def wsX2_mostMindedBy_r1 : List Cond := [Cond.fieldLink RX2 56 "LeeVanes$Town" "wards" "I", Cond.methodLink RX2 98 Lib.Math.max.name, Cond.static Lib.Math.max.name, Cond.initialized "java/lang/Math", Cond.code Lib.Math.max.name Lib.Math.max.code 2 (some .int), Cond.methodLink RX2 113 yX2_mindedBy, Cond.instanceMethod yX2_mindedBy, Cond.selects RX2 yX2_mindedBy yX2_mindedBy, Cond.initialized RX2, Cond.code yX2_mindedBy cX2_mindedBy 3 (some .int), Cond.fieldLink RX2 18 "LeeVanes$Town" "wardCells" "[I", Cond.methodLink RX2 107 yX2_factorOf, Cond.instanceMethod yX2_factorOf, Cond.selects RX2 yX2_factorOf yX2_factorOf, Cond.code yX2_factorOf cX2_factorOf 3 (some .int), Cond.fieldLink RX2 15 "LeeVanes$Town" "noses" "[I", Cond.fieldLink RX2 9 "LeeVanes$Town" "kinds" "[I", Cond.static yX3_read, Cond.initialized RX3, Cond.code yX3_read cX3_read 2 (some .int), Cond.methodLink RX2 110 yX2_smellBy, Cond.instanceMethod yX2_smellBy, Cond.selects RX2 yX2_smellBy yX2_smellBy, Cond.code yX2_smellBy cX2_smellBy 7 (some .int)]
def wsX2_mostMindedBy_r2 : List Cond := [Cond.fieldLink RX2 53 "LeeVanes$Town" "works" "I", Cond.fieldLink RX2 24 "LeeVanes$Town" "strengths" "[I", Cond.fieldLink RX2 33 "LeeVanes$Town" "distances" "[I", Cond.fieldLink RX2 59 "LeeVanes$Town" "lawNow" "I", Cond.methodLink RX2 103 Lib.Math.abs.name, Cond.static Lib.Math.abs.name, Cond.code Lib.Math.abs.name Lib.Math.abs.code 1 (some .int), Cond.methodLink RX2 95 yX2_vaneIn, Cond.instanceMethod yX2_vaneIn, Cond.selects RX2 yX2_vaneIn yX2_vaneIn, Cond.code yX2_vaneIn cX2_vaneIn 3 (some .int), Cond.methodLink RX2 80 yX2_wayIndex, Cond.static yX2_wayIndex, Cond.code yX2_wayIndex cX2_wayIndex 2 (some .int)]
def wsX2_mostMindedBy : List Cond := .code yX2_mostMindedBy cX2_mostMindedBy 4 (some .int) :: ((wsX2_mostMindedBy_r1 ++ wsX2_mostMindedBy_r2) ++ wsX20)
def wsX2_voteBy_r1 : List Cond := [Cond.constant RX2 84 (1000000), Cond.methodLink RX2 116 yX2_turned, Cond.instanceMethod yX2_turned, Cond.selects RX2 yX2_turned yX2_turned, Cond.initialized RX2, Cond.code yX2_turned cX2_turned 5 (some .int), Cond.fieldLink RX2 53 "LeeVanes$Town" "works" "I", Cond.methodLink RX2 113 yX2_mindedBy, Cond.instanceMethod yX2_mindedBy, Cond.selects RX2 yX2_mindedBy yX2_mindedBy, Cond.code yX2_mindedBy cX2_mindedBy 3 (some .int), Cond.fieldLink RX2 18 "LeeVanes$Town" "wardCells" "[I", Cond.methodLink RX2 107 yX2_factorOf, Cond.instanceMethod yX2_factorOf, Cond.selects RX2 yX2_factorOf yX2_factorOf, Cond.code yX2_factorOf cX2_factorOf 3 (some .int), Cond.fieldLink RX2 15 "LeeVanes$Town" "noses" "[I", Cond.fieldLink RX2 9 "LeeVanes$Town" "kinds" "[I", Cond.static yX3_read, Cond.initialized RX3, Cond.code yX3_read cX3_read 2 (some .int), Cond.methodLink RX2 110 yX2_smellBy, Cond.instanceMethod yX2_smellBy, Cond.selects RX2 yX2_smellBy yX2_smellBy]
def wsX2_voteBy_r2 : List Cond := [Cond.code yX2_smellBy cX2_smellBy 7 (some .int), Cond.fieldLink RX2 24 "LeeVanes$Town" "strengths" "[I", Cond.fieldLink RX2 33 "LeeVanes$Town" "distances" "[I", Cond.methodLink RX2 98 Lib.Math.max.name, Cond.static Lib.Math.max.name, Cond.initialized "java/lang/Math", Cond.code Lib.Math.max.name Lib.Math.max.code 2 (some .int), Cond.fieldLink RX2 59 "LeeVanes$Town" "lawNow" "I", Cond.methodLink RX2 103 Lib.Math.abs.name, Cond.static Lib.Math.abs.name, Cond.code Lib.Math.abs.name Lib.Math.abs.code 1 (some .int), Cond.methodLink RX2 95 yX2_vaneIn, Cond.instanceMethod yX2_vaneIn, Cond.selects RX2 yX2_vaneIn yX2_vaneIn, Cond.code yX2_vaneIn cX2_vaneIn 3 (some .int), Cond.methodLink RX2 80 yX2_wayIndex, Cond.static yX2_wayIndex, Cond.code yX2_wayIndex cX2_wayIndex 2 (some .int)]
def wsX2_voteBy : List Cond := .code yX2_voteBy cX2_voteBy 8 (some .int) :: ((wsX2_voteBy_r1 ++ wsX2_voteBy_r2) ++ wsX20)
def wsX2_castVotes_r1 : List Cond := [Cond.fieldLink RX2 56 "LeeVanes$Town" "wards" "I", Cond.fieldLink RX2 36 "LeeVanes$Town" "votes" "[I", Cond.methodLink RX2 120 yX2_voteBy, Cond.instanceMethod yX2_voteBy, Cond.selects RX2 yX2_voteBy yX2_voteBy, Cond.initialized RX2, Cond.code yX2_voteBy cX2_voteBy 8 (some .int), Cond.constant RX2 84 (1000000), Cond.methodLink RX2 116 yX2_turned, Cond.instanceMethod yX2_turned, Cond.selects RX2 yX2_turned yX2_turned, Cond.code yX2_turned cX2_turned 5 (some .int), Cond.fieldLink RX2 53 "LeeVanes$Town" "works" "I", Cond.methodLink RX2 113 yX2_mindedBy, Cond.instanceMethod yX2_mindedBy, Cond.selects RX2 yX2_mindedBy yX2_mindedBy, Cond.code yX2_mindedBy cX2_mindedBy 3 (some .int), Cond.fieldLink RX2 18 "LeeVanes$Town" "wardCells" "[I", Cond.methodLink RX2 107 yX2_factorOf, Cond.instanceMethod yX2_factorOf, Cond.selects RX2 yX2_factorOf yX2_factorOf, Cond.code yX2_factorOf cX2_factorOf 3 (some .int), Cond.fieldLink RX2 15 "LeeVanes$Town" "noses" "[I", Cond.fieldLink RX2 9 "LeeVanes$Town" "kinds" "[I"]
def wsX2_castVotes_r2 : List Cond := [Cond.static yX3_read, Cond.initialized RX3, Cond.code yX3_read cX3_read 2 (some .int), Cond.methodLink RX2 110 yX2_smellBy, Cond.instanceMethod yX2_smellBy, Cond.selects RX2 yX2_smellBy yX2_smellBy, Cond.code yX2_smellBy cX2_smellBy 7 (some .int), Cond.fieldLink RX2 24 "LeeVanes$Town" "strengths" "[I", Cond.fieldLink RX2 33 "LeeVanes$Town" "distances" "[I", Cond.methodLink RX2 98 Lib.Math.max.name, Cond.static Lib.Math.max.name, Cond.initialized "java/lang/Math", Cond.code Lib.Math.max.name Lib.Math.max.code 2 (some .int), Cond.fieldLink RX2 59 "LeeVanes$Town" "lawNow" "I", Cond.methodLink RX2 103 Lib.Math.abs.name, Cond.static Lib.Math.abs.name, Cond.code Lib.Math.abs.name Lib.Math.abs.code 1 (some .int), Cond.methodLink RX2 95 yX2_vaneIn, Cond.instanceMethod yX2_vaneIn, Cond.selects RX2 yX2_vaneIn yX2_vaneIn, Cond.code yX2_vaneIn cX2_vaneIn 3 (some .int), Cond.methodLink RX2 80 yX2_wayIndex, Cond.static yX2_wayIndex, Cond.code yX2_wayIndex cX2_wayIndex 2 (some .int)]
def wsX2_castVotes_r3 : List Cond := [Cond.static yX3_write, Cond.code yX3_write cX3_write 3 none]
def wsX2_castVotes : List Cond := .code yX2_castVotes cX2_castVotes 4 none :: ((wsX2_castVotes_r1 ++ (wsX2_castVotes_r2 ++ wsX2_castVotes_r3)) ++ wsX20)
def wsX2_winner : List Cond := .code yX2_winner cX2_winner 9 (some .int) :: ([.fieldLink RX2 56 "LeeVanes$Town" "wards" "I", .fieldLink RX2 36 "LeeVanes$Town" "votes" "[I", .static yX3_read, .initialized RX3, .code yX3_read cX3_read 2 (some .int)] ++ wsX20)
def wsX2_ballotBy_r1 : List Cond := [Cond.methodLink RX2 123 yX2_castVotes, Cond.instanceMethod yX2_castVotes, Cond.selects RX2 yX2_castVotes yX2_castVotes, Cond.initialized RX2, Cond.code yX2_castVotes cX2_castVotes 4 none, Cond.fieldLink RX2 56 "LeeVanes$Town" "wards" "I", Cond.fieldLink RX2 36 "LeeVanes$Town" "votes" "[I", Cond.methodLink RX2 120 yX2_voteBy, Cond.instanceMethod yX2_voteBy, Cond.selects RX2 yX2_voteBy yX2_voteBy, Cond.code yX2_voteBy cX2_voteBy 8 (some .int), Cond.constant RX2 84 (1000000), Cond.methodLink RX2 116 yX2_turned, Cond.instanceMethod yX2_turned, Cond.selects RX2 yX2_turned yX2_turned, Cond.code yX2_turned cX2_turned 5 (some .int), Cond.fieldLink RX2 53 "LeeVanes$Town" "works" "I", Cond.methodLink RX2 113 yX2_mindedBy, Cond.instanceMethod yX2_mindedBy, Cond.selects RX2 yX2_mindedBy yX2_mindedBy, Cond.code yX2_mindedBy cX2_mindedBy 3 (some .int), Cond.fieldLink RX2 18 "LeeVanes$Town" "wardCells" "[I", Cond.methodLink RX2 107 yX2_factorOf, Cond.instanceMethod yX2_factorOf]
def wsX2_ballotBy_r2 : List Cond := [Cond.selects RX2 yX2_factorOf yX2_factorOf, Cond.code yX2_factorOf cX2_factorOf 3 (some .int), Cond.fieldLink RX2 15 "LeeVanes$Town" "noses" "[I", Cond.fieldLink RX2 9 "LeeVanes$Town" "kinds" "[I", Cond.static yX3_read, Cond.initialized RX3, Cond.code yX3_read cX3_read 2 (some .int), Cond.methodLink RX2 110 yX2_smellBy, Cond.instanceMethod yX2_smellBy, Cond.selects RX2 yX2_smellBy yX2_smellBy, Cond.code yX2_smellBy cX2_smellBy 7 (some .int), Cond.fieldLink RX2 24 "LeeVanes$Town" "strengths" "[I", Cond.fieldLink RX2 33 "LeeVanes$Town" "distances" "[I", Cond.methodLink RX2 98 Lib.Math.max.name, Cond.static Lib.Math.max.name, Cond.initialized "java/lang/Math", Cond.code Lib.Math.max.name Lib.Math.max.code 2 (some .int), Cond.fieldLink RX2 59 "LeeVanes$Town" "lawNow" "I", Cond.methodLink RX2 103 Lib.Math.abs.name, Cond.static Lib.Math.abs.name, Cond.code Lib.Math.abs.name Lib.Math.abs.code 1 (some .int), Cond.methodLink RX2 95 yX2_vaneIn, Cond.instanceMethod yX2_vaneIn, Cond.selects RX2 yX2_vaneIn yX2_vaneIn]
def wsX2_ballotBy_r3 : List Cond := [Cond.code yX2_vaneIn cX2_vaneIn 3 (some .int), Cond.methodLink RX2 80 yX2_wayIndex, Cond.static yX2_wayIndex, Cond.code yX2_wayIndex cX2_wayIndex 2 (some .int), Cond.static yX3_write, Cond.code yX3_write cX3_write 3 none, Cond.methodLink RX2 126 yX2_winner, Cond.instanceMethod yX2_winner, Cond.selects RX2 yX2_winner yX2_winner, Cond.code yX2_winner cX2_winner 9 (some .int)]
def wsX2_ballotBy : List Cond := .code yX2_ballotBy cX2_ballotBy 3 (some .int) :: ((wsX2_ballotBy_r1 ++ (wsX2_ballotBy_r2 ++ wsX2_ballotBy_r3)) ++ wsX20)
def wsJ6_bitCount_0f7a4 : List Cond := .code yJ6_bitCount_0f7a4 cJ6_bitCount_0f7a4 1 (some .int) :: ([.constant RJ6 265 (1431655765), .constant RJ6 266 (858993459), .constant RJ6 267 (252645135)])
def wsX2_fewestBribed_r1 : List Cond := [Cond.fieldLink RX2 62 "LeeVanes$Town" "setting" "I", Cond.fieldLink RX2 56 "LeeVanes$Town" "wards" "I", Cond.methodLink RX2 123 yX2_castVotes, Cond.instanceMethod yX2_castVotes, Cond.selects RX2 yX2_castVotes yX2_castVotes, Cond.initialized RX2, Cond.code yX2_castVotes cX2_castVotes 4 none, Cond.fieldLink RX2 36 "LeeVanes$Town" "votes" "[I", Cond.methodLink RX2 120 yX2_voteBy, Cond.instanceMethod yX2_voteBy, Cond.selects RX2 yX2_voteBy yX2_voteBy, Cond.code yX2_voteBy cX2_voteBy 8 (some .int), Cond.constant RX2 84 (1000000), Cond.methodLink RX2 116 yX2_turned, Cond.instanceMethod yX2_turned, Cond.selects RX2 yX2_turned yX2_turned, Cond.code yX2_turned cX2_turned 5 (some .int), Cond.fieldLink RX2 53 "LeeVanes$Town" "works" "I", Cond.methodLink RX2 113 yX2_mindedBy, Cond.instanceMethod yX2_mindedBy, Cond.selects RX2 yX2_mindedBy yX2_mindedBy, Cond.code yX2_mindedBy cX2_mindedBy 3 (some .int), Cond.fieldLink RX2 18 "LeeVanes$Town" "wardCells" "[I", Cond.methodLink RX2 107 yX2_factorOf]
def wsX2_fewestBribed_r2 : List Cond := [Cond.instanceMethod yX2_factorOf, Cond.selects RX2 yX2_factorOf yX2_factorOf, Cond.code yX2_factorOf cX2_factorOf 3 (some .int), Cond.fieldLink RX2 15 "LeeVanes$Town" "noses" "[I", Cond.fieldLink RX2 9 "LeeVanes$Town" "kinds" "[I", Cond.static yX3_read, Cond.initialized RX3, Cond.code yX3_read cX3_read 2 (some .int), Cond.methodLink RX2 110 yX2_smellBy, Cond.instanceMethod yX2_smellBy, Cond.selects RX2 yX2_smellBy yX2_smellBy, Cond.code yX2_smellBy cX2_smellBy 7 (some .int), Cond.fieldLink RX2 24 "LeeVanes$Town" "strengths" "[I", Cond.fieldLink RX2 33 "LeeVanes$Town" "distances" "[I", Cond.methodLink RX2 98 Lib.Math.max.name, Cond.static Lib.Math.max.name, Cond.initialized "java/lang/Math", Cond.code Lib.Math.max.name Lib.Math.max.code 2 (some .int), Cond.fieldLink RX2 59 "LeeVanes$Town" "lawNow" "I", Cond.methodLink RX2 103 Lib.Math.abs.name, Cond.static Lib.Math.abs.name, Cond.code Lib.Math.abs.name Lib.Math.abs.code 1 (some .int), Cond.methodLink RX2 95 yX2_vaneIn, Cond.instanceMethod yX2_vaneIn]
def wsX2_fewestBribed_r3 : List Cond := [Cond.selects RX2 yX2_vaneIn yX2_vaneIn, Cond.code yX2_vaneIn cX2_vaneIn 3 (some .int), Cond.methodLink RX2 80 yX2_wayIndex, Cond.static yX2_wayIndex, Cond.code yX2_wayIndex cX2_wayIndex 2 (some .int), Cond.static yX3_write, Cond.code yX3_write cX3_write 3 none, Cond.methodLink RX2 129 yJ6_bitCount_0f7a4, Cond.static yJ6_bitCount_0f7a4, Cond.initialized RJ6, Cond.code yJ6_bitCount_0f7a4 cJ6_bitCount_0f7a4 1 (some .int), Cond.constant RJ6 265 (1431655765), Cond.constant RJ6 266 (858993459), Cond.constant RJ6 267 (252645135), Cond.methodLink RX2 126 yX2_winner, Cond.instanceMethod yX2_winner, Cond.selects RX2 yX2_winner yX2_winner, Cond.code yX2_winner cX2_winner 9 (some .int)]
def wsX2_fewestBribed : List Cond := .code yX2_fewestBribed cX2_fewestBribed 7 (some .int) :: ((wsX2_fewestBribed_r1 ++ (wsX2_fewestBribed_r2 ++ wsX2_fewestBribed_r3)) ++ wsX20)
def wsX2_yearAfter_r1 : List Cond := [Cond.fieldLink RX2 53 "LeeVanes$Town" "works" "I", Cond.methodLink RX2 123 yX2_castVotes, Cond.instanceMethod yX2_castVotes, Cond.selects RX2 yX2_castVotes yX2_castVotes, Cond.initialized RX2, Cond.code yX2_castVotes cX2_castVotes 4 none, Cond.fieldLink RX2 56 "LeeVanes$Town" "wards" "I", Cond.fieldLink RX2 36 "LeeVanes$Town" "votes" "[I", Cond.methodLink RX2 120 yX2_voteBy, Cond.instanceMethod yX2_voteBy, Cond.selects RX2 yX2_voteBy yX2_voteBy, Cond.code yX2_voteBy cX2_voteBy 8 (some .int), Cond.constant RX2 84 (1000000), Cond.methodLink RX2 116 yX2_turned, Cond.instanceMethod yX2_turned, Cond.selects RX2 yX2_turned yX2_turned, Cond.code yX2_turned cX2_turned 5 (some .int), Cond.methodLink RX2 113 yX2_mindedBy, Cond.instanceMethod yX2_mindedBy, Cond.selects RX2 yX2_mindedBy yX2_mindedBy, Cond.code yX2_mindedBy cX2_mindedBy 3 (some .int), Cond.fieldLink RX2 18 "LeeVanes$Town" "wardCells" "[I", Cond.methodLink RX2 107 yX2_factorOf, Cond.instanceMethod yX2_factorOf]
def wsX2_yearAfter_r2 : List Cond := [Cond.selects RX2 yX2_factorOf yX2_factorOf, Cond.code yX2_factorOf cX2_factorOf 3 (some .int), Cond.fieldLink RX2 15 "LeeVanes$Town" "noses" "[I", Cond.fieldLink RX2 9 "LeeVanes$Town" "kinds" "[I", Cond.static yX3_read, Cond.initialized RX3, Cond.code yX3_read cX3_read 2 (some .int), Cond.methodLink RX2 110 yX2_smellBy, Cond.instanceMethod yX2_smellBy, Cond.selects RX2 yX2_smellBy yX2_smellBy, Cond.code yX2_smellBy cX2_smellBy 7 (some .int), Cond.fieldLink RX2 24 "LeeVanes$Town" "strengths" "[I", Cond.fieldLink RX2 33 "LeeVanes$Town" "distances" "[I", Cond.methodLink RX2 98 Lib.Math.max.name, Cond.static Lib.Math.max.name, Cond.initialized "java/lang/Math", Cond.code Lib.Math.max.name Lib.Math.max.code 2 (some .int), Cond.fieldLink RX2 59 "LeeVanes$Town" "lawNow" "I", Cond.methodLink RX2 103 Lib.Math.abs.name, Cond.static Lib.Math.abs.name, Cond.code Lib.Math.abs.name Lib.Math.abs.code 1 (some .int), Cond.methodLink RX2 95 yX2_vaneIn, Cond.instanceMethod yX2_vaneIn, Cond.selects RX2 yX2_vaneIn yX2_vaneIn]
def wsX2_yearAfter_r3 : List Cond := [Cond.code yX2_vaneIn cX2_vaneIn 3 (some .int), Cond.methodLink RX2 80 yX2_wayIndex, Cond.static yX2_wayIndex, Cond.code yX2_wayIndex cX2_wayIndex 2 (some .int), Cond.static yX3_write, Cond.code yX3_write cX3_write 3 none, Cond.methodLink RX2 126 yX2_winner, Cond.instanceMethod yX2_winner, Cond.selects RX2 yX2_winner yX2_winner, Cond.code yX2_winner cX2_winner 9 (some .int)]
def wsX2_yearAfter : List Cond := .code yX2_yearAfter cX2_yearAfter 4 (some .int) :: ((wsX2_yearAfter_r1 ++ (wsX2_yearAfter_r2 ++ wsX2_yearAfter_r3)) ++ wsX20)
def wsX2_leastSetting_r1 : List Cond := [Cond.constant RX2 84 (1000000), Cond.methodLink RX2 134 yX2_settingsInAll, Cond.instanceMethod yX2_settingsInAll, Cond.selects RX2 yX2_settingsInAll yX2_settingsInAll, Cond.initialized RX2, Cond.code yX2_settingsInAll cX2_settingsInAll 1 (some .int), Cond.fieldLink RX2 53 "LeeVanes$Town" "works" "I", Cond.methodLink RX2 138 yX2_mostMindedBy, Cond.instanceMethod yX2_mostMindedBy, Cond.selects RX2 yX2_mostMindedBy yX2_mostMindedBy, Cond.code yX2_mostMindedBy cX2_mostMindedBy 4 (some .int), Cond.fieldLink RX2 56 "LeeVanes$Town" "wards" "I", Cond.methodLink RX2 98 Lib.Math.max.name, Cond.static Lib.Math.max.name, Cond.initialized "java/lang/Math", Cond.code Lib.Math.max.name Lib.Math.max.code 2 (some .int), Cond.methodLink RX2 113 yX2_mindedBy, Cond.instanceMethod yX2_mindedBy, Cond.selects RX2 yX2_mindedBy yX2_mindedBy, Cond.code yX2_mindedBy cX2_mindedBy 3 (some .int), Cond.fieldLink RX2 18 "LeeVanes$Town" "wardCells" "[I", Cond.methodLink RX2 107 yX2_factorOf, Cond.instanceMethod yX2_factorOf, Cond.selects RX2 yX2_factorOf yX2_factorOf]
def wsX2_leastSetting_r2 : List Cond := [Cond.code yX2_factorOf cX2_factorOf 3 (some .int), Cond.fieldLink RX2 15 "LeeVanes$Town" "noses" "[I", Cond.fieldLink RX2 9 "LeeVanes$Town" "kinds" "[I", Cond.static yX3_read, Cond.initialized RX3, Cond.code yX3_read cX3_read 2 (some .int), Cond.methodLink RX2 110 yX2_smellBy, Cond.instanceMethod yX2_smellBy, Cond.selects RX2 yX2_smellBy yX2_smellBy, Cond.code yX2_smellBy cX2_smellBy 7 (some .int), Cond.fieldLink RX2 24 "LeeVanes$Town" "strengths" "[I", Cond.fieldLink RX2 33 "LeeVanes$Town" "distances" "[I", Cond.fieldLink RX2 59 "LeeVanes$Town" "lawNow" "I", Cond.methodLink RX2 103 Lib.Math.abs.name, Cond.static Lib.Math.abs.name, Cond.code Lib.Math.abs.name Lib.Math.abs.code 1 (some .int), Cond.methodLink RX2 95 yX2_vaneIn, Cond.instanceMethod yX2_vaneIn, Cond.selects RX2 yX2_vaneIn yX2_vaneIn, Cond.code yX2_vaneIn cX2_vaneIn 3 (some .int), Cond.methodLink RX2 80 yX2_wayIndex, Cond.static yX2_wayIndex, Cond.code yX2_wayIndex cX2_wayIndex 2 (some .int), Cond.methodLink RX2 141 yX2_burdenBy]
def wsX2_leastSetting_r3 : List Cond := [Cond.instanceMethod yX2_burdenBy, Cond.selects RX2 yX2_burdenBy yX2_burdenBy, Cond.code yX2_burdenBy cX2_burdenBy 4 (some .int)]
def wsX2_leastSetting : List Cond := .code yX2_leastSetting cX2_leastSetting 6 (some .int) :: ((wsX2_leastSetting_r1 ++ (wsX2_leastSetting_r2 ++ wsX2_leastSetting_r3)) ++ wsX20)
def wsX2_agreesBy_r1 : List Cond := [Cond.fieldLink RX2 65 "LeeVanes$Town" "readings" "I", Cond.fieldLink RX2 27 "LeeVanes$Town" "readingCells" "[I", Cond.fieldLink RX2 30 "LeeVanes$Town" "readingSmells" "[I", Cond.static yX3_read, Cond.initialized RX3, Cond.code yX3_read cX3_read 2 (some .int), Cond.methodLink RX2 110 yX2_smellBy, Cond.instanceMethod yX2_smellBy, Cond.selects RX2 yX2_smellBy yX2_smellBy, Cond.initialized RX2, Cond.code yX2_smellBy cX2_smellBy 7 (some .int), Cond.fieldLink RX2 53 "LeeVanes$Town" "works" "I", Cond.fieldLink RX2 24 "LeeVanes$Town" "strengths" "[I", Cond.fieldLink RX2 33 "LeeVanes$Town" "distances" "[I", Cond.methodLink RX2 98 Lib.Math.max.name, Cond.static Lib.Math.max.name, Cond.initialized "java/lang/Math", Cond.code Lib.Math.max.name Lib.Math.max.code 2 (some .int), Cond.fieldLink RX2 59 "LeeVanes$Town" "lawNow" "I", Cond.methodLink RX2 103 Lib.Math.abs.name, Cond.static Lib.Math.abs.name, Cond.code Lib.Math.abs.name Lib.Math.abs.code 1 (some .int), Cond.methodLink RX2 95 yX2_vaneIn, Cond.instanceMethod yX2_vaneIn]
def wsX2_agreesBy_r2 : List Cond := [Cond.selects RX2 yX2_vaneIn yX2_vaneIn, Cond.code yX2_vaneIn cX2_vaneIn 3 (some .int), Cond.methodLink RX2 80 yX2_wayIndex, Cond.static yX2_wayIndex, Cond.code yX2_wayIndex cX2_wayIndex 2 (some .int)]
def wsX2_agreesBy : List Cond := .code yX2_agreesBy cX2_agreesBy 3 (some .boolean) :: ((wsX2_agreesBy_r1 ++ wsX2_agreesBy_r2) ++ wsX20)
def wsX3_init_r1 : List Cond := [Cond.methodLink RX3 3 objectInit, Cond.instanceMethod objectInit, Cond.code objectInit ⟨#[0xb1]⟩ 1 none, Cond.classLink RX3 11 RX0, Cond.fieldLink RX3 13 "LeeVanes" "sheets" "[LLeeVanes$Sheet;", Cond.classLink RX3 17 RX1, Cond.instantiable RX1 3, Cond.initialized RX1, Cond.fieldLink RX3 20 "LeeVanes" "reader" "LLeeVanes$TextReader;", Cond.arrayClass .int, Cond.fieldLink RX3 24 "LeeVanes" "firstYear" "[I", Cond.classLink RX3 28 RX2, Cond.instantiable RX2 18, Cond.initialized RX2, Cond.fieldLink RX3 31 "LeeVanes" "present" "LLeeVanes$Town;", Cond.fieldLink RX3 35 "LeeVanes" "spare" "LLeeVanes$Town;", Cond.fieldLink RX3 38 "LeeVanes" "traced" "I", Cond.fieldLink RX3 42 "LeeVanes" "lastFault" "I", Cond.instantiable RX0 3, Cond.initialized RX0, Cond.instanceMethod yX1_init, Cond.code yX1_init cX1_init 1 none, Cond.methodLink RX1 3 objectInit, Cond.fieldLink RX1 9 "LeeVanes$TextReader" "codes" "[I"]
def wsX3_init_r2 : List Cond := [Cond.fieldLink RX1 15 "LeeVanes$TextReader" "size" "I", Cond.fieldLink RX1 19 "LeeVanes$TextReader" "place" "I", Cond.instanceMethod yX2_init, Cond.code yX2_init cX2_init 1 none, Cond.methodLink RX2 3 objectInit, Cond.fieldLink RX2 9 "LeeVanes$Town" "kinds" "[I", Cond.fieldLink RX2 15 "LeeVanes$Town" "noses" "[I", Cond.fieldLink RX2 18 "LeeVanes$Town" "wardCells" "[I", Cond.fieldLink RX2 21 "LeeVanes$Town" "workCells" "[I", Cond.fieldLink RX2 24 "LeeVanes$Town" "strengths" "[I", Cond.fieldLink RX2 27 "LeeVanes$Town" "readingCells" "[I", Cond.fieldLink RX2 30 "LeeVanes$Town" "readingSmells" "[I", Cond.fieldLink RX2 33 "LeeVanes$Town" "distances" "[I", Cond.fieldLink RX2 36 "LeeVanes$Town" "votes" "[I", Cond.fieldLink RX2 39 "LeeVanes$Town" "stands" "Z", Cond.fieldLink RX2 43 "LeeVanes$Town" "high" "I", Cond.fieldLink RX2 47 "LeeVanes$Town" "wide" "I", Cond.fieldLink RX2 50 "LeeVanes$Town" "cells" "I", Cond.fieldLink RX2 53 "LeeVanes$Town" "works" "I", Cond.fieldLink RX2 56 "LeeVanes$Town" "wards" "I", Cond.fieldLink RX2 59 "LeeVanes$Town" "lawNow" "I", Cond.fieldLink RX2 62 "LeeVanes$Town" "setting" "I", Cond.fieldLink RX2 65 "LeeVanes$Town" "readings" "I", Cond.instanceMethod yX0_init]
def wsX3_init_r3 : List Cond := [Cond.code yX0_init cX0_init 1 none, Cond.methodLink RX0 3 objectInit, Cond.fieldLink RX0 9 "LeeVanes$Sheet" "row" "[I", Cond.fieldLink RX0 15 "LeeVanes$Sheet" "lane" "I", Cond.fieldLink RX0 19 "LeeVanes$Sheet" "size" "I"]
def wsX3_init : List Cond := .code yX3_init cX3_init 2 none :: ((wsX3_init_r1 ++ (wsX3_init_r2 ++ wsX3_init_r3)) ++ wsX30 ++ wsX10 ++ wsX20 ++ wsX00)
def wsX3_sheetAt : List Cond := .code yX3_sheetAt cX3_sheetAt 2 (some (.object "LeeVanes$Sheet")) :: ([.fieldLink RX3 13 "LeeVanes" "sheets" "[LLeeVanes$Sheet;"] ++ wsX30)
def wsX3_isUpTo : List Cond := .code yX3_isUpTo cX3_isUpTo 2 (some .boolean) :: ([])
def wsX3_fail : List Cond := .code yX3_fail cX3_fail 2 (some .int) :: ([.fieldLink RX3 42 "LeeVanes" "lastFault" "I"] ++ wsX30)
def wsX3_town_r1 : List Cond := [Cond.fieldLink RX3 42 "LeeVanes" "lastFault" "I", Cond.fieldLink RX3 20 "LeeVanes" "reader" "LLeeVanes$TextReader;", Cond.fieldLink RX3 35 "LeeVanes" "spare" "LLeeVanes$Town;", Cond.fieldLink RX3 70 "LeeVanes$TextReader" "place" "I", Cond.fieldLink RX3 31 "LeeVanes" "present" "LLeeVanes$Town;", Cond.fieldLink RX3 73 "LeeVanes$Town" "wards" "I", Cond.methodLink RX3 46 yX3_sheetAt, Cond.instanceMethod yX3_sheetAt, Cond.selects RX3 yX3_sheetAt yX3_sheetAt, Cond.initialized RX3, Cond.code yX3_sheetAt cX3_sheetAt 2 (some (.object "LeeVanes$Sheet")), Cond.fieldLink RX3 13 "LeeVanes" "sheets" "[LLeeVanes$Sheet;", Cond.methodLink RX3 50 yX3_isUpTo, Cond.static yX3_isUpTo, Cond.code yX3_isUpTo cX3_isUpTo 2 (some .boolean), Cond.methodLink RX3 54 yX0_faultOfTaking, Cond.instanceMethod yX0_faultOfTaking, Cond.selects RX0 yX0_faultOfTaking yX0_faultOfTaking, Cond.initialized RX0, Cond.code yX0_faultOfTaking cX0_faultOfTaking 4 (some .int), Cond.fieldLink RX0 15 "LeeVanes$Sheet" "lane" "I", Cond.methodLink RX0 28 yX0_hasRow, Cond.instanceMethod yX0_hasRow, Cond.selects RX0 yX0_hasRow yX0_hasRow]
def wsX3_town_r2 : List Cond := [Cond.code yX0_hasRow cX0_hasRow 1 (some .boolean), Cond.methodLink RX0 32 yX0_holds, Cond.instanceMethod yX0_holds, Cond.selects RX0 yX0_holds yX0_holds, Cond.code yX0_holds cX0_holds 3 (some .boolean), Cond.fieldLink RX0 19 "LeeVanes$Sheet" "size" "I", Cond.methodLink RX3 58 yX3_fail, Cond.instanceMethod yX3_fail, Cond.selects RX3 yX3_fail yX3_fail, Cond.code yX3_fail cX3_fail 2 (some .int), Cond.methodLink RX3 62 yX1_load, Cond.instanceMethod yX1_load, Cond.selects RX1 yX1_load yX1_load, Cond.initialized RX1, Cond.code yX1_load cX1_load 5 none, Cond.fieldLink RX1 19 "LeeVanes$TextReader" "place" "I", Cond.fieldLink RX1 15 "LeeVanes$TextReader" "size" "I", Cond.fieldLink RX1 9 "LeeVanes$TextReader" "codes" "[I", Cond.fieldLink RX1 22 "LeeVanes$Sheet" "row" "[I", Cond.static yX3_read, Cond.code yX3_read cX3_read 2 (some .int), Cond.static yX3_write, Cond.code yX3_write cX3_write 3 none, Cond.methodLink RX3 66 yX1_readInto]
def wsX3_town_r3 : List Cond := [Cond.instanceMethod yX1_readInto, Cond.selects RX1 yX1_readInto yX1_readInto, Cond.code yX1_readInto cX1_readInto 5 (some .boolean), Cond.fieldLink RX1 56 "LeeVanes$Town" "stands" "Z", Cond.methodLink RX1 35 yX2_clear, Cond.instanceMethod yX2_clear, Cond.selects RX2 yX2_clear yX2_clear, Cond.initialized RX2, Cond.code yX2_clear cX2_clear 1 none, Cond.fieldLink RX2 39 "LeeVanes$Town" "stands" "Z", Cond.fieldLink RX2 53 "LeeVanes$Town" "works" "I", Cond.fieldLink RX2 56 "LeeVanes$Town" "wards" "I", Cond.fieldLink RX2 59 "LeeVanes$Town" "lawNow" "I", Cond.fieldLink RX2 62 "LeeVanes$Town" "setting" "I", Cond.fieldLink RX2 65 "LeeVanes$Town" "readings" "I", Cond.methodLink RX2 68 yX2_measure, Cond.instanceMethod yX2_measure, Cond.selects RX2 yX2_measure yX2_measure, Cond.code yX2_measure cX2_measure 3 none, Cond.fieldLink RX2 43 "LeeVanes$Town" "high" "I", Cond.fieldLink RX2 47 "LeeVanes$Town" "wide" "I", Cond.fieldLink RX2 50 "LeeVanes$Town" "cells" "I", Cond.methodLink RX1 40 yX1_takes, Cond.instanceMethod yX1_takes]
def wsX3_town_r4 : List Cond := [Cond.selects RX1 yX1_takes yX1_takes, Cond.code yX1_takes cX1_takes 2 (some .boolean), Cond.methodLink RX1 67 yX1_next, Cond.instanceMethod yX1_next, Cond.selects RX1 yX1_next yX1_next, Cond.code yX1_next cX1_next 1 (some .int), Cond.methodLink RX1 44 yX1_digit, Cond.instanceMethod yX1_digit, Cond.selects RX1 yX1_digit yX1_digit, Cond.code yX1_digit cX1_digit 4 (some .int), Cond.methodLink RX1 48 yX2_measure, Cond.methodLink RX1 52 yX1_readRow, Cond.instanceMethod yX1_readRow, Cond.selects RX1 yX1_readRow yX1_readRow, Cond.code yX1_readRow cX1_readRow 4 (some .boolean), Cond.fieldLink RX1 60 "LeeVanes$Town" "wide" "I", Cond.methodLink RX1 63 yX1_readPart, Cond.instanceMethod yX1_readPart, Cond.selects RX1 yX1_readPart yX1_readPart, Cond.code yX1_readPart cX1_readPart 8 (some .boolean), Cond.fieldLink RX1 75 "LeeVanes$Town" "works" "I", Cond.fieldLink RX1 78 "LeeVanes$Town" "wards" "I", Cond.methodLink RX1 71 yX1_kindOf, Cond.static yX1_kindOf]
def wsX3_town_r5 : List Cond := [Cond.code yX1_kindOf cX1_kindOf 1 (some .int), Cond.methodLink RX1 81 yX2_addWork, Cond.instanceMethod yX2_addWork, Cond.selects RX2 yX2_addWork yX2_addWork, Cond.code yX2_addWork cX2_addWork 5 none, Cond.fieldLink RX2 21 "LeeVanes$Town" "workCells" "[I", Cond.fieldLink RX2 24 "LeeVanes$Town" "strengths" "[I", Cond.methodLink RX2 76 yX2_measureWay, Cond.instanceMethod yX2_measureWay, Cond.selects RX2 yX2_measureWay yX2_measureWay, Cond.code yX2_measureWay cX2_measureWay 8 none, Cond.fieldLink RX2 33 "LeeVanes$Town" "distances" "[I", Cond.constant RX2 84 (1000000), Cond.methodLink RX2 80 yX2_wayIndex, Cond.static yX2_wayIndex, Cond.code yX2_wayIndex cX2_wayIndex 2 (some .int), Cond.methodLink RX1 85 yX2_addWard, Cond.instanceMethod yX2_addWard, Cond.selects RX2 yX2_addWard yX2_addWard, Cond.code yX2_addWard cX2_addWard 4 none, Cond.fieldLink RX2 9 "LeeVanes$Town" "kinds" "[I", Cond.fieldLink RX2 18 "LeeVanes$Town" "wardCells" "[I", Cond.fieldLink RX2 15 "LeeVanes$Town" "noses" "[I"]
def wsX3_town : List Cond := .code yX3_town cX3_town 8 (some .int) :: ((wsX3_town_r1 ++ (wsX3_town_r2 ++ (wsX3_town_r3 ++ (wsX3_town_r4 ++ wsX3_town_r5)))) ++ wsX30 ++ wsX10 ++ wsX20 ++ wsX00)
def wsX3_ofWard : List Cond := .code yX3_ofWard cX3_ofWard 3 (some .int) :: ([.fieldLink RX3 31 "LeeVanes" "present" "LLeeVanes$Town;", .fieldLink RX3 80 "LeeVanes$Town" "kinds" "[I", .fieldLink RX3 87 "LeeVanes$Town" "noses" "[I", .fieldLink RX3 90 "LeeVanes$Town" "wardCells" "[I", .methodLink RX3 76 yX2_hasWard, .instanceMethod yX2_hasWard, .selects RX2 yX2_hasWard yX2_hasWard, .initialized RX2, .code yX2_hasWard cX2_hasWard 2 (some .boolean), .fieldLink RX2 56 "LeeVanes$Town" "wards" "I", .methodLink RX3 83 yX3_read, .static yX3_read, .initialized RX3, .code yX3_read cX3_read 2 (some .int), .methodLink RX3 93 yX2_factorOf, .instanceMethod yX2_factorOf, .selects RX2 yX2_factorOf yX2_factorOf, .code yX2_factorOf cX2_factorOf 3 (some .int), .fieldLink RX2 15 "LeeVanes$Town" "noses" "[I", .fieldLink RX2 9 "LeeVanes$Town" "kinds" "[I"] ++ wsX30 ++ wsX20)
def wsX3_ofWork : List Cond := .code yX3_ofWork cX3_ofWork 3 (some .int) :: ([.fieldLink RX3 31 "LeeVanes" "present" "LLeeVanes$Town;", .fieldLink RX3 99 "LeeVanes$Town" "workCells" "[I", .fieldLink RX3 102 "LeeVanes$Town" "strengths" "[I", .fieldLink RX3 105 "LeeVanes$Town" "setting" "I", .methodLink RX3 96 yX2_hasWork, .instanceMethod yX2_hasWork, .selects RX2 yX2_hasWork yX2_hasWork, .initialized RX2, .code yX2_hasWork cX2_hasWork 2 (some .boolean), .fieldLink RX2 53 "LeeVanes$Town" "works" "I", .methodLink RX3 83 yX3_read, .static yX3_read, .initialized RX3, .code yX3_read cX3_read 2 (some .int), .methodLink RX3 108 yX2_vaneIn, .instanceMethod yX2_vaneIn, .selects RX2 yX2_vaneIn yX2_vaneIn, .code yX2_vaneIn cX2_vaneIn 3 (some .int)] ++ wsX30 ++ wsX20)
def wsX3_law : List Cond := .code yX3_law cX3_law 3 (some .int) :: ([.fieldLink RX3 31 "LeeVanes" "present" "LLeeVanes$Town;", .fieldLink RX3 112 "LeeVanes$Town" "stands" "Z", .fieldLink RX3 116 "LeeVanes$Town" "lawNow" "I", .methodLink RX3 50 yX3_isUpTo, .static yX3_isUpTo, .initialized RX3, .code yX3_isUpTo cX3_isUpTo 2 (some .boolean)] ++ wsX30 ++ wsX20)
def wsX3_turn : List Cond := .code yX3_turn cX3_turn 4 (some .int) :: ([.fieldLink RX3 31 "LeeVanes" "present" "LLeeVanes$Town;", .fieldLink RX3 105 "LeeVanes$Town" "setting" "I", .methodLink RX3 96 yX2_hasWork, .instanceMethod yX2_hasWork, .selects RX2 yX2_hasWork yX2_hasWork, .initialized RX2, .code yX2_hasWork cX2_hasWork 2 (some .boolean), .fieldLink RX2 53 "LeeVanes$Town" "works" "I", .methodLink RX3 50 yX3_isUpTo, .static yX3_isUpTo, .initialized RX3, .code yX3_isUpTo cX3_isUpTo 2 (some .boolean), .methodLink RX3 108 yX2_vaneIn, .instanceMethod yX2_vaneIn, .selects RX2 yX2_vaneIn yX2_vaneIn, .code yX2_vaneIn cX2_vaneIn 3 (some .int), .methodLink RX3 119 yX2_turned, .instanceMethod yX2_turned, .selects RX2 yX2_turned yX2_turned, .code yX2_turned cX2_turned 5 (some .int)] ++ wsX30 ++ wsX20)
def wsX3_smell_r1 : List Cond := [Cond.fieldLink RX3 31 "LeeVanes" "present" "LLeeVanes$Town;", Cond.fieldLink RX3 105 "LeeVanes$Town" "setting" "I", Cond.methodLink RX3 122 yX2_hasCell, Cond.instanceMethod yX2_hasCell, Cond.selects RX2 yX2_hasCell yX2_hasCell, Cond.initialized RX2, Cond.code yX2_hasCell cX2_hasCell 2 (some .boolean), Cond.fieldLink RX2 50 "LeeVanes$Town" "cells" "I", Cond.methodLink RX3 125 yX2_smellBy, Cond.instanceMethod yX2_smellBy, Cond.selects RX2 yX2_smellBy yX2_smellBy, Cond.code yX2_smellBy cX2_smellBy 7 (some .int), Cond.fieldLink RX2 53 "LeeVanes$Town" "works" "I", Cond.fieldLink RX2 24 "LeeVanes$Town" "strengths" "[I", Cond.fieldLink RX2 33 "LeeVanes$Town" "distances" "[I", Cond.methodLink RX2 98 Lib.Math.max.name, Cond.static Lib.Math.max.name, Cond.initialized "java/lang/Math", Cond.code Lib.Math.max.name Lib.Math.max.code 2 (some .int), Cond.fieldLink RX2 59 "LeeVanes$Town" "lawNow" "I", Cond.methodLink RX2 103 Lib.Math.abs.name, Cond.static Lib.Math.abs.name, Cond.code Lib.Math.abs.name Lib.Math.abs.code 1 (some .int), Cond.methodLink RX2 95 yX2_vaneIn]
def wsX3_smell_r2 : List Cond := [Cond.instanceMethod yX2_vaneIn, Cond.selects RX2 yX2_vaneIn yX2_vaneIn, Cond.code yX2_vaneIn cX2_vaneIn 3 (some .int), Cond.methodLink RX2 80 yX2_wayIndex, Cond.static yX2_wayIndex, Cond.code yX2_wayIndex cX2_wayIndex 2 (some .int), Cond.static yX3_read, Cond.initialized RX3, Cond.code yX3_read cX3_read 2 (some .int)]
def wsX3_smell : List Cond := .code yX3_smell cX3_smell 2 (some .int) :: ((wsX3_smell_r1 ++ wsX3_smell_r2) ++ wsX30 ++ wsX20)
def wsX3_minds_r1 : List Cond := [Cond.fieldLink RX3 31 "LeeVanes" "present" "LLeeVanes$Town;", Cond.fieldLink RX3 105 "LeeVanes$Town" "setting" "I", Cond.methodLink RX3 76 yX2_hasWard, Cond.instanceMethod yX2_hasWard, Cond.selects RX2 yX2_hasWard yX2_hasWard, Cond.initialized RX2, Cond.code yX2_hasWard cX2_hasWard 2 (some .boolean), Cond.fieldLink RX2 56 "LeeVanes$Town" "wards" "I", Cond.methodLink RX3 128 yX2_mindedBy, Cond.instanceMethod yX2_mindedBy, Cond.selects RX2 yX2_mindedBy yX2_mindedBy, Cond.code yX2_mindedBy cX2_mindedBy 3 (some .int), Cond.fieldLink RX2 18 "LeeVanes$Town" "wardCells" "[I", Cond.methodLink RX2 107 yX2_factorOf, Cond.instanceMethod yX2_factorOf, Cond.selects RX2 yX2_factorOf yX2_factorOf, Cond.code yX2_factorOf cX2_factorOf 3 (some .int), Cond.fieldLink RX2 15 "LeeVanes$Town" "noses" "[I", Cond.fieldLink RX2 9 "LeeVanes$Town" "kinds" "[I", Cond.static yX3_read, Cond.initialized RX3, Cond.code yX3_read cX3_read 2 (some .int), Cond.methodLink RX2 110 yX2_smellBy, Cond.instanceMethod yX2_smellBy]
def wsX3_minds_r2 : List Cond := [Cond.selects RX2 yX2_smellBy yX2_smellBy, Cond.code yX2_smellBy cX2_smellBy 7 (some .int), Cond.fieldLink RX2 53 "LeeVanes$Town" "works" "I", Cond.fieldLink RX2 24 "LeeVanes$Town" "strengths" "[I", Cond.fieldLink RX2 33 "LeeVanes$Town" "distances" "[I", Cond.methodLink RX2 98 Lib.Math.max.name, Cond.static Lib.Math.max.name, Cond.initialized "java/lang/Math", Cond.code Lib.Math.max.name Lib.Math.max.code 2 (some .int), Cond.fieldLink RX2 59 "LeeVanes$Town" "lawNow" "I", Cond.methodLink RX2 103 Lib.Math.abs.name, Cond.static Lib.Math.abs.name, Cond.code Lib.Math.abs.name Lib.Math.abs.code 1 (some .int), Cond.methodLink RX2 95 yX2_vaneIn, Cond.instanceMethod yX2_vaneIn, Cond.selects RX2 yX2_vaneIn yX2_vaneIn, Cond.code yX2_vaneIn cX2_vaneIn 3 (some .int), Cond.methodLink RX2 80 yX2_wayIndex, Cond.static yX2_wayIndex, Cond.code yX2_wayIndex cX2_wayIndex 2 (some .int)]
def wsX3_minds : List Cond := .code yX3_minds cX3_minds 2 (some .int) :: ((wsX3_minds_r1 ++ wsX3_minds_r2) ++ wsX30 ++ wsX20)
def wsX3_burden_r1 : List Cond := [Cond.fieldLink RX3 31 "LeeVanes" "present" "LLeeVanes$Town;", Cond.fieldLink RX3 112 "LeeVanes$Town" "stands" "Z", Cond.fieldLink RX3 105 "LeeVanes$Town" "setting" "I", Cond.methodLink RX3 131 yX2_burdenBy, Cond.instanceMethod yX2_burdenBy, Cond.selects RX2 yX2_burdenBy yX2_burdenBy, Cond.initialized RX2, Cond.code yX2_burdenBy cX2_burdenBy 4 (some .int), Cond.fieldLink RX2 56 "LeeVanes$Town" "wards" "I", Cond.methodLink RX2 113 yX2_mindedBy, Cond.instanceMethod yX2_mindedBy, Cond.selects RX2 yX2_mindedBy yX2_mindedBy, Cond.code yX2_mindedBy cX2_mindedBy 3 (some .int), Cond.fieldLink RX2 18 "LeeVanes$Town" "wardCells" "[I", Cond.methodLink RX2 107 yX2_factorOf, Cond.instanceMethod yX2_factorOf, Cond.selects RX2 yX2_factorOf yX2_factorOf, Cond.code yX2_factorOf cX2_factorOf 3 (some .int), Cond.fieldLink RX2 15 "LeeVanes$Town" "noses" "[I", Cond.fieldLink RX2 9 "LeeVanes$Town" "kinds" "[I", Cond.static yX3_read, Cond.initialized RX3, Cond.code yX3_read cX3_read 2 (some .int), Cond.methodLink RX2 110 yX2_smellBy]
def wsX3_burden_r2 : List Cond := [Cond.instanceMethod yX2_smellBy, Cond.selects RX2 yX2_smellBy yX2_smellBy, Cond.code yX2_smellBy cX2_smellBy 7 (some .int), Cond.fieldLink RX2 53 "LeeVanes$Town" "works" "I", Cond.fieldLink RX2 24 "LeeVanes$Town" "strengths" "[I", Cond.fieldLink RX2 33 "LeeVanes$Town" "distances" "[I", Cond.methodLink RX2 98 Lib.Math.max.name, Cond.static Lib.Math.max.name, Cond.initialized "java/lang/Math", Cond.code Lib.Math.max.name Lib.Math.max.code 2 (some .int), Cond.fieldLink RX2 59 "LeeVanes$Town" "lawNow" "I", Cond.methodLink RX2 103 Lib.Math.abs.name, Cond.static Lib.Math.abs.name, Cond.code Lib.Math.abs.name Lib.Math.abs.code 1 (some .int), Cond.methodLink RX2 95 yX2_vaneIn, Cond.instanceMethod yX2_vaneIn, Cond.selects RX2 yX2_vaneIn yX2_vaneIn, Cond.code yX2_vaneIn cX2_vaneIn 3 (some .int), Cond.methodLink RX2 80 yX2_wayIndex, Cond.static yX2_wayIndex, Cond.code yX2_wayIndex cX2_wayIndex 2 (some .int)]
def wsX3_burden : List Cond := .code yX3_burden cX3_burden 1 (some .int) :: ((wsX3_burden_r1 ++ wsX3_burden_r2) ++ wsX30 ++ wsX20)
def wsX3_told_r1 : List Cond := [Cond.fieldLink RX3 42 "LeeVanes" "lastFault" "I", Cond.fieldLink RX3 31 "LeeVanes" "present" "LLeeVanes$Town;", Cond.fieldLink RX3 112 "LeeVanes$Town" "stands" "Z", Cond.fieldLink RX3 134 "LeeVanes$Town" "works" "I", Cond.fieldLink RX3 137 "LeeVanes$Sheet" "row" "[I", Cond.methodLink RX3 46 yX3_sheetAt, Cond.instanceMethod yX3_sheetAt, Cond.selects RX3 yX3_sheetAt yX3_sheetAt, Cond.initialized RX3, Cond.code yX3_sheetAt cX3_sheetAt 2 (some (.object "LeeVanes$Sheet")), Cond.fieldLink RX3 13 "LeeVanes" "sheets" "[LLeeVanes$Sheet;", Cond.methodLink RX3 50 yX3_isUpTo, Cond.static yX3_isUpTo, Cond.code yX3_isUpTo cX3_isUpTo 2 (some .boolean), Cond.methodLink RX3 54 yX0_faultOfTaking, Cond.instanceMethod yX0_faultOfTaking, Cond.selects RX0 yX0_faultOfTaking yX0_faultOfTaking, Cond.initialized RX0, Cond.code yX0_faultOfTaking cX0_faultOfTaking 4 (some .int), Cond.fieldLink RX0 15 "LeeVanes$Sheet" "lane" "I", Cond.methodLink RX0 28 yX0_hasRow, Cond.instanceMethod yX0_hasRow, Cond.selects RX0 yX0_hasRow yX0_hasRow, Cond.code yX0_hasRow cX0_hasRow 1 (some .boolean)]
def wsX3_told_r2 : List Cond := [Cond.methodLink RX0 32 yX0_holds, Cond.instanceMethod yX0_holds, Cond.selects RX0 yX0_holds yX0_holds, Cond.code yX0_holds cX0_holds 3 (some .boolean), Cond.fieldLink RX0 19 "LeeVanes$Sheet" "size" "I", Cond.methodLink RX3 58 yX3_fail, Cond.instanceMethod yX3_fail, Cond.selects RX3 yX3_fail yX3_fail, Cond.code yX3_fail cX3_fail 2 (some .int), Cond.methodLink RX3 83 yX3_read, Cond.static yX3_read, Cond.code yX3_read cX3_read 2 (some .int), Cond.methodLink RX3 119 yX2_turned, Cond.instanceMethod yX2_turned, Cond.selects RX2 yX2_turned yX2_turned, Cond.initialized RX2, Cond.code yX2_turned cX2_turned 5 (some .int), Cond.fieldLink RX2 53 "LeeVanes$Town" "works" "I", Cond.methodLink RX3 131 yX2_burdenBy, Cond.instanceMethod yX2_burdenBy, Cond.selects RX2 yX2_burdenBy yX2_burdenBy, Cond.code yX2_burdenBy cX2_burdenBy 4 (some .int), Cond.fieldLink RX2 56 "LeeVanes$Town" "wards" "I", Cond.methodLink RX2 113 yX2_mindedBy]
def wsX3_told_r3 : List Cond := [Cond.instanceMethod yX2_mindedBy, Cond.selects RX2 yX2_mindedBy yX2_mindedBy, Cond.code yX2_mindedBy cX2_mindedBy 3 (some .int), Cond.fieldLink RX2 18 "LeeVanes$Town" "wardCells" "[I", Cond.methodLink RX2 107 yX2_factorOf, Cond.instanceMethod yX2_factorOf, Cond.selects RX2 yX2_factorOf yX2_factorOf, Cond.code yX2_factorOf cX2_factorOf 3 (some .int), Cond.fieldLink RX2 15 "LeeVanes$Town" "noses" "[I", Cond.fieldLink RX2 9 "LeeVanes$Town" "kinds" "[I", Cond.methodLink RX2 110 yX2_smellBy, Cond.instanceMethod yX2_smellBy, Cond.selects RX2 yX2_smellBy yX2_smellBy, Cond.code yX2_smellBy cX2_smellBy 7 (some .int), Cond.fieldLink RX2 24 "LeeVanes$Town" "strengths" "[I", Cond.fieldLink RX2 33 "LeeVanes$Town" "distances" "[I", Cond.methodLink RX2 98 Lib.Math.max.name, Cond.static Lib.Math.max.name, Cond.initialized "java/lang/Math", Cond.code Lib.Math.max.name Lib.Math.max.code 2 (some .int), Cond.fieldLink RX2 59 "LeeVanes$Town" "lawNow" "I", Cond.methodLink RX2 103 Lib.Math.abs.name, Cond.static Lib.Math.abs.name, Cond.code Lib.Math.abs.name Lib.Math.abs.code 1 (some .int)]
def wsX3_told_r4 : List Cond := [Cond.methodLink RX2 95 yX2_vaneIn, Cond.instanceMethod yX2_vaneIn, Cond.selects RX2 yX2_vaneIn yX2_vaneIn, Cond.code yX2_vaneIn cX2_vaneIn 3 (some .int), Cond.methodLink RX2 80 yX2_wayIndex, Cond.static yX2_wayIndex, Cond.code yX2_wayIndex cX2_wayIndex 2 (some .int)]
def wsX3_told : List Cond := .code yX3_told cX3_told 10 (some .int) :: ((wsX3_told_r1 ++ (wsX3_told_r2 ++ (wsX3_told_r3 ++ wsX3_told_r4))) ++ wsX30 ++ wsX20 ++ wsX00)
def wsX3_vote_r1 : List Cond := [Cond.fieldLink RX3 31 "LeeVanes" "present" "LLeeVanes$Town;", Cond.fieldLink RX3 105 "LeeVanes$Town" "setting" "I", Cond.methodLink RX3 76 yX2_hasWard, Cond.instanceMethod yX2_hasWard, Cond.selects RX2 yX2_hasWard yX2_hasWard, Cond.initialized RX2, Cond.code yX2_hasWard cX2_hasWard 2 (some .boolean), Cond.fieldLink RX2 56 "LeeVanes$Town" "wards" "I", Cond.methodLink RX3 96 yX2_hasWork, Cond.instanceMethod yX2_hasWork, Cond.selects RX2 yX2_hasWork yX2_hasWork, Cond.code yX2_hasWork cX2_hasWork 2 (some .boolean), Cond.fieldLink RX2 53 "LeeVanes$Town" "works" "I", Cond.methodLink RX3 140 yX2_voteBy, Cond.instanceMethod yX2_voteBy, Cond.selects RX2 yX2_voteBy yX2_voteBy, Cond.code yX2_voteBy cX2_voteBy 8 (some .int), Cond.constant RX2 84 (1000000), Cond.methodLink RX2 116 yX2_turned, Cond.instanceMethod yX2_turned, Cond.selects RX2 yX2_turned yX2_turned, Cond.code yX2_turned cX2_turned 5 (some .int), Cond.methodLink RX2 113 yX2_mindedBy, Cond.instanceMethod yX2_mindedBy]
def wsX3_vote_r2 : List Cond := [Cond.selects RX2 yX2_mindedBy yX2_mindedBy, Cond.code yX2_mindedBy cX2_mindedBy 3 (some .int), Cond.fieldLink RX2 18 "LeeVanes$Town" "wardCells" "[I", Cond.methodLink RX2 107 yX2_factorOf, Cond.instanceMethod yX2_factorOf, Cond.selects RX2 yX2_factorOf yX2_factorOf, Cond.code yX2_factorOf cX2_factorOf 3 (some .int), Cond.fieldLink RX2 15 "LeeVanes$Town" "noses" "[I", Cond.fieldLink RX2 9 "LeeVanes$Town" "kinds" "[I", Cond.static yX3_read, Cond.initialized RX3, Cond.code yX3_read cX3_read 2 (some .int), Cond.methodLink RX2 110 yX2_smellBy, Cond.instanceMethod yX2_smellBy, Cond.selects RX2 yX2_smellBy yX2_smellBy, Cond.code yX2_smellBy cX2_smellBy 7 (some .int), Cond.fieldLink RX2 24 "LeeVanes$Town" "strengths" "[I", Cond.fieldLink RX2 33 "LeeVanes$Town" "distances" "[I", Cond.methodLink RX2 98 Lib.Math.max.name, Cond.static Lib.Math.max.name, Cond.initialized "java/lang/Math", Cond.code Lib.Math.max.name Lib.Math.max.code 2 (some .int), Cond.fieldLink RX2 59 "LeeVanes$Town" "lawNow" "I", Cond.methodLink RX2 103 Lib.Math.abs.name]
def wsX3_vote_r3 : List Cond := [Cond.static Lib.Math.abs.name, Cond.code Lib.Math.abs.name Lib.Math.abs.code 1 (some .int), Cond.methodLink RX2 95 yX2_vaneIn, Cond.instanceMethod yX2_vaneIn, Cond.selects RX2 yX2_vaneIn yX2_vaneIn, Cond.code yX2_vaneIn cX2_vaneIn 3 (some .int), Cond.methodLink RX2 80 yX2_wayIndex, Cond.static yX2_wayIndex, Cond.code yX2_wayIndex cX2_wayIndex 2 (some .int)]
def wsX3_vote : List Cond := .code yX3_vote cX3_vote 4 (some .int) :: ((wsX3_vote_r1 ++ (wsX3_vote_r2 ++ wsX3_vote_r3)) ++ wsX30 ++ wsX20)
def wsX3_ballot_r1 : List Cond := [Cond.fieldLink RX3 31 "LeeVanes" "present" "LLeeVanes$Town;", Cond.fieldLink RX3 105 "LeeVanes$Town" "setting" "I", Cond.methodLink RX3 96 yX2_hasWork, Cond.instanceMethod yX2_hasWork, Cond.selects RX2 yX2_hasWork yX2_hasWork, Cond.initialized RX2, Cond.code yX2_hasWork cX2_hasWork 2 (some .boolean), Cond.fieldLink RX2 53 "LeeVanes$Town" "works" "I", Cond.methodLink RX3 143 yX2_ballotBy, Cond.instanceMethod yX2_ballotBy, Cond.selects RX2 yX2_ballotBy yX2_ballotBy, Cond.code yX2_ballotBy cX2_ballotBy 3 (some .int), Cond.methodLink RX2 123 yX2_castVotes, Cond.instanceMethod yX2_castVotes, Cond.selects RX2 yX2_castVotes yX2_castVotes, Cond.code yX2_castVotes cX2_castVotes 4 none, Cond.fieldLink RX2 56 "LeeVanes$Town" "wards" "I", Cond.fieldLink RX2 36 "LeeVanes$Town" "votes" "[I", Cond.methodLink RX2 120 yX2_voteBy, Cond.instanceMethod yX2_voteBy, Cond.selects RX2 yX2_voteBy yX2_voteBy, Cond.code yX2_voteBy cX2_voteBy 8 (some .int), Cond.constant RX2 84 (1000000), Cond.methodLink RX2 116 yX2_turned]
def wsX3_ballot_r2 : List Cond := [Cond.instanceMethod yX2_turned, Cond.selects RX2 yX2_turned yX2_turned, Cond.code yX2_turned cX2_turned 5 (some .int), Cond.methodLink RX2 113 yX2_mindedBy, Cond.instanceMethod yX2_mindedBy, Cond.selects RX2 yX2_mindedBy yX2_mindedBy, Cond.code yX2_mindedBy cX2_mindedBy 3 (some .int), Cond.fieldLink RX2 18 "LeeVanes$Town" "wardCells" "[I", Cond.methodLink RX2 107 yX2_factorOf, Cond.instanceMethod yX2_factorOf, Cond.selects RX2 yX2_factorOf yX2_factorOf, Cond.code yX2_factorOf cX2_factorOf 3 (some .int), Cond.fieldLink RX2 15 "LeeVanes$Town" "noses" "[I", Cond.fieldLink RX2 9 "LeeVanes$Town" "kinds" "[I", Cond.static yX3_read, Cond.initialized RX3, Cond.code yX3_read cX3_read 2 (some .int), Cond.methodLink RX2 110 yX2_smellBy, Cond.instanceMethod yX2_smellBy, Cond.selects RX2 yX2_smellBy yX2_smellBy, Cond.code yX2_smellBy cX2_smellBy 7 (some .int), Cond.fieldLink RX2 24 "LeeVanes$Town" "strengths" "[I", Cond.fieldLink RX2 33 "LeeVanes$Town" "distances" "[I", Cond.methodLink RX2 98 Lib.Math.max.name]
def wsX3_ballot_r3 : List Cond := [Cond.static Lib.Math.max.name, Cond.initialized "java/lang/Math", Cond.code Lib.Math.max.name Lib.Math.max.code 2 (some .int), Cond.fieldLink RX2 59 "LeeVanes$Town" "lawNow" "I", Cond.methodLink RX2 103 Lib.Math.abs.name, Cond.static Lib.Math.abs.name, Cond.code Lib.Math.abs.name Lib.Math.abs.code 1 (some .int), Cond.methodLink RX2 95 yX2_vaneIn, Cond.instanceMethod yX2_vaneIn, Cond.selects RX2 yX2_vaneIn yX2_vaneIn, Cond.code yX2_vaneIn cX2_vaneIn 3 (some .int), Cond.methodLink RX2 80 yX2_wayIndex, Cond.static yX2_wayIndex, Cond.code yX2_wayIndex cX2_wayIndex 2 (some .int), Cond.static yX3_write, Cond.code yX3_write cX3_write 3 none, Cond.methodLink RX2 126 yX2_winner, Cond.instanceMethod yX2_winner, Cond.selects RX2 yX2_winner yX2_winner, Cond.code yX2_winner cX2_winner 9 (some .int)]
def wsX3_ballot : List Cond := .code yX3_ballot cX3_ballot 2 (some .int) :: ((wsX3_ballot_r1 ++ (wsX3_ballot_r2 ++ wsX3_ballot_r3)) ++ wsX30 ++ wsX20)
def wsX3_year_r1 : List Cond := [Cond.fieldLink RX3 31 "LeeVanes" "present" "LLeeVanes$Town;", Cond.fieldLink RX3 112 "LeeVanes$Town" "stands" "Z", Cond.fieldLink RX3 105 "LeeVanes$Town" "setting" "I", Cond.fieldLink RX3 134 "LeeVanes$Town" "works" "I", Cond.methodLink RX3 146 yX2_yearAfter, Cond.instanceMethod yX2_yearAfter, Cond.selects RX2 yX2_yearAfter yX2_yearAfter, Cond.initialized RX2, Cond.code yX2_yearAfter cX2_yearAfter 4 (some .int), Cond.fieldLink RX2 53 "LeeVanes$Town" "works" "I", Cond.methodLink RX2 123 yX2_castVotes, Cond.instanceMethod yX2_castVotes, Cond.selects RX2 yX2_castVotes yX2_castVotes, Cond.code yX2_castVotes cX2_castVotes 4 none, Cond.fieldLink RX2 56 "LeeVanes$Town" "wards" "I", Cond.fieldLink RX2 36 "LeeVanes$Town" "votes" "[I", Cond.methodLink RX2 120 yX2_voteBy, Cond.instanceMethod yX2_voteBy, Cond.selects RX2 yX2_voteBy yX2_voteBy, Cond.code yX2_voteBy cX2_voteBy 8 (some .int), Cond.constant RX2 84 (1000000), Cond.methodLink RX2 116 yX2_turned, Cond.instanceMethod yX2_turned, Cond.selects RX2 yX2_turned yX2_turned]
def wsX3_year_r2 : List Cond := [Cond.code yX2_turned cX2_turned 5 (some .int), Cond.methodLink RX2 113 yX2_mindedBy, Cond.instanceMethod yX2_mindedBy, Cond.selects RX2 yX2_mindedBy yX2_mindedBy, Cond.code yX2_mindedBy cX2_mindedBy 3 (some .int), Cond.fieldLink RX2 18 "LeeVanes$Town" "wardCells" "[I", Cond.methodLink RX2 107 yX2_factorOf, Cond.instanceMethod yX2_factorOf, Cond.selects RX2 yX2_factorOf yX2_factorOf, Cond.code yX2_factorOf cX2_factorOf 3 (some .int), Cond.fieldLink RX2 15 "LeeVanes$Town" "noses" "[I", Cond.fieldLink RX2 9 "LeeVanes$Town" "kinds" "[I", Cond.static yX3_read, Cond.initialized RX3, Cond.code yX3_read cX3_read 2 (some .int), Cond.methodLink RX2 110 yX2_smellBy, Cond.instanceMethod yX2_smellBy, Cond.selects RX2 yX2_smellBy yX2_smellBy, Cond.code yX2_smellBy cX2_smellBy 7 (some .int), Cond.fieldLink RX2 24 "LeeVanes$Town" "strengths" "[I", Cond.fieldLink RX2 33 "LeeVanes$Town" "distances" "[I", Cond.methodLink RX2 98 Lib.Math.max.name, Cond.static Lib.Math.max.name, Cond.initialized "java/lang/Math"]
def wsX3_year_r3 : List Cond := [Cond.code Lib.Math.max.name Lib.Math.max.code 2 (some .int), Cond.fieldLink RX2 59 "LeeVanes$Town" "lawNow" "I", Cond.methodLink RX2 103 Lib.Math.abs.name, Cond.static Lib.Math.abs.name, Cond.code Lib.Math.abs.name Lib.Math.abs.code 1 (some .int), Cond.methodLink RX2 95 yX2_vaneIn, Cond.instanceMethod yX2_vaneIn, Cond.selects RX2 yX2_vaneIn yX2_vaneIn, Cond.code yX2_vaneIn cX2_vaneIn 3 (some .int), Cond.methodLink RX2 80 yX2_wayIndex, Cond.static yX2_wayIndex, Cond.code yX2_wayIndex cX2_wayIndex 2 (some .int), Cond.static yX3_write, Cond.code yX3_write cX3_write 3 none, Cond.methodLink RX2 126 yX2_winner, Cond.instanceMethod yX2_winner, Cond.selects RX2 yX2_winner yX2_winner, Cond.code yX2_winner cX2_winner 9 (some .int), Cond.methodLink RX3 108 yX2_vaneIn]
def wsX3_year : List Cond := .code yX3_year cX3_year 4 (some .int) :: ((wsX3_year_r1 ++ (wsX3_year_r2 ++ wsX3_year_r3)) ++ wsX30 ++ wsX20)
def wsX3_round_r1 : List Cond := [Cond.fieldLink RX3 31 "LeeVanes" "present" "LLeeVanes$Town;", Cond.fieldLink RX3 112 "LeeVanes$Town" "stands" "Z", Cond.fieldLink RX3 24 "LeeVanes" "firstYear" "[I", Cond.fieldLink RX3 105 "LeeVanes$Town" "setting" "I", Cond.methodLink RX3 50 yX3_isUpTo, Cond.static yX3_isUpTo, Cond.initialized RX3, Cond.code yX3_isUpTo cX3_isUpTo 2 (some .boolean), Cond.methodLink RX3 149 yJ7_fill_53178, Cond.static yJ7_fill_53178, Cond.initialized RJ7, Cond.code yJ7_fill_53178 cJ7_fill_53178 4 none, Cond.methodLink RX3 83 yX3_read, Cond.static yX3_read, Cond.code yX3_read cX3_read 2 (some .int), Cond.methodLink RX3 155 yX3_write, Cond.static yX3_write, Cond.code yX3_write cX3_write 3 none, Cond.methodLink RX3 146 yX2_yearAfter, Cond.instanceMethod yX2_yearAfter, Cond.selects RX2 yX2_yearAfter yX2_yearAfter, Cond.initialized RX2, Cond.code yX2_yearAfter cX2_yearAfter 4 (some .int), Cond.fieldLink RX2 53 "LeeVanes$Town" "works" "I"]
def wsX3_round_r2 : List Cond := [Cond.methodLink RX2 123 yX2_castVotes, Cond.instanceMethod yX2_castVotes, Cond.selects RX2 yX2_castVotes yX2_castVotes, Cond.code yX2_castVotes cX2_castVotes 4 none, Cond.fieldLink RX2 56 "LeeVanes$Town" "wards" "I", Cond.fieldLink RX2 36 "LeeVanes$Town" "votes" "[I", Cond.methodLink RX2 120 yX2_voteBy, Cond.instanceMethod yX2_voteBy, Cond.selects RX2 yX2_voteBy yX2_voteBy, Cond.code yX2_voteBy cX2_voteBy 8 (some .int), Cond.constant RX2 84 (1000000), Cond.methodLink RX2 116 yX2_turned, Cond.instanceMethod yX2_turned, Cond.selects RX2 yX2_turned yX2_turned, Cond.code yX2_turned cX2_turned 5 (some .int), Cond.methodLink RX2 113 yX2_mindedBy, Cond.instanceMethod yX2_mindedBy, Cond.selects RX2 yX2_mindedBy yX2_mindedBy, Cond.code yX2_mindedBy cX2_mindedBy 3 (some .int), Cond.fieldLink RX2 18 "LeeVanes$Town" "wardCells" "[I", Cond.methodLink RX2 107 yX2_factorOf, Cond.instanceMethod yX2_factorOf, Cond.selects RX2 yX2_factorOf yX2_factorOf, Cond.code yX2_factorOf cX2_factorOf 3 (some .int)]
def wsX3_round_r3 : List Cond := [Cond.fieldLink RX2 15 "LeeVanes$Town" "noses" "[I", Cond.fieldLink RX2 9 "LeeVanes$Town" "kinds" "[I", Cond.methodLink RX2 110 yX2_smellBy, Cond.instanceMethod yX2_smellBy, Cond.selects RX2 yX2_smellBy yX2_smellBy, Cond.code yX2_smellBy cX2_smellBy 7 (some .int), Cond.fieldLink RX2 24 "LeeVanes$Town" "strengths" "[I", Cond.fieldLink RX2 33 "LeeVanes$Town" "distances" "[I", Cond.methodLink RX2 98 Lib.Math.max.name, Cond.static Lib.Math.max.name, Cond.initialized "java/lang/Math", Cond.code Lib.Math.max.name Lib.Math.max.code 2 (some .int), Cond.fieldLink RX2 59 "LeeVanes$Town" "lawNow" "I", Cond.methodLink RX2 103 Lib.Math.abs.name, Cond.static Lib.Math.abs.name, Cond.code Lib.Math.abs.name Lib.Math.abs.code 1 (some .int), Cond.methodLink RX2 95 yX2_vaneIn, Cond.instanceMethod yX2_vaneIn, Cond.selects RX2 yX2_vaneIn yX2_vaneIn, Cond.code yX2_vaneIn cX2_vaneIn 3 (some .int), Cond.methodLink RX2 80 yX2_wayIndex, Cond.static yX2_wayIndex, Cond.code yX2_wayIndex cX2_wayIndex 2 (some .int), Cond.methodLink RX2 126 yX2_winner]
def wsX3_round_r4 : List Cond := [Cond.instanceMethod yX2_winner, Cond.selects RX2 yX2_winner yX2_winner, Cond.code yX2_winner cX2_winner 9 (some .int)]
def wsX3_round : List Cond := .code yX3_round cX3_round 5 (some .int) :: ((wsX3_round_r1 ++ (wsX3_round_r2 ++ (wsX3_round_r3 ++ wsX3_round_r4))) ++ wsX30 ++ wsX20)
def wsX3_vaneOrNone : List Cond := .code yX3_vaneOrNone cX3_vaneOrNone 3 (some .int) :: ([.fieldLink RX3 31 "LeeVanes" "present" "LLeeVanes$Town;", .methodLink RX3 96 yX2_hasWork, .instanceMethod yX2_hasWork, .selects RX2 yX2_hasWork yX2_hasWork, .initialized RX2, .code yX2_hasWork cX2_hasWork 2 (some .boolean), .fieldLink RX2 53 "LeeVanes$Town" "works" "I", .methodLink RX3 108 yX2_vaneIn, .instanceMethod yX2_vaneIn, .selects RX2 yX2_vaneIn yX2_vaneIn, .code yX2_vaneIn cX2_vaneIn 3 (some .int)] ++ wsX30 ++ wsX20)
def wsX3_leastBy_r1 : List Cond := [Cond.fieldLink RX3 31 "LeeVanes" "present" "LLeeVanes$Town;", Cond.fieldLink RX3 112 "LeeVanes$Town" "stands" "Z", Cond.methodLink RX3 226 yX2_leastSetting, Cond.instanceMethod yX2_leastSetting, Cond.selects RX2 yX2_leastSetting yX2_leastSetting, Cond.initialized RX2, Cond.code yX2_leastSetting cX2_leastSetting 6 (some .int), Cond.constant RX2 84 (1000000), Cond.methodLink RX2 134 yX2_settingsInAll, Cond.instanceMethod yX2_settingsInAll, Cond.selects RX2 yX2_settingsInAll yX2_settingsInAll, Cond.code yX2_settingsInAll cX2_settingsInAll 1 (some .int), Cond.fieldLink RX2 53 "LeeVanes$Town" "works" "I", Cond.methodLink RX2 138 yX2_mostMindedBy, Cond.instanceMethod yX2_mostMindedBy, Cond.selects RX2 yX2_mostMindedBy yX2_mostMindedBy, Cond.code yX2_mostMindedBy cX2_mostMindedBy 4 (some .int), Cond.fieldLink RX2 56 "LeeVanes$Town" "wards" "I", Cond.methodLink RX2 98 Lib.Math.max.name, Cond.static Lib.Math.max.name, Cond.initialized "java/lang/Math", Cond.code Lib.Math.max.name Lib.Math.max.code 2 (some .int), Cond.methodLink RX2 113 yX2_mindedBy, Cond.instanceMethod yX2_mindedBy]
def wsX3_leastBy_r2 : List Cond := [Cond.selects RX2 yX2_mindedBy yX2_mindedBy, Cond.code yX2_mindedBy cX2_mindedBy 3 (some .int), Cond.fieldLink RX2 18 "LeeVanes$Town" "wardCells" "[I", Cond.methodLink RX2 107 yX2_factorOf, Cond.instanceMethod yX2_factorOf, Cond.selects RX2 yX2_factorOf yX2_factorOf, Cond.code yX2_factorOf cX2_factorOf 3 (some .int), Cond.fieldLink RX2 15 "LeeVanes$Town" "noses" "[I", Cond.fieldLink RX2 9 "LeeVanes$Town" "kinds" "[I", Cond.static yX3_read, Cond.initialized RX3, Cond.code yX3_read cX3_read 2 (some .int), Cond.methodLink RX2 110 yX2_smellBy, Cond.instanceMethod yX2_smellBy, Cond.selects RX2 yX2_smellBy yX2_smellBy, Cond.code yX2_smellBy cX2_smellBy 7 (some .int), Cond.fieldLink RX2 24 "LeeVanes$Town" "strengths" "[I", Cond.fieldLink RX2 33 "LeeVanes$Town" "distances" "[I", Cond.fieldLink RX2 59 "LeeVanes$Town" "lawNow" "I", Cond.methodLink RX2 103 Lib.Math.abs.name, Cond.static Lib.Math.abs.name, Cond.code Lib.Math.abs.name Lib.Math.abs.code 1 (some .int), Cond.methodLink RX2 95 yX2_vaneIn, Cond.instanceMethod yX2_vaneIn]
def wsX3_leastBy_r3 : List Cond := [Cond.selects RX2 yX2_vaneIn yX2_vaneIn, Cond.code yX2_vaneIn cX2_vaneIn 3 (some .int), Cond.methodLink RX2 80 yX2_wayIndex, Cond.static yX2_wayIndex, Cond.code yX2_wayIndex cX2_wayIndex 2 (some .int), Cond.methodLink RX2 141 yX2_burdenBy, Cond.instanceMethod yX2_burdenBy, Cond.selects RX2 yX2_burdenBy yX2_burdenBy, Cond.code yX2_burdenBy cX2_burdenBy 4 (some .int), Cond.methodLink RX3 230 yX2_mostMindedBy, Cond.methodLink RX3 131 yX2_burdenBy, Cond.methodLink RX3 182 yX3_vaneOrNone, Cond.instanceMethod yX3_vaneOrNone, Cond.selects RX3 yX3_vaneOrNone yX3_vaneOrNone, Cond.code yX3_vaneOrNone cX3_vaneOrNone 3 (some .int), Cond.methodLink RX3 96 yX2_hasWork, Cond.instanceMethod yX2_hasWork, Cond.selects RX2 yX2_hasWork yX2_hasWork, Cond.code yX2_hasWork cX2_hasWork 2 (some .boolean), Cond.methodLink RX3 108 yX2_vaneIn]
def wsX3_leastBy : List Cond := .code yX3_leastBy cX3_leastBy 4 (some .int) :: ((wsX3_leastBy_r1 ++ (wsX3_leastBy_r2 ++ wsX3_leastBy_r3)) ++ wsX30 ++ wsX20)
def wsX3_best_r1 : List Cond := [Cond.methodLink RX3 159 yX3_leastBy, Cond.instanceMethod yX3_leastBy, Cond.selects RX3 yX3_leastBy yX3_leastBy, Cond.initialized RX3, Cond.code yX3_leastBy cX3_leastBy 4 (some .int), Cond.fieldLink RX3 31 "LeeVanes" "present" "LLeeVanes$Town;", Cond.fieldLink RX3 112 "LeeVanes$Town" "stands" "Z", Cond.methodLink RX3 226 yX2_leastSetting, Cond.instanceMethod yX2_leastSetting, Cond.selects RX2 yX2_leastSetting yX2_leastSetting, Cond.initialized RX2, Cond.code yX2_leastSetting cX2_leastSetting 6 (some .int), Cond.constant RX2 84 (1000000), Cond.methodLink RX2 134 yX2_settingsInAll, Cond.instanceMethod yX2_settingsInAll, Cond.selects RX2 yX2_settingsInAll yX2_settingsInAll, Cond.code yX2_settingsInAll cX2_settingsInAll 1 (some .int), Cond.fieldLink RX2 53 "LeeVanes$Town" "works" "I", Cond.methodLink RX2 138 yX2_mostMindedBy, Cond.instanceMethod yX2_mostMindedBy, Cond.selects RX2 yX2_mostMindedBy yX2_mostMindedBy, Cond.code yX2_mostMindedBy cX2_mostMindedBy 4 (some .int), Cond.fieldLink RX2 56 "LeeVanes$Town" "wards" "I", Cond.methodLink RX2 98 Lib.Math.max.name]
def wsX3_best_r2 : List Cond := [Cond.static Lib.Math.max.name, Cond.initialized "java/lang/Math", Cond.code Lib.Math.max.name Lib.Math.max.code 2 (some .int), Cond.methodLink RX2 113 yX2_mindedBy, Cond.instanceMethod yX2_mindedBy, Cond.selects RX2 yX2_mindedBy yX2_mindedBy, Cond.code yX2_mindedBy cX2_mindedBy 3 (some .int), Cond.fieldLink RX2 18 "LeeVanes$Town" "wardCells" "[I", Cond.methodLink RX2 107 yX2_factorOf, Cond.instanceMethod yX2_factorOf, Cond.selects RX2 yX2_factorOf yX2_factorOf, Cond.code yX2_factorOf cX2_factorOf 3 (some .int), Cond.fieldLink RX2 15 "LeeVanes$Town" "noses" "[I", Cond.fieldLink RX2 9 "LeeVanes$Town" "kinds" "[I", Cond.static yX3_read, Cond.code yX3_read cX3_read 2 (some .int), Cond.methodLink RX2 110 yX2_smellBy, Cond.instanceMethod yX2_smellBy, Cond.selects RX2 yX2_smellBy yX2_smellBy, Cond.code yX2_smellBy cX2_smellBy 7 (some .int), Cond.fieldLink RX2 24 "LeeVanes$Town" "strengths" "[I", Cond.fieldLink RX2 33 "LeeVanes$Town" "distances" "[I", Cond.fieldLink RX2 59 "LeeVanes$Town" "lawNow" "I", Cond.methodLink RX2 103 Lib.Math.abs.name]
def wsX3_best_r3 : List Cond := [Cond.static Lib.Math.abs.name, Cond.code Lib.Math.abs.name Lib.Math.abs.code 1 (some .int), Cond.methodLink RX2 95 yX2_vaneIn, Cond.instanceMethod yX2_vaneIn, Cond.selects RX2 yX2_vaneIn yX2_vaneIn, Cond.code yX2_vaneIn cX2_vaneIn 3 (some .int), Cond.methodLink RX2 80 yX2_wayIndex, Cond.static yX2_wayIndex, Cond.code yX2_wayIndex cX2_wayIndex 2 (some .int), Cond.methodLink RX2 141 yX2_burdenBy, Cond.instanceMethod yX2_burdenBy, Cond.selects RX2 yX2_burdenBy yX2_burdenBy, Cond.code yX2_burdenBy cX2_burdenBy 4 (some .int), Cond.methodLink RX3 230 yX2_mostMindedBy, Cond.methodLink RX3 131 yX2_burdenBy, Cond.methodLink RX3 182 yX3_vaneOrNone, Cond.instanceMethod yX3_vaneOrNone, Cond.selects RX3 yX3_vaneOrNone yX3_vaneOrNone, Cond.code yX3_vaneOrNone cX3_vaneOrNone 3 (some .int), Cond.methodLink RX3 96 yX2_hasWork, Cond.instanceMethod yX2_hasWork, Cond.selects RX2 yX2_hasWork yX2_hasWork, Cond.code yX2_hasWork cX2_hasWork 2 (some .boolean), Cond.methodLink RX3 108 yX2_vaneIn]
def wsX3_best : List Cond := .code yX3_best cX3_best 2 (some .int) :: ((wsX3_best_r1 ++ (wsX3_best_r2 ++ wsX3_best_r3)) ++ wsX30 ++ wsX20)
def wsX3_calm_r1 : List Cond := [Cond.methodLink RX3 159 yX3_leastBy, Cond.instanceMethod yX3_leastBy, Cond.selects RX3 yX3_leastBy yX3_leastBy, Cond.initialized RX3, Cond.code yX3_leastBy cX3_leastBy 4 (some .int), Cond.fieldLink RX3 31 "LeeVanes" "present" "LLeeVanes$Town;", Cond.fieldLink RX3 112 "LeeVanes$Town" "stands" "Z", Cond.methodLink RX3 226 yX2_leastSetting, Cond.instanceMethod yX2_leastSetting, Cond.selects RX2 yX2_leastSetting yX2_leastSetting, Cond.initialized RX2, Cond.code yX2_leastSetting cX2_leastSetting 6 (some .int), Cond.constant RX2 84 (1000000), Cond.methodLink RX2 134 yX2_settingsInAll, Cond.instanceMethod yX2_settingsInAll, Cond.selects RX2 yX2_settingsInAll yX2_settingsInAll, Cond.code yX2_settingsInAll cX2_settingsInAll 1 (some .int), Cond.fieldLink RX2 53 "LeeVanes$Town" "works" "I", Cond.methodLink RX2 138 yX2_mostMindedBy, Cond.instanceMethod yX2_mostMindedBy, Cond.selects RX2 yX2_mostMindedBy yX2_mostMindedBy, Cond.code yX2_mostMindedBy cX2_mostMindedBy 4 (some .int), Cond.fieldLink RX2 56 "LeeVanes$Town" "wards" "I", Cond.methodLink RX2 98 Lib.Math.max.name]
def wsX3_calm_r2 : List Cond := [Cond.static Lib.Math.max.name, Cond.initialized "java/lang/Math", Cond.code Lib.Math.max.name Lib.Math.max.code 2 (some .int), Cond.methodLink RX2 113 yX2_mindedBy, Cond.instanceMethod yX2_mindedBy, Cond.selects RX2 yX2_mindedBy yX2_mindedBy, Cond.code yX2_mindedBy cX2_mindedBy 3 (some .int), Cond.fieldLink RX2 18 "LeeVanes$Town" "wardCells" "[I", Cond.methodLink RX2 107 yX2_factorOf, Cond.instanceMethod yX2_factorOf, Cond.selects RX2 yX2_factorOf yX2_factorOf, Cond.code yX2_factorOf cX2_factorOf 3 (some .int), Cond.fieldLink RX2 15 "LeeVanes$Town" "noses" "[I", Cond.fieldLink RX2 9 "LeeVanes$Town" "kinds" "[I", Cond.static yX3_read, Cond.code yX3_read cX3_read 2 (some .int), Cond.methodLink RX2 110 yX2_smellBy, Cond.instanceMethod yX2_smellBy, Cond.selects RX2 yX2_smellBy yX2_smellBy, Cond.code yX2_smellBy cX2_smellBy 7 (some .int), Cond.fieldLink RX2 24 "LeeVanes$Town" "strengths" "[I", Cond.fieldLink RX2 33 "LeeVanes$Town" "distances" "[I", Cond.fieldLink RX2 59 "LeeVanes$Town" "lawNow" "I", Cond.methodLink RX2 103 Lib.Math.abs.name]
def wsX3_calm_r3 : List Cond := [Cond.static Lib.Math.abs.name, Cond.code Lib.Math.abs.name Lib.Math.abs.code 1 (some .int), Cond.methodLink RX2 95 yX2_vaneIn, Cond.instanceMethod yX2_vaneIn, Cond.selects RX2 yX2_vaneIn yX2_vaneIn, Cond.code yX2_vaneIn cX2_vaneIn 3 (some .int), Cond.methodLink RX2 80 yX2_wayIndex, Cond.static yX2_wayIndex, Cond.code yX2_wayIndex cX2_wayIndex 2 (some .int), Cond.methodLink RX2 141 yX2_burdenBy, Cond.instanceMethod yX2_burdenBy, Cond.selects RX2 yX2_burdenBy yX2_burdenBy, Cond.code yX2_burdenBy cX2_burdenBy 4 (some .int), Cond.methodLink RX3 230 yX2_mostMindedBy, Cond.methodLink RX3 131 yX2_burdenBy, Cond.methodLink RX3 182 yX3_vaneOrNone, Cond.instanceMethod yX3_vaneOrNone, Cond.selects RX3 yX3_vaneOrNone yX3_vaneOrNone, Cond.code yX3_vaneOrNone cX3_vaneOrNone 3 (some .int), Cond.methodLink RX3 96 yX2_hasWork, Cond.instanceMethod yX2_hasWork, Cond.selects RX2 yX2_hasWork yX2_hasWork, Cond.code yX2_hasWork cX2_hasWork 2 (some .boolean), Cond.methodLink RX3 108 yX2_vaneIn]
def wsX3_calm : List Cond := .code yX3_calm cX3_calm 2 (some .int) :: ((wsX3_calm_r1 ++ (wsX3_calm_r2 ++ wsX3_calm_r3)) ++ wsX30 ++ wsX20)
def wsX3_bribe_r1 : List Cond := [Cond.fieldLink RX3 31 "LeeVanes" "present" "LLeeVanes$Town;", Cond.methodLink RX3 96 yX2_hasWork, Cond.instanceMethod yX2_hasWork, Cond.selects RX2 yX2_hasWork yX2_hasWork, Cond.initialized RX2, Cond.code yX2_hasWork cX2_hasWork 2 (some .boolean), Cond.fieldLink RX2 53 "LeeVanes$Town" "works" "I", Cond.methodLink RX3 50 yX3_isUpTo, Cond.static yX3_isUpTo, Cond.initialized RX3, Cond.code yX3_isUpTo cX3_isUpTo 2 (some .boolean), Cond.methodLink RX3 163 yX2_fewestBribed, Cond.instanceMethod yX2_fewestBribed, Cond.selects RX2 yX2_fewestBribed yX2_fewestBribed, Cond.code yX2_fewestBribed cX2_fewestBribed 7 (some .int), Cond.fieldLink RX2 62 "LeeVanes$Town" "setting" "I", Cond.fieldLink RX2 56 "LeeVanes$Town" "wards" "I", Cond.methodLink RX2 123 yX2_castVotes, Cond.instanceMethod yX2_castVotes, Cond.selects RX2 yX2_castVotes yX2_castVotes, Cond.code yX2_castVotes cX2_castVotes 4 none, Cond.fieldLink RX2 36 "LeeVanes$Town" "votes" "[I", Cond.methodLink RX2 120 yX2_voteBy, Cond.instanceMethod yX2_voteBy]
def wsX3_bribe_r2 : List Cond := [Cond.selects RX2 yX2_voteBy yX2_voteBy, Cond.code yX2_voteBy cX2_voteBy 8 (some .int), Cond.constant RX2 84 (1000000), Cond.methodLink RX2 116 yX2_turned, Cond.instanceMethod yX2_turned, Cond.selects RX2 yX2_turned yX2_turned, Cond.code yX2_turned cX2_turned 5 (some .int), Cond.methodLink RX2 113 yX2_mindedBy, Cond.instanceMethod yX2_mindedBy, Cond.selects RX2 yX2_mindedBy yX2_mindedBy, Cond.code yX2_mindedBy cX2_mindedBy 3 (some .int), Cond.fieldLink RX2 18 "LeeVanes$Town" "wardCells" "[I", Cond.methodLink RX2 107 yX2_factorOf, Cond.instanceMethod yX2_factorOf, Cond.selects RX2 yX2_factorOf yX2_factorOf, Cond.code yX2_factorOf cX2_factorOf 3 (some .int), Cond.fieldLink RX2 15 "LeeVanes$Town" "noses" "[I", Cond.fieldLink RX2 9 "LeeVanes$Town" "kinds" "[I", Cond.static yX3_read, Cond.code yX3_read cX3_read 2 (some .int), Cond.methodLink RX2 110 yX2_smellBy, Cond.instanceMethod yX2_smellBy, Cond.selects RX2 yX2_smellBy yX2_smellBy, Cond.code yX2_smellBy cX2_smellBy 7 (some .int)]
def wsX3_bribe_r3 : List Cond := [Cond.fieldLink RX2 24 "LeeVanes$Town" "strengths" "[I", Cond.fieldLink RX2 33 "LeeVanes$Town" "distances" "[I", Cond.methodLink RX2 98 Lib.Math.max.name, Cond.static Lib.Math.max.name, Cond.initialized "java/lang/Math", Cond.code Lib.Math.max.name Lib.Math.max.code 2 (some .int), Cond.fieldLink RX2 59 "LeeVanes$Town" "lawNow" "I", Cond.methodLink RX2 103 Lib.Math.abs.name, Cond.static Lib.Math.abs.name, Cond.code Lib.Math.abs.name Lib.Math.abs.code 1 (some .int), Cond.methodLink RX2 95 yX2_vaneIn, Cond.instanceMethod yX2_vaneIn, Cond.selects RX2 yX2_vaneIn yX2_vaneIn, Cond.code yX2_vaneIn cX2_vaneIn 3 (some .int), Cond.methodLink RX2 80 yX2_wayIndex, Cond.static yX2_wayIndex, Cond.code yX2_wayIndex cX2_wayIndex 2 (some .int), Cond.static yX3_write, Cond.code yX3_write cX3_write 3 none, Cond.methodLink RX2 129 yJ6_bitCount_0f7a4, Cond.static yJ6_bitCount_0f7a4, Cond.initialized RJ6, Cond.code yJ6_bitCount_0f7a4 cJ6_bitCount_0f7a4 1 (some .int), Cond.constant RJ6 265 (1431655765)]
def wsX3_bribe_r4 : List Cond := [Cond.constant RJ6 266 (858993459), Cond.constant RJ6 267 (252645135), Cond.methodLink RX2 126 yX2_winner, Cond.instanceMethod yX2_winner, Cond.selects RX2 yX2_winner yX2_winner, Cond.code yX2_winner cX2_winner 9 (some .int)]
def wsX3_bribe : List Cond := .code yX3_bribe cX3_bribe 3 (some .int) :: ((wsX3_bribe_r1 ++ (wsX3_bribe_r2 ++ (wsX3_bribe_r3 ++ wsX3_bribe_r4))) ++ wsX30 ++ wsX20)
def wsX3_reading : List Cond := .code yX3_reading cX3_reading 4 (some .int) :: ([.fieldLink RX3 31 "LeeVanes" "present" "LLeeVanes$Town;", .fieldLink RX3 166 "LeeVanes$Town" "readings" "I", .fieldLink RX3 169 "LeeVanes$Town" "readingCells" "[I", .fieldLink RX3 172 "LeeVanes$Town" "readingSmells" "[I", .methodLink RX3 122 yX2_hasCell, .instanceMethod yX2_hasCell, .selects RX2 yX2_hasCell yX2_hasCell, .initialized RX2, .code yX2_hasCell cX2_hasCell 2 (some .boolean), .fieldLink RX2 50 "LeeVanes$Town" "cells" "I", .methodLink RX3 50 yX3_isUpTo, .static yX3_isUpTo, .initialized RX3, .code yX3_isUpTo cX3_isUpTo 2 (some .boolean), .methodLink RX3 155 yX3_write, .static yX3_write, .code yX3_write cX3_write 3 none] ++ wsX30 ++ wsX20)
def wsX3_back : List Cond := .code yX3_back cX3_back 2 (some .int) :: ([.fieldLink RX3 31 "LeeVanes" "present" "LLeeVanes$Town;", .fieldLink RX3 166 "LeeVanes$Town" "readings" "I", .methodLink RX3 50 yX3_isUpTo, .static yX3_isUpTo, .initialized RX3, .code yX3_isUpTo cX3_isUpTo 2 (some .boolean)] ++ wsX30 ++ wsX20)
def wsX3_settings_r1 : List Cond := [Cond.fieldLink RX3 31 "LeeVanes" "present" "LLeeVanes$Town;", Cond.fieldLink RX3 112 "LeeVanes$Town" "stands" "Z", Cond.methodLink RX3 175 yX2_settingsInAll, Cond.instanceMethod yX2_settingsInAll, Cond.selects RX2 yX2_settingsInAll yX2_settingsInAll, Cond.initialized RX2, Cond.code yX2_settingsInAll cX2_settingsInAll 1 (some .int), Cond.fieldLink RX2 53 "LeeVanes$Town" "works" "I", Cond.methodLink RX3 179 yX2_agreesBy, Cond.instanceMethod yX2_agreesBy, Cond.selects RX2 yX2_agreesBy yX2_agreesBy, Cond.code yX2_agreesBy cX2_agreesBy 3 (some .boolean), Cond.fieldLink RX2 65 "LeeVanes$Town" "readings" "I", Cond.fieldLink RX2 27 "LeeVanes$Town" "readingCells" "[I", Cond.fieldLink RX2 30 "LeeVanes$Town" "readingSmells" "[I", Cond.static yX3_read, Cond.initialized RX3, Cond.code yX3_read cX3_read 2 (some .int), Cond.methodLink RX2 110 yX2_smellBy, Cond.instanceMethod yX2_smellBy, Cond.selects RX2 yX2_smellBy yX2_smellBy, Cond.code yX2_smellBy cX2_smellBy 7 (some .int), Cond.fieldLink RX2 24 "LeeVanes$Town" "strengths" "[I", Cond.fieldLink RX2 33 "LeeVanes$Town" "distances" "[I"]
def wsX3_settings_r2 : List Cond := [Cond.methodLink RX2 98 Lib.Math.max.name, Cond.static Lib.Math.max.name, Cond.initialized "java/lang/Math", Cond.code Lib.Math.max.name Lib.Math.max.code 2 (some .int), Cond.fieldLink RX2 59 "LeeVanes$Town" "lawNow" "I", Cond.methodLink RX2 103 Lib.Math.abs.name, Cond.static Lib.Math.abs.name, Cond.code Lib.Math.abs.name Lib.Math.abs.code 1 (some .int), Cond.methodLink RX2 95 yX2_vaneIn, Cond.instanceMethod yX2_vaneIn, Cond.selects RX2 yX2_vaneIn yX2_vaneIn, Cond.code yX2_vaneIn cX2_vaneIn 3 (some .int), Cond.methodLink RX2 80 yX2_wayIndex, Cond.static yX2_wayIndex, Cond.code yX2_wayIndex cX2_wayIndex 2 (some .int), Cond.methodLink RX3 182 yX3_vaneOrNone, Cond.instanceMethod yX3_vaneOrNone, Cond.selects RX3 yX3_vaneOrNone yX3_vaneOrNone, Cond.code yX3_vaneOrNone cX3_vaneOrNone 3 (some .int), Cond.methodLink RX3 96 yX2_hasWork, Cond.instanceMethod yX2_hasWork, Cond.selects RX2 yX2_hasWork yX2_hasWork, Cond.code yX2_hasWork cX2_hasWork 2 (some .boolean), Cond.methodLink RX3 108 yX2_vaneIn]
def wsX3_settings : List Cond := .code yX3_settings cX3_settings 5 (some .int) :: ((wsX3_settings_r1 ++ wsX3_settings_r2) ++ wsX30 ++ wsX20)
def wsX3_laws_r1 : List Cond := [Cond.fieldLink RX3 31 "LeeVanes" "present" "LLeeVanes$Town;", Cond.fieldLink RX3 112 "LeeVanes$Town" "stands" "Z", Cond.fieldLink RX3 116 "LeeVanes$Town" "lawNow" "I", Cond.fieldLink RX3 105 "LeeVanes$Town" "setting" "I", Cond.methodLink RX3 179 yX2_agreesBy, Cond.instanceMethod yX2_agreesBy, Cond.selects RX2 yX2_agreesBy yX2_agreesBy, Cond.initialized RX2, Cond.code yX2_agreesBy cX2_agreesBy 3 (some .boolean), Cond.fieldLink RX2 65 "LeeVanes$Town" "readings" "I", Cond.fieldLink RX2 27 "LeeVanes$Town" "readingCells" "[I", Cond.fieldLink RX2 30 "LeeVanes$Town" "readingSmells" "[I", Cond.static yX3_read, Cond.initialized RX3, Cond.code yX3_read cX3_read 2 (some .int), Cond.methodLink RX2 110 yX2_smellBy, Cond.instanceMethod yX2_smellBy, Cond.selects RX2 yX2_smellBy yX2_smellBy, Cond.code yX2_smellBy cX2_smellBy 7 (some .int), Cond.fieldLink RX2 53 "LeeVanes$Town" "works" "I", Cond.fieldLink RX2 24 "LeeVanes$Town" "strengths" "[I", Cond.fieldLink RX2 33 "LeeVanes$Town" "distances" "[I", Cond.methodLink RX2 98 Lib.Math.max.name, Cond.static Lib.Math.max.name]
def wsX3_laws_r2 : List Cond := [Cond.initialized "java/lang/Math", Cond.code Lib.Math.max.name Lib.Math.max.code 2 (some .int), Cond.fieldLink RX2 59 "LeeVanes$Town" "lawNow" "I", Cond.methodLink RX2 103 Lib.Math.abs.name, Cond.static Lib.Math.abs.name, Cond.code Lib.Math.abs.name Lib.Math.abs.code 1 (some .int), Cond.methodLink RX2 95 yX2_vaneIn, Cond.instanceMethod yX2_vaneIn, Cond.selects RX2 yX2_vaneIn yX2_vaneIn, Cond.code yX2_vaneIn cX2_vaneIn 3 (some .int), Cond.methodLink RX2 80 yX2_wayIndex, Cond.static yX2_wayIndex, Cond.code yX2_wayIndex cX2_wayIndex 2 (some .int)]
def wsX3_laws : List Cond := .code yX3_laws cX3_laws 4 (some .int) :: ((wsX3_laws_r1 ++ wsX3_laws_r2) ++ wsX30 ++ wsX20)
def wsX3_powers_r1 : List Cond := [Cond.fieldLink RX3 31 "LeeVanes" "present" "LLeeVanes$Town;", Cond.fieldLink RX3 102 "LeeVanes$Town" "strengths" "[I", Cond.fieldLink RX3 105 "LeeVanes$Town" "setting" "I", Cond.methodLink RX3 96 yX2_hasWork, Cond.instanceMethod yX2_hasWork, Cond.selects RX2 yX2_hasWork yX2_hasWork, Cond.initialized RX2, Cond.code yX2_hasWork cX2_hasWork 2 (some .boolean), Cond.fieldLink RX2 53 "LeeVanes$Town" "works" "I", Cond.methodLink RX3 83 yX3_read, Cond.static yX3_read, Cond.initialized RX3, Cond.code yX3_read cX3_read 2 (some .int), Cond.methodLink RX3 155 yX3_write, Cond.static yX3_write, Cond.code yX3_write cX3_write 3 none, Cond.methodLink RX3 179 yX2_agreesBy, Cond.instanceMethod yX2_agreesBy, Cond.selects RX2 yX2_agreesBy yX2_agreesBy, Cond.code yX2_agreesBy cX2_agreesBy 3 (some .boolean), Cond.fieldLink RX2 65 "LeeVanes$Town" "readings" "I", Cond.fieldLink RX2 27 "LeeVanes$Town" "readingCells" "[I", Cond.fieldLink RX2 30 "LeeVanes$Town" "readingSmells" "[I", Cond.methodLink RX2 110 yX2_smellBy]
def wsX3_powers_r2 : List Cond := [Cond.instanceMethod yX2_smellBy, Cond.selects RX2 yX2_smellBy yX2_smellBy, Cond.code yX2_smellBy cX2_smellBy 7 (some .int), Cond.fieldLink RX2 24 "LeeVanes$Town" "strengths" "[I", Cond.fieldLink RX2 33 "LeeVanes$Town" "distances" "[I", Cond.methodLink RX2 98 Lib.Math.max.name, Cond.static Lib.Math.max.name, Cond.initialized "java/lang/Math", Cond.code Lib.Math.max.name Lib.Math.max.code 2 (some .int), Cond.fieldLink RX2 59 "LeeVanes$Town" "lawNow" "I", Cond.methodLink RX2 103 Lib.Math.abs.name, Cond.static Lib.Math.abs.name, Cond.code Lib.Math.abs.name Lib.Math.abs.code 1 (some .int), Cond.methodLink RX2 95 yX2_vaneIn, Cond.instanceMethod yX2_vaneIn, Cond.selects RX2 yX2_vaneIn yX2_vaneIn, Cond.code yX2_vaneIn cX2_vaneIn 3 (some .int), Cond.methodLink RX2 80 yX2_wayIndex, Cond.static yX2_wayIndex, Cond.code yX2_wayIndex cX2_wayIndex 2 (some .int)]
def wsX3_powers : List Cond := .code yX3_powers cX3_powers 5 (some .int) :: ((wsX3_powers_r1 ++ wsX3_powers_r2) ++ wsX30 ++ wsX20)
def wsX3_odds_r1 : List Cond := [Cond.fieldLink RX3 31 "LeeVanes" "present" "LLeeVanes$Town;", Cond.constantLong RX3 185 (-9223372036854775808), Cond.methodLink RX3 122 yX2_hasCell, Cond.instanceMethod yX2_hasCell, Cond.selects RX2 yX2_hasCell yX2_hasCell, Cond.initialized RX2, Cond.code yX2_hasCell cX2_hasCell 2 (some .boolean), Cond.fieldLink RX2 50 "LeeVanes$Town" "cells" "I", Cond.methodLink RX3 50 yX3_isUpTo, Cond.static yX3_isUpTo, Cond.initialized RX3, Cond.code yX3_isUpTo cX3_isUpTo 2 (some .boolean), Cond.methodLink RX3 175 yX2_settingsInAll, Cond.instanceMethod yX2_settingsInAll, Cond.selects RX2 yX2_settingsInAll yX2_settingsInAll, Cond.code yX2_settingsInAll cX2_settingsInAll 1 (some .int), Cond.fieldLink RX2 53 "LeeVanes$Town" "works" "I", Cond.methodLink RX3 125 yX2_smellBy, Cond.instanceMethod yX2_smellBy, Cond.selects RX2 yX2_smellBy yX2_smellBy, Cond.code yX2_smellBy cX2_smellBy 7 (some .int), Cond.fieldLink RX2 24 "LeeVanes$Town" "strengths" "[I", Cond.fieldLink RX2 33 "LeeVanes$Town" "distances" "[I", Cond.methodLink RX2 98 Lib.Math.max.name]
def wsX3_odds_r2 : List Cond := [Cond.static Lib.Math.max.name, Cond.initialized "java/lang/Math", Cond.code Lib.Math.max.name Lib.Math.max.code 2 (some .int), Cond.fieldLink RX2 59 "LeeVanes$Town" "lawNow" "I", Cond.methodLink RX2 103 Lib.Math.abs.name, Cond.static Lib.Math.abs.name, Cond.code Lib.Math.abs.name Lib.Math.abs.code 1 (some .int), Cond.methodLink RX2 95 yX2_vaneIn, Cond.instanceMethod yX2_vaneIn, Cond.selects RX2 yX2_vaneIn yX2_vaneIn, Cond.code yX2_vaneIn cX2_vaneIn 3 (some .int), Cond.methodLink RX2 80 yX2_wayIndex, Cond.static yX2_wayIndex, Cond.code yX2_wayIndex cX2_wayIndex 2 (some .int), Cond.static yX3_read, Cond.code yX3_read cX3_read 2 (some .int)]
def wsX3_odds : List Cond := .code yX3_odds cX3_odds 7 (some .long) :: ((wsX3_odds_r1 ++ wsX3_odds_r2) ++ wsX30 ++ wsX20)
def wsX3_sheet_r1 : List Cond := [Cond.fieldLink RX3 42 "LeeVanes" "lastFault" "I", Cond.methodLink RX3 46 yX3_sheetAt, Cond.instanceMethod yX3_sheetAt, Cond.selects RX3 yX3_sheetAt yX3_sheetAt, Cond.initialized RX3, Cond.code yX3_sheetAt cX3_sheetAt 2 (some (.object "LeeVanes$Sheet")), Cond.fieldLink RX3 13 "LeeVanes" "sheets" "[LLeeVanes$Sheet;", Cond.methodLink RX3 50 yX3_isUpTo, Cond.static yX3_isUpTo, Cond.code yX3_isUpTo cX3_isUpTo 2 (some .boolean), Cond.methodLink RX3 58 yX3_fail, Cond.instanceMethod yX3_fail, Cond.selects RX3 yX3_fail yX3_fail, Cond.code yX3_fail cX3_fail 2 (some .int), Cond.methodLink RX3 187 yX0_renew, Cond.instanceMethod yX0_renew, Cond.selects RX0 yX0_renew yX0_renew, Cond.initialized RX0, Cond.code yX0_renew cX0_renew 3 none, Cond.fieldLink RX0 15 "LeeVanes$Sheet" "lane" "I", Cond.fieldLink RX0 19 "LeeVanes$Sheet" "size" "I", Cond.fieldLink RX0 9 "LeeVanes$Sheet" "row" "[I", Cond.methodLink RX0 22 yJ7_fill_53178, Cond.static yJ7_fill_53178]
def wsX3_sheet_r2 : List Cond := [Cond.initialized RJ7, Cond.code yJ7_fill_53178 cJ7_fill_53178 4 none]
def wsX3_sheet : List Cond := .code yX3_sheet cX3_sheet 5 (some .int) :: ((wsX3_sheet_r1 ++ wsX3_sheet_r2) ++ wsX30 ++ wsX00)
def wsX3_lose : List Cond := .code yX3_lose cX3_lose 3 (some .int) :: ([.methodLink RX3 46 yX3_sheetAt, .instanceMethod yX3_sheetAt, .selects RX3 yX3_sheetAt yX3_sheetAt, .initialized RX3, .code yX3_sheetAt cX3_sheetAt 2 (some (.object "LeeVanes$Sheet")), .fieldLink RX3 13 "LeeVanes" "sheets" "[LLeeVanes$Sheet;", .methodLink RX3 191 yX0_hasRow, .instanceMethod yX0_hasRow, .selects RX0 yX0_hasRow yX0_hasRow, .initialized RX0, .code yX0_hasRow cX0_hasRow 1 (some .boolean), .fieldLink RX0 15 "LeeVanes$Sheet" "lane" "I", .methodLink RX3 187 yX0_renew, .instanceMethod yX0_renew, .selects RX0 yX0_renew yX0_renew, .code yX0_renew cX0_renew 3 none, .fieldLink RX0 19 "LeeVanes$Sheet" "size" "I", .fieldLink RX0 9 "LeeVanes$Sheet" "row" "[I", .methodLink RX0 22 yJ7_fill_53178, .static yJ7_fill_53178, .initialized RJ7, .code yJ7_fill_53178 cJ7_fill_53178 4 none] ++ wsX30 ++ wsX00)
def wsX3_put_r1 : List Cond := [Cond.fieldLink RX3 42 "LeeVanes" "lastFault" "I", Cond.fieldLink RX3 195 "LeeVanes$Sheet" "lane" "I", Cond.fieldLink RX3 137 "LeeVanes$Sheet" "row" "[I", Cond.methodLink RX3 46 yX3_sheetAt, Cond.instanceMethod yX3_sheetAt, Cond.selects RX3 yX3_sheetAt yX3_sheetAt, Cond.initialized RX3, Cond.code yX3_sheetAt cX3_sheetAt 2 (some (.object "LeeVanes$Sheet")), Cond.fieldLink RX3 13 "LeeVanes" "sheets" "[LLeeVanes$Sheet;", Cond.methodLink RX3 54 yX0_faultOfTaking, Cond.instanceMethod yX0_faultOfTaking, Cond.selects RX0 yX0_faultOfTaking yX0_faultOfTaking, Cond.initialized RX0, Cond.code yX0_faultOfTaking cX0_faultOfTaking 4 (some .int), Cond.fieldLink RX0 15 "LeeVanes$Sheet" "lane" "I", Cond.methodLink RX0 28 yX0_hasRow, Cond.instanceMethod yX0_hasRow, Cond.selects RX0 yX0_hasRow yX0_hasRow, Cond.code yX0_hasRow cX0_hasRow 1 (some .boolean), Cond.methodLink RX0 32 yX0_holds, Cond.instanceMethod yX0_holds, Cond.selects RX0 yX0_holds yX0_holds, Cond.code yX0_holds cX0_holds 3 (some .boolean), Cond.fieldLink RX0 19 "LeeVanes$Sheet" "size" "I"]
def wsX3_put_r2 : List Cond := [Cond.methodLink RX3 58 yX3_fail, Cond.instanceMethod yX3_fail, Cond.selects RX3 yX3_fail yX3_fail, Cond.code yX3_fail cX3_fail 2 (some .int), Cond.methodLink RX3 198 yX0_cut, Cond.instanceMethod yX0_cut, Cond.selects RX0 yX0_cut yX0_cut, Cond.code yX0_cut cX0_cut 2 (some .int), Cond.methodLink RX3 155 yX3_write, Cond.static yX3_write, Cond.code yX3_write cX3_write 3 none]
def wsX3_put : List Cond := .code yX3_put cX3_put 6 (some .int) :: ((wsX3_put_r1 ++ wsX3_put_r2) ++ wsX30 ++ wsX00)
def wsX3_cell_r1 : List Cond := [Cond.fieldLink RX3 42 "LeeVanes" "lastFault" "I", Cond.constantLong RX3 185 (-9223372036854775808), Cond.fieldLink RX3 137 "LeeVanes$Sheet" "row" "[I", Cond.methodLink RX3 46 yX3_sheetAt, Cond.instanceMethod yX3_sheetAt, Cond.selects RX3 yX3_sheetAt yX3_sheetAt, Cond.initialized RX3, Cond.code yX3_sheetAt cX3_sheetAt 2 (some (.object "LeeVanes$Sheet")), Cond.fieldLink RX3 13 "LeeVanes" "sheets" "[LLeeVanes$Sheet;", Cond.methodLink RX3 50 yX3_isUpTo, Cond.static yX3_isUpTo, Cond.code yX3_isUpTo cX3_isUpTo 2 (some .boolean), Cond.methodLink RX3 54 yX0_faultOfTaking, Cond.instanceMethod yX0_faultOfTaking, Cond.selects RX0 yX0_faultOfTaking yX0_faultOfTaking, Cond.initialized RX0, Cond.code yX0_faultOfTaking cX0_faultOfTaking 4 (some .int), Cond.fieldLink RX0 15 "LeeVanes$Sheet" "lane" "I", Cond.methodLink RX0 28 yX0_hasRow, Cond.instanceMethod yX0_hasRow, Cond.selects RX0 yX0_hasRow yX0_hasRow, Cond.code yX0_hasRow cX0_hasRow 1 (some .boolean), Cond.methodLink RX0 32 yX0_holds, Cond.instanceMethod yX0_holds]
def wsX3_cell_r2 : List Cond := [Cond.selects RX0 yX0_holds yX0_holds, Cond.code yX0_holds cX0_holds 3 (some .boolean), Cond.fieldLink RX0 19 "LeeVanes$Sheet" "size" "I", Cond.methodLink RX3 83 yX3_read, Cond.static yX3_read, Cond.code yX3_read cX3_read 2 (some .int)]
def wsX3_cell : List Cond := .code yX3_cell cX3_cell 5 (some .long) :: ((wsX3_cell_r1 ++ wsX3_cell_r2) ++ wsX30 ++ wsX00)
def wsX3_copy_r1 : List Cond := [Cond.fieldLink RX3 42 "LeeVanes" "lastFault" "I", Cond.fieldLink RX3 195 "LeeVanes$Sheet" "lane" "I", Cond.fieldLink RX3 137 "LeeVanes$Sheet" "row" "[I", Cond.methodLink RX3 204 arraycopyName, Cond.native arraycopyName, Cond.static arraycopyName, Cond.initialized "java/lang/System", Cond.methodLink RX3 46 yX3_sheetAt, Cond.instanceMethod yX3_sheetAt, Cond.selects RX3 yX3_sheetAt yX3_sheetAt, Cond.initialized RX3, Cond.code yX3_sheetAt cX3_sheetAt 2 (some (.object "LeeVanes$Sheet")), Cond.fieldLink RX3 13 "LeeVanes" "sheets" "[LLeeVanes$Sheet;", Cond.methodLink RX3 191 yX0_hasRow, Cond.instanceMethod yX0_hasRow, Cond.selects RX0 yX0_hasRow yX0_hasRow, Cond.initialized RX0, Cond.code yX0_hasRow cX0_hasRow 1 (some .boolean), Cond.fieldLink RX0 15 "LeeVanes$Sheet" "lane" "I", Cond.methodLink RX3 58 yX3_fail, Cond.instanceMethod yX3_fail, Cond.selects RX3 yX3_fail yX3_fail, Cond.code yX3_fail cX3_fail 2 (some .int), Cond.methodLink RX3 201 yX0_holds]
def wsX3_copy_r2 : List Cond := [Cond.instanceMethod yX0_holds, Cond.selects RX0 yX0_holds yX0_holds, Cond.code yX0_holds cX0_holds 3 (some .boolean), Cond.fieldLink RX0 19 "LeeVanes$Sheet" "size" "I"]
def wsX3_copy : List Cond := .code yX3_copy cX3_copy 8 (some .int) :: ((wsX3_copy_r1 ++ wsX3_copy_r2) ++ wsX30 ++ wsX00)
def wsX3_leave : List Cond := .code yX3_leave cX3_leave 2 none :: ([.fieldLink RX3 38 "LeeVanes" "traced" "I"] ++ wsX30)
def wsX3_tellWard : List Cond := .code yX3_tellWard cX3_tellWard 2 (some .int) :: ([.fieldLink RX3 31 "LeeVanes" "present" "LLeeVanes$Town;", .fieldLink RX3 87 "LeeVanes$Town" "noses" "[I", .methodLink RX3 219 yX3_leave, .instanceMethod yX3_leave, .selects RX3 yX3_leave yX3_leave, .initialized RX3, .code yX3_leave cX3_leave 2 none, .fieldLink RX3 38 "LeeVanes" "traced" "I", .methodLink RX3 83 yX3_read, .static yX3_read, .code yX3_read cX3_read 2 (some .int)] ++ wsX30 ++ wsX20)
def wsX3_tellRich : List Cond := .code yX3_tellRich cX3_tellRich 2 (some .int) :: ([.methodLink RX3 219 yX3_leave, .instanceMethod yX3_leave, .selects RX3 yX3_leave yX3_leave, .initialized RX3, .code yX3_leave cX3_leave 2 none, .fieldLink RX3 38 "LeeVanes" "traced" "I", .methodLink RX3 216 yX3_tellWard, .instanceMethod yX3_tellWard, .selects RX3 yX3_tellWard yX3_tellWard, .code yX3_tellWard cX3_tellWard 2 (some .int), .fieldLink RX3 31 "LeeVanes" "present" "LLeeVanes$Town;", .fieldLink RX3 87 "LeeVanes$Town" "noses" "[I", .methodLink RX3 83 yX3_read, .static yX3_read, .code yX3_read cX3_read 2 (some .int)] ++ wsX30 ++ wsX20)
def wsX3_tellFine : List Cond := .code yX3_tellFine cX3_tellFine 3 (some .int) :: ([.methodLink RX3 219 yX3_leave, .instanceMethod yX3_leave, .selects RX3 yX3_leave yX3_leave, .initialized RX3, .code yX3_leave cX3_leave 2 none, .fieldLink RX3 38 "LeeVanes" "traced" "I", .methodLink RX3 213 yX3_tellRich, .instanceMethod yX3_tellRich, .selects RX3 yX3_tellRich yX3_tellRich, .code yX3_tellRich cX3_tellRich 2 (some .int), .methodLink RX3 216 yX3_tellWard, .instanceMethod yX3_tellWard, .selects RX3 yX3_tellWard yX3_tellWard, .code yX3_tellWard cX3_tellWard 2 (some .int), .fieldLink RX3 31 "LeeVanes" "present" "LLeeVanes$Town;", .fieldLink RX3 87 "LeeVanes$Town" "noses" "[I", .methodLink RX3 83 yX3_read, .static yX3_read, .code yX3_read cX3_read 2 (some .int)] ++ wsX30 ++ wsX20)
def wsX3_tell_r1 : List Cond := [Cond.fieldLink RX3 31 "LeeVanes" "present" "LLeeVanes$Town;", Cond.fieldLink RX3 80 "LeeVanes$Town" "kinds" "[I", Cond.methodLink RX3 76 yX2_hasWard, Cond.instanceMethod yX2_hasWard, Cond.selects RX2 yX2_hasWard yX2_hasWard, Cond.initialized RX2, Cond.code yX2_hasWard cX2_hasWard 2 (some .boolean), Cond.fieldLink RX2 56 "LeeVanes$Town" "wards" "I", Cond.methodLink RX3 83 yX3_read, Cond.static yX3_read, Cond.initialized RX3, Cond.code yX3_read cX3_read 2 (some .int), Cond.methodLink RX3 210 yX3_tellFine, Cond.instanceMethod yX3_tellFine, Cond.selects RX3 yX3_tellFine yX3_tellFine, Cond.code yX3_tellFine cX3_tellFine 3 (some .int), Cond.methodLink RX3 219 yX3_leave, Cond.instanceMethod yX3_leave, Cond.selects RX3 yX3_leave yX3_leave, Cond.code yX3_leave cX3_leave 2 none, Cond.fieldLink RX3 38 "LeeVanes" "traced" "I", Cond.methodLink RX3 213 yX3_tellRich, Cond.instanceMethod yX3_tellRich, Cond.selects RX3 yX3_tellRich yX3_tellRich]
def wsX3_tell_r2 : List Cond := [Cond.code yX3_tellRich cX3_tellRich 2 (some .int), Cond.methodLink RX3 216 yX3_tellWard, Cond.instanceMethod yX3_tellWard, Cond.selects RX3 yX3_tellWard yX3_tellWard, Cond.code yX3_tellWard cX3_tellWard 2 (some .int), Cond.fieldLink RX3 87 "LeeVanes$Town" "noses" "[I"]
def wsX3_tell : List Cond := .code yX3_tell cX3_tell 2 (some .int) :: ((wsX3_tell_r1 ++ wsX3_tell_r2) ++ wsX30 ++ wsX20)
def wsX3_woo : List Cond := .code yX3_woo cX3_woo 2 (some .int) :: ([.fieldLink RX3 31 "LeeVanes" "present" "LLeeVanes$Town;", .fieldLink RX3 80 "LeeVanes$Town" "kinds" "[I", .methodLink RX3 76 yX2_hasWard, .instanceMethod yX2_hasWard, .selects RX2 yX2_hasWard yX2_hasWard, .initialized RX2, .code yX2_hasWard cX2_hasWard 2 (some .boolean), .fieldLink RX2 56 "LeeVanes$Town" "wards" "I", .methodLink RX3 83 yX3_read, .static yX3_read, .initialized RX3, .code yX3_read cX3_read 2 (some .int), .methodLink RX3 219 yX3_leave, .instanceMethod yX3_leave, .selects RX3 yX3_leave yX3_leave, .code yX3_leave cX3_leave 2 none, .fieldLink RX3 38 "LeeVanes" "traced" "I"] ++ wsX30 ++ wsX20)
def wsX3_as : List Cond := .code yX3_as cX3_as 3 (some .int) :: ([.fieldLink RX3 42 "LeeVanes" "lastFault" "I", .fieldLink RX3 31 "LeeVanes" "present" "LLeeVanes$Town;", .fieldLink RX3 80 "LeeVanes$Town" "kinds" "[I", .methodLink RX3 76 yX2_hasWard, .instanceMethod yX2_hasWard, .selects RX2 yX2_hasWard yX2_hasWard, .initialized RX2, .code yX2_hasWard cX2_hasWard 2 (some .boolean), .fieldLink RX2 56 "LeeVanes$Town" "wards" "I", .methodLink RX3 50 yX3_isUpTo, .static yX3_isUpTo, .initialized RX3, .code yX3_isUpTo cX3_isUpTo 2 (some .boolean), .methodLink RX3 83 yX3_read, .static yX3_read, .code yX3_read cX3_read 2 (some .int), .methodLink RX3 58 yX3_fail, .instanceMethod yX3_fail, .selects RX3 yX3_fail yX3_fail, .code yX3_fail cX3_fail 2 (some .int)] ++ wsX30 ++ wsX20)
def wsX3_trace : List Cond := .code yX3_trace cX3_trace 1 (some .int) :: ([.fieldLink RX3 38 "LeeVanes" "traced" "I"] ++ wsX30)
def wsX3_fault : List Cond := .code yX3_fault cX3_fault 1 (some .int) :: ([.fieldLink RX3 42 "LeeVanes" "lastFault" "I"] ++ wsX30)
def wsX3_many : List Cond := .code yX3_many cX3_many 2 (some .int) :: ([.fieldLink RX3 31 "LeeVanes" "present" "LLeeVanes$Town;", .fieldLink RX3 223 "LeeVanes$Town" "cells" "I", .fieldLink RX3 134 "LeeVanes$Town" "works" "I", .fieldLink RX3 73 "LeeVanes$Town" "wards" "I", .fieldLink RX3 116 "LeeVanes$Town" "lawNow" "I", .fieldLink RX3 166 "LeeVanes$Town" "readings" "I"] ++ wsX30 ++ wsX20)
def wsX4_init : List Cond := .code yX4_init cX4_init 2 none :: ([.methodLink RX4 1 objectInit, .instanceMethod objectInit, .code objectInit ⟨#[0xb1]⟩ 1 none, .arrayClass .int, .fieldLink RX4 7 "LeeVanesModel" "workIn" "[I", .fieldLink RX4 13 "LeeVanesModel" "strongOf" "[I", .fieldLink RX4 16 "LeeVanesModel" "vaneOf" "[I", .fieldLink RX4 19 "LeeVanesModel" "wardIn" "[I", .fieldLink RX4 22 "LeeVanesModel" "kindOf" "[I", .fieldLink RX4 25 "LeeVanesModel" "noseOf" "[I", .fieldLink RX4 28 "LeeVanesModel" "readWork" "[I", .fieldLink RX4 31 "LeeVanesModel" "readStrong" "[I", .fieldLink RX4 34 "LeeVanesModel" "readWard" "[I", .fieldLink RX4 37 "LeeVanesModel" "readKind" "[I", .fieldLink RX4 40 "LeeVanesModel" "readNose" "[I", .fieldLink RX4 43 "LeeVanesModel" "firstIn" "[I", .fieldLink RX4 46 "LeeVanesModel" "readingOf" "[I", .fieldLink RX4 49 "LeeVanesModel" "readingSmell" "[I", .fieldLink RX4 52 "LeeVanesModel" "sheetSize" "[I", .fieldLink RX4 55 "LeeVanesModel" "sheetLane" "[I", .fieldLink RX4 58 "LeeVanesModel" "sheet" "[I", .fieldLink RX4 61 "LeeVanesModel" "hands" "[I"] ++ wsX40)
def wsX4_in : List Cond := .code yX4_in cX4_in 6 (some .boolean) :: ([])
def wsX4_lost : List Cond := .code yX4_lost cX4_lost 0 (some .long) :: ([.constantLong RX4 64 (-9223372036854775808)])
def wsX4_isIn : List Cond := .code yX4_isIn cX4_isIn 2 (some .boolean) :: ([])
def wsX4_bits : List Cond := .code yX4_bits cX4_bits 3 (some .int) :: ([])
def wsX4_share : List Cond := .code yX4_share cX4_share 11 (some .long) :: ([])
def wsX4_refused : List Cond := .code yX4_refused cX4_refused 2 (some .int) :: ([.fieldLink RX4 66 "LeeVanesModel" "fault" "I"] ++ wsX40)
def wsX4_failed : List Cond := .code yX4_failed cX4_failed 2 (some .int) :: ([.fieldLink RX4 66 "LeeVanesModel" "fault" "I"] ++ wsX40)
def wsX4_failedLong : List Cond := .code yX4_failedLong cX4_failedLong 2 (some .long) :: ([.fieldLink RX4 66 "LeeVanesModel" "fault" "I", .methodLink RX4 70 yX4_lost, .static yX4_lost, .initialized RX4, .code yX4_lost cX4_lost 0 (some .long), .constantLong RX4 64 (-9223372036854775808)] ++ wsX40)
def wsX4_noSpot : List Cond := .code yX4_noSpot cX4_noSpot 2 (some .boolean) :: ([.fieldLink RX4 74 "LeeVanesModel" "high" "I", .fieldLink RX4 77 "LeeVanesModel" "wide" "I", .methodLink RX4 80 yX4_in, .static yX4_in, .initialized RX4, .code yX4_in cX4_in 6 (some .boolean)] ++ wsX40)
def wsX4_noWork : List Cond := .code yX4_noWork cX4_noWork 2 (some .boolean) :: ([.fieldLink RX4 84 "LeeVanesModel" "works" "I", .methodLink RX4 80 yX4_in, .static yX4_in, .initialized RX4, .code yX4_in cX4_in 6 (some .boolean)] ++ wsX40)
def wsX4_noWard : List Cond := .code yX4_noWard cX4_noWard 2 (some .boolean) :: ([.fieldLink RX4 87 "LeeVanesModel" "wards" "I", .methodLink RX4 80 yX4_in, .static yX4_in, .initialized RX4, .code yX4_in cX4_in 6 (some .boolean)] ++ wsX40)
def wsX4_codeAt : List Cond := .code yX4_codeAt cX4_codeAt 3 (some .int) :: ([.fieldLink RX4 90 "LeeVanesModel" "readAt" "I", .fieldLink RX4 58 "LeeVanesModel" "sheet" "[I"] ++ wsX40)
def wsX4_figure : List Cond := .code yX4_figure cX4_figure 7 (some .int) :: ([.fieldLink RX4 90 "LeeVanesModel" "readAt" "I", .methodLink RX4 93 yX4_codeAt, .instanceMethod yX4_codeAt, .selects RX4 yX4_codeAt yX4_codeAt, .initialized RX4, .code yX4_codeAt cX4_codeAt 3 (some .int), .fieldLink RX4 58 "LeeVanesModel" "sheet" "[I", .methodLink RX4 80 yX4_in, .static yX4_in, .code yX4_in cX4_in 6 (some .boolean)] ++ wsX40)
def wsX4_readsWork : List Cond := .code yX4_readsWork cX4_readsWork 5 (some .boolean) :: ([.fieldLink RX4 97 "LeeVanesModel" "readWorks" "I", .fieldLink RX4 90 "LeeVanesModel" "readAt" "I", .fieldLink RX4 28 "LeeVanesModel" "readWork" "[I", .fieldLink RX4 31 "LeeVanesModel" "readStrong" "[I", .methodLink RX4 100 yX4_figure, .instanceMethod yX4_figure, .selects RX4 yX4_figure yX4_figure, .initialized RX4, .code yX4_figure cX4_figure 7 (some .int), .methodLink RX4 93 yX4_codeAt, .instanceMethod yX4_codeAt, .selects RX4 yX4_codeAt yX4_codeAt, .code yX4_codeAt cX4_codeAt 3 (some .int), .fieldLink RX4 58 "LeeVanesModel" "sheet" "[I", .methodLink RX4 80 yX4_in, .static yX4_in, .code yX4_in cX4_in 6 (some .boolean)] ++ wsX40)
def wsX4_readsWard : List Cond := .code yX4_readsWard cX4_readsWard 6 (some .boolean) :: ([.fieldLink RX4 104 "LeeVanesModel" "readWards" "I", .fieldLink RX4 90 "LeeVanesModel" "readAt" "I", .fieldLink RX4 34 "LeeVanesModel" "readWard" "[I", .fieldLink RX4 37 "LeeVanesModel" "readKind" "[I", .fieldLink RX4 40 "LeeVanesModel" "readNose" "[I", .methodLink RX4 100 yX4_figure, .instanceMethod yX4_figure, .selects RX4 yX4_figure yX4_figure, .initialized RX4, .code yX4_figure cX4_figure 7 (some .int), .methodLink RX4 93 yX4_codeAt, .instanceMethod yX4_codeAt, .selects RX4 yX4_codeAt yX4_codeAt, .code yX4_codeAt cX4_codeAt 3 (some .int), .fieldLink RX4 58 "LeeVanesModel" "sheet" "[I", .methodLink RX4 80 yX4_in, .static yX4_in, .code yX4_in cX4_in 6 (some .boolean)] ++ wsX40)
def wsX4_readsSpot_r1 : List Cond := [Cond.fieldLink RX4 107 "LeeVanesModel" "readWide" "I", Cond.fieldLink RX4 90 "LeeVanesModel" "readAt" "I", Cond.methodLink RX4 93 yX4_codeAt, Cond.instanceMethod yX4_codeAt, Cond.selects RX4 yX4_codeAt yX4_codeAt, Cond.initialized RX4, Cond.code yX4_codeAt cX4_codeAt 3 (some .int), Cond.fieldLink RX4 58 "LeeVanesModel" "sheet" "[I", Cond.methodLink RX4 110 yX4_readsWork, Cond.instanceMethod yX4_readsWork, Cond.selects RX4 yX4_readsWork yX4_readsWork, Cond.code yX4_readsWork cX4_readsWork 5 (some .boolean), Cond.fieldLink RX4 97 "LeeVanesModel" "readWorks" "I", Cond.fieldLink RX4 28 "LeeVanesModel" "readWork" "[I", Cond.fieldLink RX4 31 "LeeVanesModel" "readStrong" "[I", Cond.methodLink RX4 100 yX4_figure, Cond.instanceMethod yX4_figure, Cond.selects RX4 yX4_figure yX4_figure, Cond.code yX4_figure cX4_figure 7 (some .int), Cond.methodLink RX4 80 yX4_in, Cond.static yX4_in, Cond.code yX4_in cX4_in 6 (some .boolean), Cond.methodLink RX4 114 yX4_readsWard, Cond.instanceMethod yX4_readsWard]
def wsX4_readsSpot_r2 : List Cond := [Cond.selects RX4 yX4_readsWard yX4_readsWard, Cond.code yX4_readsWard cX4_readsWard 6 (some .boolean), Cond.fieldLink RX4 104 "LeeVanesModel" "readWards" "I", Cond.fieldLink RX4 34 "LeeVanesModel" "readWard" "[I", Cond.fieldLink RX4 37 "LeeVanesModel" "readKind" "[I", Cond.fieldLink RX4 40 "LeeVanesModel" "readNose" "[I"]
def wsX4_readsSpot : List Cond := .code yX4_readsSpot cX4_readsSpot 4 (some .boolean) :: ((wsX4_readsSpot_r1 ++ wsX4_readsSpot_r2) ++ wsX40)
def wsX4_readsTown_r1 : List Cond := [Cond.fieldLink RX4 90 "LeeVanesModel" "readAt" "I", Cond.fieldLink RX4 97 "LeeVanesModel" "readWorks" "I", Cond.fieldLink RX4 104 "LeeVanesModel" "readWards" "I", Cond.fieldLink RX4 118 "LeeVanesModel" "readHigh" "I", Cond.fieldLink RX4 107 "LeeVanesModel" "readWide" "I", Cond.methodLink RX4 93 yX4_codeAt, Cond.instanceMethod yX4_codeAt, Cond.selects RX4 yX4_codeAt yX4_codeAt, Cond.initialized RX4, Cond.code yX4_codeAt cX4_codeAt 3 (some .int), Cond.fieldLink RX4 58 "LeeVanesModel" "sheet" "[I", Cond.methodLink RX4 100 yX4_figure, Cond.instanceMethod yX4_figure, Cond.selects RX4 yX4_figure yX4_figure, Cond.code yX4_figure cX4_figure 7 (some .int), Cond.methodLink RX4 80 yX4_in, Cond.static yX4_in, Cond.code yX4_in cX4_in 6 (some .boolean), Cond.methodLink RX4 121 yX4_readsSpot, Cond.instanceMethod yX4_readsSpot, Cond.selects RX4 yX4_readsSpot yX4_readsSpot, Cond.code yX4_readsSpot cX4_readsSpot 4 (some .boolean), Cond.methodLink RX4 110 yX4_readsWork, Cond.instanceMethod yX4_readsWork]
def wsX4_readsTown_r2 : List Cond := [Cond.selects RX4 yX4_readsWork yX4_readsWork, Cond.code yX4_readsWork cX4_readsWork 5 (some .boolean), Cond.fieldLink RX4 28 "LeeVanesModel" "readWork" "[I", Cond.fieldLink RX4 31 "LeeVanesModel" "readStrong" "[I", Cond.methodLink RX4 114 yX4_readsWard, Cond.instanceMethod yX4_readsWard, Cond.selects RX4 yX4_readsWard yX4_readsWard, Cond.code yX4_readsWard cX4_readsWard 6 (some .boolean), Cond.fieldLink RX4 34 "LeeVanesModel" "readWard" "[I", Cond.fieldLink RX4 37 "LeeVanesModel" "readKind" "[I", Cond.fieldLink RX4 40 "LeeVanesModel" "readNose" "[I"]
def wsX4_readsTown : List Cond := .code yX4_readsTown cX4_readsTown 5 (some .boolean) :: ((wsX4_readsTown_r1 ++ wsX4_readsTown_r2) ++ wsX40)
def wsX4_isBeyond : List Cond := .code yX4_isBeyond cX4_isBeyond 4 (some .boolean) :: ([])
def wsX4_cellsBarred : List Cond := .code yX4_cellsBarred cX4_cellsBarred 6 (some .int) :: ([.fieldLink RX4 52 "LeeVanesModel" "sheetSize" "[I", .fieldLink RX4 55 "LeeVanesModel" "sheetLane" "[I", .methodLink RX4 124 yX4_failed, .instanceMethod yX4_failed, .selects RX4 yX4_failed yX4_failed, .initialized RX4, .code yX4_failed cX4_failed 2 (some .int), .fieldLink RX4 66 "LeeVanesModel" "fault" "I", .methodLink RX4 128 yX4_isBeyond, .static yX4_isBeyond, .code yX4_isBeyond cX4_isBeyond 4 (some .boolean)] ++ wsX40)
def wsX4_noSheet : List Cond := .code yX4_noSheet cX4_noSheet 1 (some .boolean) :: ([.constantLong RX4 164 (3), .methodLink RX4 80 yX4_in, .static yX4_in, .initialized RX4, .code yX4_in cX4_in 6 (some .boolean)])
def wsX4_town_r1 : List Cond := [Cond.constantLong RX4 139 (2), Cond.fieldLink RX4 90 "LeeVanesModel" "readAt" "I", Cond.fieldLink RX4 118 "LeeVanesModel" "readHigh" "I", Cond.fieldLink RX4 74 "LeeVanesModel" "high" "I", Cond.fieldLink RX4 107 "LeeVanesModel" "readWide" "I", Cond.fieldLink RX4 77 "LeeVanesModel" "wide" "I", Cond.fieldLink RX4 97 "LeeVanesModel" "readWorks" "I", Cond.fieldLink RX4 84 "LeeVanesModel" "works" "I", Cond.fieldLink RX4 104 "LeeVanesModel" "readWards" "I", Cond.fieldLink RX4 87 "LeeVanesModel" "wards" "I", Cond.fieldLink RX4 7 "LeeVanesModel" "workIn" "[I", Cond.fieldLink RX4 28 "LeeVanesModel" "readWork" "[I", Cond.fieldLink RX4 13 "LeeVanesModel" "strongOf" "[I", Cond.fieldLink RX4 31 "LeeVanesModel" "readStrong" "[I", Cond.fieldLink RX4 16 "LeeVanesModel" "vaneOf" "[I", Cond.fieldLink RX4 19 "LeeVanesModel" "wardIn" "[I", Cond.fieldLink RX4 34 "LeeVanesModel" "readWard" "[I", Cond.fieldLink RX4 22 "LeeVanesModel" "kindOf" "[I", Cond.fieldLink RX4 37 "LeeVanesModel" "readKind" "[I", Cond.fieldLink RX4 25 "LeeVanesModel" "noseOf" "[I", Cond.fieldLink RX4 40 "LeeVanesModel" "readNose" "[I", Cond.fieldLink RX4 149 "LeeVanesModel" "lawNow" "I", Cond.fieldLink RX4 152 "LeeVanesModel" "readings" "I", Cond.methodLink RX4 132 yX4_noSheet]
def wsX4_town_r2 : List Cond := [Cond.static yX4_noSheet, Cond.initialized RX4, Cond.code yX4_noSheet cX4_noSheet 1 (some .boolean), Cond.constantLong RX4 164 (3), Cond.methodLink RX4 80 yX4_in, Cond.static yX4_in, Cond.code yX4_in cX4_in 6 (some .boolean), Cond.methodLink RX4 136 yX4_refused, Cond.instanceMethod yX4_refused, Cond.selects RX4 yX4_refused yX4_refused, Cond.code yX4_refused cX4_refused 2 (some .int), Cond.fieldLink RX4 66 "LeeVanesModel" "fault" "I", Cond.methodLink RX4 141 yX4_cellsBarred, Cond.instanceMethod yX4_cellsBarred, Cond.selects RX4 yX4_cellsBarred yX4_cellsBarred, Cond.code yX4_cellsBarred cX4_cellsBarred 6 (some .int), Cond.fieldLink RX4 52 "LeeVanesModel" "sheetSize" "[I", Cond.fieldLink RX4 55 "LeeVanesModel" "sheetLane" "[I", Cond.methodLink RX4 124 yX4_failed, Cond.instanceMethod yX4_failed, Cond.selects RX4 yX4_failed yX4_failed, Cond.code yX4_failed cX4_failed 2 (some .int), Cond.methodLink RX4 128 yX4_isBeyond, Cond.static yX4_isBeyond]
def wsX4_town_r3 : List Cond := [Cond.code yX4_isBeyond cX4_isBeyond 4 (some .boolean), Cond.methodLink RX4 145 yX4_readsTown, Cond.instanceMethod yX4_readsTown, Cond.selects RX4 yX4_readsTown yX4_readsTown, Cond.code yX4_readsTown cX4_readsTown 5 (some .boolean), Cond.methodLink RX4 93 yX4_codeAt, Cond.instanceMethod yX4_codeAt, Cond.selects RX4 yX4_codeAt yX4_codeAt, Cond.code yX4_codeAt cX4_codeAt 3 (some .int), Cond.fieldLink RX4 58 "LeeVanesModel" "sheet" "[I", Cond.methodLink RX4 100 yX4_figure, Cond.instanceMethod yX4_figure, Cond.selects RX4 yX4_figure yX4_figure, Cond.code yX4_figure cX4_figure 7 (some .int), Cond.methodLink RX4 121 yX4_readsSpot, Cond.instanceMethod yX4_readsSpot, Cond.selects RX4 yX4_readsSpot yX4_readsSpot, Cond.code yX4_readsSpot cX4_readsSpot 4 (some .boolean), Cond.methodLink RX4 110 yX4_readsWork, Cond.instanceMethod yX4_readsWork, Cond.selects RX4 yX4_readsWork yX4_readsWork, Cond.code yX4_readsWork cX4_readsWork 5 (some .boolean), Cond.methodLink RX4 114 yX4_readsWard, Cond.instanceMethod yX4_readsWard]
def wsX4_town_r4 : List Cond := [Cond.selects RX4 yX4_readsWard yX4_readsWard, Cond.code yX4_readsWard cX4_readsWard 6 (some .boolean)]
def wsX4_town : List Cond := .code yX4_town cX4_town 7 (some .int) :: ((wsX4_town_r1 ++ (wsX4_town_r2 ++ (wsX4_town_r3 ++ wsX4_town_r4))) ++ wsX40)
def wsX4_mindsOfOne : List Cond := .code yX4_mindsOfOne cX4_mindsOfOne 3 (some .int) :: ([.fieldLink RX4 25 "LeeVanesModel" "noseOf" "[I", .fieldLink RX4 22 "LeeVanesModel" "kindOf" "[I"] ++ wsX40)
def wsX4_ofWard : List Cond := .code yX4_ofWard cX4_ofWard 3 (some .int) :: ([.fieldLink RX4 22 "LeeVanesModel" "kindOf" "[I", .fieldLink RX4 25 "LeeVanesModel" "noseOf" "[I", .fieldLink RX4 19 "LeeVanesModel" "wardIn" "[I", .methodLink RX4 155 yX4_noWard, .instanceMethod yX4_noWard, .selects RX4 yX4_noWard yX4_noWard, .initialized RX4, .code yX4_noWard cX4_noWard 2 (some .boolean), .fieldLink RX4 87 "LeeVanesModel" "wards" "I", .methodLink RX4 80 yX4_in, .static yX4_in, .code yX4_in cX4_in 6 (some .boolean), .methodLink RX4 158 yX4_mindsOfOne, .instanceMethod yX4_mindsOfOne, .selects RX4 yX4_mindsOfOne yX4_mindsOfOne, .code yX4_mindsOfOne cX4_mindsOfOne 3 (some .int)] ++ wsX40)
def wsX4_ofWork : List Cond := .code yX4_ofWork cX4_ofWork 3 (some .int) :: ([.fieldLink RX4 7 "LeeVanesModel" "workIn" "[I", .fieldLink RX4 13 "LeeVanesModel" "strongOf" "[I", .fieldLink RX4 16 "LeeVanesModel" "vaneOf" "[I", .methodLink RX4 161 yX4_noWork, .instanceMethod yX4_noWork, .selects RX4 yX4_noWork yX4_noWork, .initialized RX4, .code yX4_noWork cX4_noWork 2 (some .boolean), .fieldLink RX4 84 "LeeVanesModel" "works" "I", .methodLink RX4 80 yX4_in, .static yX4_in, .code yX4_in cX4_in 6 (some .boolean)] ++ wsX40)
def wsX4_law : List Cond := .code yX4_law cX4_law 3 (some .int) :: ([.constantLong RX4 139 (2), .fieldLink RX4 74 "LeeVanesModel" "high" "I", .fieldLink RX4 149 "LeeVanesModel" "lawNow" "I", .methodLink RX4 80 yX4_in, .static yX4_in, .initialized RX4, .code yX4_in cX4_in 6 (some .boolean)] ++ wsX40)
def wsX4_turn : List Cond := .code yX4_turn cX4_turn 4 (some .int) :: ([.constantLong RX4 164 (3), .fieldLink RX4 16 "LeeVanesModel" "vaneOf" "[I", .methodLink RX4 161 yX4_noWork, .instanceMethod yX4_noWork, .selects RX4 yX4_noWork yX4_noWork, .initialized RX4, .code yX4_noWork cX4_noWork 2 (some .boolean), .fieldLink RX4 84 "LeeVanesModel" "works" "I", .methodLink RX4 80 yX4_in, .static yX4_in, .code yX4_in cX4_in 6 (some .boolean)] ++ wsX40)
def wsX4_comesTo : List Cond := .code yX4_comesTo cX4_comesTo 7 (some .int) :: ([.fieldLink RX4 77 "LeeVanesModel" "wide" "I", .fieldLink RX4 7 "LeeVanesModel" "workIn" "[I", .fieldLink RX4 16 "LeeVanesModel" "vaneOf" "[I", .fieldLink RX4 13 "LeeVanesModel" "strongOf" "[I"] ++ wsX40)
def wsX4_smellOf : List Cond := .code yX4_smellOf cX4_smellOf 7 (some .int) :: ([.fieldLink RX4 84 "LeeVanesModel" "works" "I", .fieldLink RX4 149 "LeeVanesModel" "lawNow" "I", .methodLink RX4 166 yX4_comesTo, .instanceMethod yX4_comesTo, .selects RX4 yX4_comesTo yX4_comesTo, .initialized RX4, .code yX4_comesTo cX4_comesTo 7 (some .int), .fieldLink RX4 77 "LeeVanesModel" "wide" "I", .fieldLink RX4 7 "LeeVanesModel" "workIn" "[I", .fieldLink RX4 16 "LeeVanesModel" "vaneOf" "[I", .fieldLink RX4 13 "LeeVanesModel" "strongOf" "[I"] ++ wsX40)
def wsX4_smell : List Cond := .code yX4_smell cX4_smell 2 (some .int) :: ([.methodLink RX4 169 yX4_noSpot, .instanceMethod yX4_noSpot, .selects RX4 yX4_noSpot yX4_noSpot, .initialized RX4, .code yX4_noSpot cX4_noSpot 2 (some .boolean), .fieldLink RX4 74 "LeeVanesModel" "high" "I", .fieldLink RX4 77 "LeeVanesModel" "wide" "I", .methodLink RX4 80 yX4_in, .static yX4_in, .code yX4_in cX4_in 6 (some .boolean), .methodLink RX4 172 yX4_smellOf, .instanceMethod yX4_smellOf, .selects RX4 yX4_smellOf yX4_smellOf, .code yX4_smellOf cX4_smellOf 7 (some .int), .fieldLink RX4 84 "LeeVanesModel" "works" "I", .fieldLink RX4 149 "LeeVanesModel" "lawNow" "I", .methodLink RX4 166 yX4_comesTo, .instanceMethod yX4_comesTo, .selects RX4 yX4_comesTo yX4_comesTo, .code yX4_comesTo cX4_comesTo 7 (some .int), .fieldLink RX4 7 "LeeVanesModel" "workIn" "[I", .fieldLink RX4 16 "LeeVanesModel" "vaneOf" "[I", .fieldLink RX4 13 "LeeVanesModel" "strongOf" "[I"] ++ wsX40)
def wsX4_mindsNow : List Cond := .code yX4_mindsNow cX4_mindsNow 2 (some .int) :: ([.fieldLink RX4 19 "LeeVanesModel" "wardIn" "[I", .methodLink RX4 158 yX4_mindsOfOne, .instanceMethod yX4_mindsOfOne, .selects RX4 yX4_mindsOfOne yX4_mindsOfOne, .initialized RX4, .code yX4_mindsOfOne cX4_mindsOfOne 3 (some .int), .fieldLink RX4 25 "LeeVanesModel" "noseOf" "[I", .fieldLink RX4 22 "LeeVanesModel" "kindOf" "[I", .methodLink RX4 172 yX4_smellOf, .instanceMethod yX4_smellOf, .selects RX4 yX4_smellOf yX4_smellOf, .code yX4_smellOf cX4_smellOf 7 (some .int), .fieldLink RX4 84 "LeeVanesModel" "works" "I", .fieldLink RX4 149 "LeeVanesModel" "lawNow" "I", .methodLink RX4 166 yX4_comesTo, .instanceMethod yX4_comesTo, .selects RX4 yX4_comesTo yX4_comesTo, .code yX4_comesTo cX4_comesTo 7 (some .int), .fieldLink RX4 77 "LeeVanesModel" "wide" "I", .fieldLink RX4 7 "LeeVanesModel" "workIn" "[I", .fieldLink RX4 16 "LeeVanesModel" "vaneOf" "[I", .fieldLink RX4 13 "LeeVanesModel" "strongOf" "[I"] ++ wsX40)
def wsX4_minds_r1 : List Cond := [Cond.methodLink RX4 155 yX4_noWard, Cond.instanceMethod yX4_noWard, Cond.selects RX4 yX4_noWard yX4_noWard, Cond.initialized RX4, Cond.code yX4_noWard cX4_noWard 2 (some .boolean), Cond.fieldLink RX4 87 "LeeVanesModel" "wards" "I", Cond.methodLink RX4 80 yX4_in, Cond.static yX4_in, Cond.code yX4_in cX4_in 6 (some .boolean), Cond.methodLink RX4 175 yX4_mindsNow, Cond.instanceMethod yX4_mindsNow, Cond.selects RX4 yX4_mindsNow yX4_mindsNow, Cond.code yX4_mindsNow cX4_mindsNow 2 (some .int), Cond.fieldLink RX4 19 "LeeVanesModel" "wardIn" "[I", Cond.methodLink RX4 158 yX4_mindsOfOne, Cond.instanceMethod yX4_mindsOfOne, Cond.selects RX4 yX4_mindsOfOne yX4_mindsOfOne, Cond.code yX4_mindsOfOne cX4_mindsOfOne 3 (some .int), Cond.fieldLink RX4 25 "LeeVanesModel" "noseOf" "[I", Cond.fieldLink RX4 22 "LeeVanesModel" "kindOf" "[I", Cond.methodLink RX4 172 yX4_smellOf, Cond.instanceMethod yX4_smellOf, Cond.selects RX4 yX4_smellOf yX4_smellOf, Cond.code yX4_smellOf cX4_smellOf 7 (some .int)]
def wsX4_minds_r2 : List Cond := [Cond.fieldLink RX4 84 "LeeVanesModel" "works" "I", Cond.fieldLink RX4 149 "LeeVanesModel" "lawNow" "I", Cond.methodLink RX4 166 yX4_comesTo, Cond.instanceMethod yX4_comesTo, Cond.selects RX4 yX4_comesTo yX4_comesTo, Cond.code yX4_comesTo cX4_comesTo 7 (some .int), Cond.fieldLink RX4 77 "LeeVanesModel" "wide" "I", Cond.fieldLink RX4 7 "LeeVanesModel" "workIn" "[I", Cond.fieldLink RX4 16 "LeeVanesModel" "vaneOf" "[I", Cond.fieldLink RX4 13 "LeeVanesModel" "strongOf" "[I"]
def wsX4_minds : List Cond := .code yX4_minds cX4_minds 2 (some .int) :: ((wsX4_minds_r1 ++ wsX4_minds_r2) ++ wsX40)
def wsX4_burdenNow_r1 : List Cond := [Cond.fieldLink RX4 87 "LeeVanesModel" "wards" "I", Cond.methodLink RX4 175 yX4_mindsNow, Cond.instanceMethod yX4_mindsNow, Cond.selects RX4 yX4_mindsNow yX4_mindsNow, Cond.initialized RX4, Cond.code yX4_mindsNow cX4_mindsNow 2 (some .int), Cond.fieldLink RX4 19 "LeeVanesModel" "wardIn" "[I", Cond.methodLink RX4 158 yX4_mindsOfOne, Cond.instanceMethod yX4_mindsOfOne, Cond.selects RX4 yX4_mindsOfOne yX4_mindsOfOne, Cond.code yX4_mindsOfOne cX4_mindsOfOne 3 (some .int), Cond.fieldLink RX4 25 "LeeVanesModel" "noseOf" "[I", Cond.fieldLink RX4 22 "LeeVanesModel" "kindOf" "[I", Cond.methodLink RX4 172 yX4_smellOf, Cond.instanceMethod yX4_smellOf, Cond.selects RX4 yX4_smellOf yX4_smellOf, Cond.code yX4_smellOf cX4_smellOf 7 (some .int), Cond.fieldLink RX4 84 "LeeVanesModel" "works" "I", Cond.fieldLink RX4 149 "LeeVanesModel" "lawNow" "I", Cond.methodLink RX4 166 yX4_comesTo, Cond.instanceMethod yX4_comesTo, Cond.selects RX4 yX4_comesTo yX4_comesTo, Cond.code yX4_comesTo cX4_comesTo 7 (some .int), Cond.fieldLink RX4 77 "LeeVanesModel" "wide" "I"]
def wsX4_burdenNow_r2 : List Cond := [Cond.fieldLink RX4 7 "LeeVanesModel" "workIn" "[I", Cond.fieldLink RX4 16 "LeeVanesModel" "vaneOf" "[I", Cond.fieldLink RX4 13 "LeeVanesModel" "strongOf" "[I"]
def wsX4_burdenNow : List Cond := .code yX4_burdenNow cX4_burdenNow 3 (some .int) :: ((wsX4_burdenNow_r1 ++ wsX4_burdenNow_r2) ++ wsX40)
def wsX4_burden_r1 : List Cond := [Cond.fieldLink RX4 74 "LeeVanesModel" "high" "I", Cond.methodLink RX4 178 yX4_burdenNow, Cond.instanceMethod yX4_burdenNow, Cond.selects RX4 yX4_burdenNow yX4_burdenNow, Cond.initialized RX4, Cond.code yX4_burdenNow cX4_burdenNow 3 (some .int), Cond.fieldLink RX4 87 "LeeVanesModel" "wards" "I", Cond.methodLink RX4 175 yX4_mindsNow, Cond.instanceMethod yX4_mindsNow, Cond.selects RX4 yX4_mindsNow yX4_mindsNow, Cond.code yX4_mindsNow cX4_mindsNow 2 (some .int), Cond.fieldLink RX4 19 "LeeVanesModel" "wardIn" "[I", Cond.methodLink RX4 158 yX4_mindsOfOne, Cond.instanceMethod yX4_mindsOfOne, Cond.selects RX4 yX4_mindsOfOne yX4_mindsOfOne, Cond.code yX4_mindsOfOne cX4_mindsOfOne 3 (some .int), Cond.fieldLink RX4 25 "LeeVanesModel" "noseOf" "[I", Cond.fieldLink RX4 22 "LeeVanesModel" "kindOf" "[I", Cond.methodLink RX4 172 yX4_smellOf, Cond.instanceMethod yX4_smellOf, Cond.selects RX4 yX4_smellOf yX4_smellOf, Cond.code yX4_smellOf cX4_smellOf 7 (some .int), Cond.fieldLink RX4 84 "LeeVanesModel" "works" "I", Cond.fieldLink RX4 149 "LeeVanesModel" "lawNow" "I"]
def wsX4_burden_r2 : List Cond := [Cond.methodLink RX4 166 yX4_comesTo, Cond.instanceMethod yX4_comesTo, Cond.selects RX4 yX4_comesTo yX4_comesTo, Cond.code yX4_comesTo cX4_comesTo 7 (some .int), Cond.fieldLink RX4 77 "LeeVanesModel" "wide" "I", Cond.fieldLink RX4 7 "LeeVanesModel" "workIn" "[I", Cond.fieldLink RX4 16 "LeeVanesModel" "vaneOf" "[I", Cond.fieldLink RX4 13 "LeeVanesModel" "strongOf" "[I"]
def wsX4_burden : List Cond := .code yX4_burden cX4_burden 1 (some .int) :: ((wsX4_burden_r1 ++ wsX4_burden_r2) ++ wsX40)
def wsX4_vanesNow : List Cond := .code yX4_vanesNow cX4_vanesNow 3 (some .int) :: ([.fieldLink RX4 84 "LeeVanesModel" "works" "I", .fieldLink RX4 16 "LeeVanesModel" "vaneOf" "[I"] ++ wsX40)
def wsX4_turnAll : List Cond := .code yX4_turnAll cX4_turnAll 4 none :: ([.fieldLink RX4 84 "LeeVanesModel" "works" "I", .fieldLink RX4 16 "LeeVanesModel" "vaneOf" "[I"] ++ wsX40)
def wsX4_rows : List Cond := .code yX4_rows cX4_rows 3 (some .int) :: ([.fieldLink RX4 84 "LeeVanesModel" "works" "I"] ++ wsX40)
def wsX4_told_r1 : List Cond := [Cond.constantLong RX4 139 (2), Cond.fieldLink RX4 74 "LeeVanesModel" "high" "I", Cond.fieldLink RX4 84 "LeeVanesModel" "works" "I", Cond.fieldLink RX4 58 "LeeVanesModel" "sheet" "[I", Cond.constantLong RX4 164 (3), Cond.fieldLink RX4 16 "LeeVanesModel" "vaneOf" "[I", Cond.methodLink RX4 132 yX4_noSheet, Cond.static yX4_noSheet, Cond.initialized RX4, Cond.code yX4_noSheet cX4_noSheet 1 (some .boolean), Cond.methodLink RX4 80 yX4_in, Cond.static yX4_in, Cond.code yX4_in cX4_in 6 (some .boolean), Cond.methodLink RX4 136 yX4_refused, Cond.instanceMethod yX4_refused, Cond.selects RX4 yX4_refused yX4_refused, Cond.code yX4_refused cX4_refused 2 (some .int), Cond.fieldLink RX4 66 "LeeVanesModel" "fault" "I", Cond.methodLink RX4 141 yX4_cellsBarred, Cond.instanceMethod yX4_cellsBarred, Cond.selects RX4 yX4_cellsBarred yX4_cellsBarred, Cond.code yX4_cellsBarred cX4_cellsBarred 6 (some .int), Cond.fieldLink RX4 52 "LeeVanesModel" "sheetSize" "[I", Cond.fieldLink RX4 55 "LeeVanesModel" "sheetLane" "[I"]
def wsX4_told_r2 : List Cond := [Cond.methodLink RX4 124 yX4_failed, Cond.instanceMethod yX4_failed, Cond.selects RX4 yX4_failed yX4_failed, Cond.code yX4_failed cX4_failed 2 (some .int), Cond.methodLink RX4 128 yX4_isBeyond, Cond.static yX4_isBeyond, Cond.code yX4_isBeyond cX4_isBeyond 4 (some .boolean), Cond.methodLink RX4 182 yX4_vanesNow, Cond.instanceMethod yX4_vanesNow, Cond.selects RX4 yX4_vanesNow yX4_vanesNow, Cond.code yX4_vanesNow cX4_vanesNow 3 (some .int), Cond.methodLink RX4 178 yX4_burdenNow, Cond.instanceMethod yX4_burdenNow, Cond.selects RX4 yX4_burdenNow yX4_burdenNow, Cond.code yX4_burdenNow cX4_burdenNow 3 (some .int), Cond.fieldLink RX4 87 "LeeVanesModel" "wards" "I", Cond.methodLink RX4 175 yX4_mindsNow, Cond.instanceMethod yX4_mindsNow, Cond.selects RX4 yX4_mindsNow yX4_mindsNow, Cond.code yX4_mindsNow cX4_mindsNow 2 (some .int), Cond.fieldLink RX4 19 "LeeVanesModel" "wardIn" "[I", Cond.methodLink RX4 158 yX4_mindsOfOne, Cond.instanceMethod yX4_mindsOfOne, Cond.selects RX4 yX4_mindsOfOne yX4_mindsOfOne]
def wsX4_told_r3 : List Cond := [Cond.code yX4_mindsOfOne cX4_mindsOfOne 3 (some .int), Cond.fieldLink RX4 25 "LeeVanesModel" "noseOf" "[I", Cond.fieldLink RX4 22 "LeeVanesModel" "kindOf" "[I", Cond.methodLink RX4 172 yX4_smellOf, Cond.instanceMethod yX4_smellOf, Cond.selects RX4 yX4_smellOf yX4_smellOf, Cond.code yX4_smellOf cX4_smellOf 7 (some .int), Cond.fieldLink RX4 149 "LeeVanesModel" "lawNow" "I", Cond.methodLink RX4 166 yX4_comesTo, Cond.instanceMethod yX4_comesTo, Cond.selects RX4 yX4_comesTo yX4_comesTo, Cond.code yX4_comesTo cX4_comesTo 7 (some .int), Cond.fieldLink RX4 77 "LeeVanesModel" "wide" "I", Cond.fieldLink RX4 7 "LeeVanesModel" "workIn" "[I", Cond.fieldLink RX4 13 "LeeVanesModel" "strongOf" "[I", Cond.methodLink RX4 185 yX4_turnAll, Cond.instanceMethod yX4_turnAll, Cond.selects RX4 yX4_turnAll yX4_turnAll, Cond.code yX4_turnAll cX4_turnAll 4 none]
def wsX4_told : List Cond := .code yX4_told cX4_told 9 (some .int) :: ((wsX4_told_r1 ++ (wsX4_told_r2 ++ wsX4_told_r3)) ++ wsX40)
def wsX4_voteOf_r1 : List Cond := [Cond.fieldLink RX4 16 "LeeVanesModel" "vaneOf" "[I", Cond.methodLink RX4 175 yX4_mindsNow, Cond.instanceMethod yX4_mindsNow, Cond.selects RX4 yX4_mindsNow yX4_mindsNow, Cond.initialized RX4, Cond.code yX4_mindsNow cX4_mindsNow 2 (some .int), Cond.fieldLink RX4 19 "LeeVanesModel" "wardIn" "[I", Cond.methodLink RX4 158 yX4_mindsOfOne, Cond.instanceMethod yX4_mindsOfOne, Cond.selects RX4 yX4_mindsOfOne yX4_mindsOfOne, Cond.code yX4_mindsOfOne cX4_mindsOfOne 3 (some .int), Cond.fieldLink RX4 25 "LeeVanesModel" "noseOf" "[I", Cond.fieldLink RX4 22 "LeeVanesModel" "kindOf" "[I", Cond.methodLink RX4 172 yX4_smellOf, Cond.instanceMethod yX4_smellOf, Cond.selects RX4 yX4_smellOf yX4_smellOf, Cond.code yX4_smellOf cX4_smellOf 7 (some .int), Cond.fieldLink RX4 84 "LeeVanesModel" "works" "I", Cond.fieldLink RX4 149 "LeeVanesModel" "lawNow" "I", Cond.methodLink RX4 166 yX4_comesTo, Cond.instanceMethod yX4_comesTo, Cond.selects RX4 yX4_comesTo yX4_comesTo, Cond.code yX4_comesTo cX4_comesTo 7 (some .int), Cond.fieldLink RX4 77 "LeeVanesModel" "wide" "I"]
def wsX4_voteOf_r2 : List Cond := [Cond.fieldLink RX4 7 "LeeVanesModel" "workIn" "[I", Cond.fieldLink RX4 13 "LeeVanesModel" "strongOf" "[I"]
def wsX4_voteOf : List Cond := .code yX4_voteOf cX4_voteOf 8 (some .int) :: ((wsX4_voteOf_r1 ++ wsX4_voteOf_r2) ++ wsX40)
def wsX4_vote_r1 : List Cond := [Cond.methodLink RX4 155 yX4_noWard, Cond.instanceMethod yX4_noWard, Cond.selects RX4 yX4_noWard yX4_noWard, Cond.initialized RX4, Cond.code yX4_noWard cX4_noWard 2 (some .boolean), Cond.fieldLink RX4 87 "LeeVanesModel" "wards" "I", Cond.methodLink RX4 80 yX4_in, Cond.static yX4_in, Cond.code yX4_in cX4_in 6 (some .boolean), Cond.methodLink RX4 161 yX4_noWork, Cond.instanceMethod yX4_noWork, Cond.selects RX4 yX4_noWork yX4_noWork, Cond.code yX4_noWork cX4_noWork 2 (some .boolean), Cond.fieldLink RX4 84 "LeeVanesModel" "works" "I", Cond.methodLink RX4 189 yX4_voteOf, Cond.instanceMethod yX4_voteOf, Cond.selects RX4 yX4_voteOf yX4_voteOf, Cond.code yX4_voteOf cX4_voteOf 8 (some .int), Cond.fieldLink RX4 16 "LeeVanesModel" "vaneOf" "[I", Cond.methodLink RX4 175 yX4_mindsNow, Cond.instanceMethod yX4_mindsNow, Cond.selects RX4 yX4_mindsNow yX4_mindsNow, Cond.code yX4_mindsNow cX4_mindsNow 2 (some .int), Cond.fieldLink RX4 19 "LeeVanesModel" "wardIn" "[I"]
def wsX4_vote_r2 : List Cond := [Cond.methodLink RX4 158 yX4_mindsOfOne, Cond.instanceMethod yX4_mindsOfOne, Cond.selects RX4 yX4_mindsOfOne yX4_mindsOfOne, Cond.code yX4_mindsOfOne cX4_mindsOfOne 3 (some .int), Cond.fieldLink RX4 25 "LeeVanesModel" "noseOf" "[I", Cond.fieldLink RX4 22 "LeeVanesModel" "kindOf" "[I", Cond.methodLink RX4 172 yX4_smellOf, Cond.instanceMethod yX4_smellOf, Cond.selects RX4 yX4_smellOf yX4_smellOf, Cond.code yX4_smellOf cX4_smellOf 7 (some .int), Cond.fieldLink RX4 149 "LeeVanesModel" "lawNow" "I", Cond.methodLink RX4 166 yX4_comesTo, Cond.instanceMethod yX4_comesTo, Cond.selects RX4 yX4_comesTo yX4_comesTo, Cond.code yX4_comesTo cX4_comesTo 7 (some .int), Cond.fieldLink RX4 77 "LeeVanesModel" "wide" "I", Cond.fieldLink RX4 7 "LeeVanesModel" "workIn" "[I", Cond.fieldLink RX4 13 "LeeVanesModel" "strongOf" "[I"]
def wsX4_vote : List Cond := .code yX4_vote cX4_vote 3 (some .int) :: ((wsX4_vote_r1 ++ wsX4_vote_r2) ++ wsX40)
def wsX4_winsBy_r1 : List Cond := [Cond.fieldLink RX4 87 "LeeVanesModel" "wards" "I", Cond.methodLink RX4 192 yX4_isIn, Cond.static yX4_isIn, Cond.initialized RX4, Cond.code yX4_isIn cX4_isIn 2 (some .boolean), Cond.methodLink RX4 189 yX4_voteOf, Cond.instanceMethod yX4_voteOf, Cond.selects RX4 yX4_voteOf yX4_voteOf, Cond.code yX4_voteOf cX4_voteOf 8 (some .int), Cond.fieldLink RX4 16 "LeeVanesModel" "vaneOf" "[I", Cond.methodLink RX4 175 yX4_mindsNow, Cond.instanceMethod yX4_mindsNow, Cond.selects RX4 yX4_mindsNow yX4_mindsNow, Cond.code yX4_mindsNow cX4_mindsNow 2 (some .int), Cond.fieldLink RX4 19 "LeeVanesModel" "wardIn" "[I", Cond.methodLink RX4 158 yX4_mindsOfOne, Cond.instanceMethod yX4_mindsOfOne, Cond.selects RX4 yX4_mindsOfOne yX4_mindsOfOne, Cond.code yX4_mindsOfOne cX4_mindsOfOne 3 (some .int), Cond.fieldLink RX4 25 "LeeVanesModel" "noseOf" "[I", Cond.fieldLink RX4 22 "LeeVanesModel" "kindOf" "[I", Cond.methodLink RX4 172 yX4_smellOf, Cond.instanceMethod yX4_smellOf, Cond.selects RX4 yX4_smellOf yX4_smellOf]
def wsX4_winsBy_r2 : List Cond := [Cond.code yX4_smellOf cX4_smellOf 7 (some .int), Cond.fieldLink RX4 84 "LeeVanesModel" "works" "I", Cond.fieldLink RX4 149 "LeeVanesModel" "lawNow" "I", Cond.methodLink RX4 166 yX4_comesTo, Cond.instanceMethod yX4_comesTo, Cond.selects RX4 yX4_comesTo yX4_comesTo, Cond.code yX4_comesTo cX4_comesTo 7 (some .int), Cond.fieldLink RX4 77 "LeeVanesModel" "wide" "I", Cond.fieldLink RX4 7 "LeeVanesModel" "workIn" "[I", Cond.fieldLink RX4 13 "LeeVanesModel" "strongOf" "[I"]
def wsX4_winsBy : List Cond := .code yX4_winsBy cX4_winsBy 10 (some .int) :: ((wsX4_winsBy_r1 ++ wsX4_winsBy_r2) ++ wsX40)
def wsX4_ballot_r1 : List Cond := [Cond.methodLink RX4 161 yX4_noWork, Cond.instanceMethod yX4_noWork, Cond.selects RX4 yX4_noWork yX4_noWork, Cond.initialized RX4, Cond.code yX4_noWork cX4_noWork 2 (some .boolean), Cond.fieldLink RX4 84 "LeeVanesModel" "works" "I", Cond.methodLink RX4 80 yX4_in, Cond.static yX4_in, Cond.code yX4_in cX4_in 6 (some .boolean), Cond.methodLink RX4 195 yX4_winsBy, Cond.instanceMethod yX4_winsBy, Cond.selects RX4 yX4_winsBy yX4_winsBy, Cond.code yX4_winsBy cX4_winsBy 10 (some .int), Cond.fieldLink RX4 87 "LeeVanesModel" "wards" "I", Cond.methodLink RX4 192 yX4_isIn, Cond.static yX4_isIn, Cond.code yX4_isIn cX4_isIn 2 (some .boolean), Cond.methodLink RX4 189 yX4_voteOf, Cond.instanceMethod yX4_voteOf, Cond.selects RX4 yX4_voteOf yX4_voteOf, Cond.code yX4_voteOf cX4_voteOf 8 (some .int), Cond.fieldLink RX4 16 "LeeVanesModel" "vaneOf" "[I", Cond.methodLink RX4 175 yX4_mindsNow, Cond.instanceMethod yX4_mindsNow]
def wsX4_ballot_r2 : List Cond := [Cond.selects RX4 yX4_mindsNow yX4_mindsNow, Cond.code yX4_mindsNow cX4_mindsNow 2 (some .int), Cond.fieldLink RX4 19 "LeeVanesModel" "wardIn" "[I", Cond.methodLink RX4 158 yX4_mindsOfOne, Cond.instanceMethod yX4_mindsOfOne, Cond.selects RX4 yX4_mindsOfOne yX4_mindsOfOne, Cond.code yX4_mindsOfOne cX4_mindsOfOne 3 (some .int), Cond.fieldLink RX4 25 "LeeVanesModel" "noseOf" "[I", Cond.fieldLink RX4 22 "LeeVanesModel" "kindOf" "[I", Cond.methodLink RX4 172 yX4_smellOf, Cond.instanceMethod yX4_smellOf, Cond.selects RX4 yX4_smellOf yX4_smellOf, Cond.code yX4_smellOf cX4_smellOf 7 (some .int), Cond.fieldLink RX4 149 "LeeVanesModel" "lawNow" "I", Cond.methodLink RX4 166 yX4_comesTo, Cond.instanceMethod yX4_comesTo, Cond.selects RX4 yX4_comesTo yX4_comesTo, Cond.code yX4_comesTo cX4_comesTo 7 (some .int), Cond.fieldLink RX4 77 "LeeVanesModel" "wide" "I", Cond.fieldLink RX4 7 "LeeVanesModel" "workIn" "[I", Cond.fieldLink RX4 13 "LeeVanesModel" "strongOf" "[I"]
def wsX4_ballot : List Cond := .code yX4_ballot cX4_ballot 2 (some .int) :: ((wsX4_ballot_r1 ++ wsX4_ballot_r2) ++ wsX40)
def wsX4_goYear_r1 : List Cond := [Cond.fieldLink RX4 84 "LeeVanesModel" "works" "I", Cond.fieldLink RX4 16 "LeeVanesModel" "vaneOf" "[I", Cond.methodLink RX4 195 yX4_winsBy, Cond.instanceMethod yX4_winsBy, Cond.selects RX4 yX4_winsBy yX4_winsBy, Cond.initialized RX4, Cond.code yX4_winsBy cX4_winsBy 10 (some .int), Cond.fieldLink RX4 87 "LeeVanesModel" "wards" "I", Cond.methodLink RX4 192 yX4_isIn, Cond.static yX4_isIn, Cond.code yX4_isIn cX4_isIn 2 (some .boolean), Cond.methodLink RX4 189 yX4_voteOf, Cond.instanceMethod yX4_voteOf, Cond.selects RX4 yX4_voteOf yX4_voteOf, Cond.code yX4_voteOf cX4_voteOf 8 (some .int), Cond.methodLink RX4 175 yX4_mindsNow, Cond.instanceMethod yX4_mindsNow, Cond.selects RX4 yX4_mindsNow yX4_mindsNow, Cond.code yX4_mindsNow cX4_mindsNow 2 (some .int), Cond.fieldLink RX4 19 "LeeVanesModel" "wardIn" "[I", Cond.methodLink RX4 158 yX4_mindsOfOne, Cond.instanceMethod yX4_mindsOfOne, Cond.selects RX4 yX4_mindsOfOne yX4_mindsOfOne, Cond.code yX4_mindsOfOne cX4_mindsOfOne 3 (some .int)]
def wsX4_goYear_r2 : List Cond := [Cond.fieldLink RX4 25 "LeeVanesModel" "noseOf" "[I", Cond.fieldLink RX4 22 "LeeVanesModel" "kindOf" "[I", Cond.methodLink RX4 172 yX4_smellOf, Cond.instanceMethod yX4_smellOf, Cond.selects RX4 yX4_smellOf yX4_smellOf, Cond.code yX4_smellOf cX4_smellOf 7 (some .int), Cond.fieldLink RX4 149 "LeeVanesModel" "lawNow" "I", Cond.methodLink RX4 166 yX4_comesTo, Cond.instanceMethod yX4_comesTo, Cond.selects RX4 yX4_comesTo yX4_comesTo, Cond.code yX4_comesTo cX4_comesTo 7 (some .int), Cond.fieldLink RX4 77 "LeeVanesModel" "wide" "I", Cond.fieldLink RX4 7 "LeeVanesModel" "workIn" "[I", Cond.fieldLink RX4 13 "LeeVanesModel" "strongOf" "[I"]
def wsX4_goYear : List Cond := .code yX4_goYear cX4_goYear 4 (some .int) :: ((wsX4_goYear_r1 ++ wsX4_goYear_r2) ++ wsX40)
def wsX4_year_r1 : List Cond := [Cond.fieldLink RX4 74 "LeeVanesModel" "high" "I", Cond.methodLink RX4 199 yX4_goYear, Cond.instanceMethod yX4_goYear, Cond.selects RX4 yX4_goYear yX4_goYear, Cond.initialized RX4, Cond.code yX4_goYear cX4_goYear 4 (some .int), Cond.fieldLink RX4 84 "LeeVanesModel" "works" "I", Cond.fieldLink RX4 16 "LeeVanesModel" "vaneOf" "[I", Cond.methodLink RX4 195 yX4_winsBy, Cond.instanceMethod yX4_winsBy, Cond.selects RX4 yX4_winsBy yX4_winsBy, Cond.code yX4_winsBy cX4_winsBy 10 (some .int), Cond.fieldLink RX4 87 "LeeVanesModel" "wards" "I", Cond.methodLink RX4 192 yX4_isIn, Cond.static yX4_isIn, Cond.code yX4_isIn cX4_isIn 2 (some .boolean), Cond.methodLink RX4 189 yX4_voteOf, Cond.instanceMethod yX4_voteOf, Cond.selects RX4 yX4_voteOf yX4_voteOf, Cond.code yX4_voteOf cX4_voteOf 8 (some .int), Cond.methodLink RX4 175 yX4_mindsNow, Cond.instanceMethod yX4_mindsNow, Cond.selects RX4 yX4_mindsNow yX4_mindsNow, Cond.code yX4_mindsNow cX4_mindsNow 2 (some .int)]
def wsX4_year_r2 : List Cond := [Cond.fieldLink RX4 19 "LeeVanesModel" "wardIn" "[I", Cond.methodLink RX4 158 yX4_mindsOfOne, Cond.instanceMethod yX4_mindsOfOne, Cond.selects RX4 yX4_mindsOfOne yX4_mindsOfOne, Cond.code yX4_mindsOfOne cX4_mindsOfOne 3 (some .int), Cond.fieldLink RX4 25 "LeeVanesModel" "noseOf" "[I", Cond.fieldLink RX4 22 "LeeVanesModel" "kindOf" "[I", Cond.methodLink RX4 172 yX4_smellOf, Cond.instanceMethod yX4_smellOf, Cond.selects RX4 yX4_smellOf yX4_smellOf, Cond.code yX4_smellOf cX4_smellOf 7 (some .int), Cond.fieldLink RX4 149 "LeeVanesModel" "lawNow" "I", Cond.methodLink RX4 166 yX4_comesTo, Cond.instanceMethod yX4_comesTo, Cond.selects RX4 yX4_comesTo yX4_comesTo, Cond.code yX4_comesTo cX4_comesTo 7 (some .int), Cond.fieldLink RX4 77 "LeeVanesModel" "wide" "I", Cond.fieldLink RX4 7 "LeeVanesModel" "workIn" "[I", Cond.fieldLink RX4 13 "LeeVanesModel" "strongOf" "[I"]
def wsX4_year : List Cond := .code yX4_year cX4_year 1 (some .int) :: ((wsX4_year_r1 ++ wsX4_year_r2) ++ wsX40)
def wsX4_round_r1 : List Cond := [Cond.fieldLink RX4 74 "LeeVanesModel" "high" "I", Cond.fieldLink RX4 43 "LeeVanesModel" "firstIn" "[I", Cond.methodLink RX4 80 yX4_in, Cond.static yX4_in, Cond.initialized RX4, Cond.code yX4_in cX4_in 6 (some .boolean), Cond.methodLink RX4 182 yX4_vanesNow, Cond.instanceMethod yX4_vanesNow, Cond.selects RX4 yX4_vanesNow yX4_vanesNow, Cond.code yX4_vanesNow cX4_vanesNow 3 (some .int), Cond.fieldLink RX4 84 "LeeVanesModel" "works" "I", Cond.fieldLink RX4 16 "LeeVanesModel" "vaneOf" "[I", Cond.methodLink RX4 199 yX4_goYear, Cond.instanceMethod yX4_goYear, Cond.selects RX4 yX4_goYear yX4_goYear, Cond.code yX4_goYear cX4_goYear 4 (some .int), Cond.methodLink RX4 195 yX4_winsBy, Cond.instanceMethod yX4_winsBy, Cond.selects RX4 yX4_winsBy yX4_winsBy, Cond.code yX4_winsBy cX4_winsBy 10 (some .int), Cond.fieldLink RX4 87 "LeeVanesModel" "wards" "I", Cond.methodLink RX4 192 yX4_isIn, Cond.static yX4_isIn, Cond.code yX4_isIn cX4_isIn 2 (some .boolean)]
def wsX4_round_r2 : List Cond := [Cond.methodLink RX4 189 yX4_voteOf, Cond.instanceMethod yX4_voteOf, Cond.selects RX4 yX4_voteOf yX4_voteOf, Cond.code yX4_voteOf cX4_voteOf 8 (some .int), Cond.methodLink RX4 175 yX4_mindsNow, Cond.instanceMethod yX4_mindsNow, Cond.selects RX4 yX4_mindsNow yX4_mindsNow, Cond.code yX4_mindsNow cX4_mindsNow 2 (some .int), Cond.fieldLink RX4 19 "LeeVanesModel" "wardIn" "[I", Cond.methodLink RX4 158 yX4_mindsOfOne, Cond.instanceMethod yX4_mindsOfOne, Cond.selects RX4 yX4_mindsOfOne yX4_mindsOfOne, Cond.code yX4_mindsOfOne cX4_mindsOfOne 3 (some .int), Cond.fieldLink RX4 25 "LeeVanesModel" "noseOf" "[I", Cond.fieldLink RX4 22 "LeeVanesModel" "kindOf" "[I", Cond.methodLink RX4 172 yX4_smellOf, Cond.instanceMethod yX4_smellOf, Cond.selects RX4 yX4_smellOf yX4_smellOf, Cond.code yX4_smellOf cX4_smellOf 7 (some .int), Cond.fieldLink RX4 149 "LeeVanesModel" "lawNow" "I", Cond.methodLink RX4 166 yX4_comesTo, Cond.instanceMethod yX4_comesTo, Cond.selects RX4 yX4_comesTo yX4_comesTo, Cond.code yX4_comesTo cX4_comesTo 7 (some .int)]
def wsX4_round_r3 : List Cond := [Cond.fieldLink RX4 77 "LeeVanesModel" "wide" "I", Cond.fieldLink RX4 7 "LeeVanesModel" "workIn" "[I", Cond.fieldLink RX4 13 "LeeVanesModel" "strongOf" "[I", Cond.methodLink RX4 185 yX4_turnAll, Cond.instanceMethod yX4_turnAll, Cond.selects RX4 yX4_turnAll yX4_turnAll, Cond.code yX4_turnAll cX4_turnAll 4 none]
def wsX4_round : List Cond := .code yX4_round cX4_round 5 (some .int) :: ((wsX4_round_r1 ++ (wsX4_round_r2 ++ wsX4_round_r3)) ++ wsX40)
def wsX4_mostMinded_r1 : List Cond := [Cond.fieldLink RX4 87 "LeeVanesModel" "wards" "I", Cond.methodLink RX4 175 yX4_mindsNow, Cond.instanceMethod yX4_mindsNow, Cond.selects RX4 yX4_mindsNow yX4_mindsNow, Cond.initialized RX4, Cond.code yX4_mindsNow cX4_mindsNow 2 (some .int), Cond.fieldLink RX4 19 "LeeVanesModel" "wardIn" "[I", Cond.methodLink RX4 158 yX4_mindsOfOne, Cond.instanceMethod yX4_mindsOfOne, Cond.selects RX4 yX4_mindsOfOne yX4_mindsOfOne, Cond.code yX4_mindsOfOne cX4_mindsOfOne 3 (some .int), Cond.fieldLink RX4 25 "LeeVanesModel" "noseOf" "[I", Cond.fieldLink RX4 22 "LeeVanesModel" "kindOf" "[I", Cond.methodLink RX4 172 yX4_smellOf, Cond.instanceMethod yX4_smellOf, Cond.selects RX4 yX4_smellOf yX4_smellOf, Cond.code yX4_smellOf cX4_smellOf 7 (some .int), Cond.fieldLink RX4 84 "LeeVanesModel" "works" "I", Cond.fieldLink RX4 149 "LeeVanesModel" "lawNow" "I", Cond.methodLink RX4 166 yX4_comesTo, Cond.instanceMethod yX4_comesTo, Cond.selects RX4 yX4_comesTo yX4_comesTo, Cond.code yX4_comesTo cX4_comesTo 7 (some .int), Cond.fieldLink RX4 77 "LeeVanesModel" "wide" "I"]
def wsX4_mostMinded_r2 : List Cond := [Cond.fieldLink RX4 7 "LeeVanesModel" "workIn" "[I", Cond.fieldLink RX4 16 "LeeVanesModel" "vaneOf" "[I", Cond.fieldLink RX4 13 "LeeVanesModel" "strongOf" "[I"]
def wsX4_mostMinded : List Cond := .code yX4_mostMinded cX4_mostMinded 3 (some .int) :: ((wsX4_mostMinded_r1 ++ wsX4_mostMinded_r2) ++ wsX40)
def wsX4_leastRow_r1 : List Cond := [Cond.fieldLink RX4 202 "LeeVanesModel" "leastIs" "I", Cond.methodLink RX4 182 yX4_vanesNow, Cond.instanceMethod yX4_vanesNow, Cond.selects RX4 yX4_vanesNow yX4_vanesNow, Cond.initialized RX4, Cond.code yX4_vanesNow cX4_vanesNow 3 (some .int), Cond.fieldLink RX4 84 "LeeVanesModel" "works" "I", Cond.fieldLink RX4 16 "LeeVanesModel" "vaneOf" "[I", Cond.methodLink RX4 205 yX4_rows, Cond.instanceMethod yX4_rows, Cond.selects RX4 yX4_rows yX4_rows, Cond.code yX4_rows cX4_rows 3 (some .int), Cond.methodLink RX4 185 yX4_turnAll, Cond.instanceMethod yX4_turnAll, Cond.selects RX4 yX4_turnAll yX4_turnAll, Cond.code yX4_turnAll cX4_turnAll 4 none, Cond.methodLink RX4 178 yX4_burdenNow, Cond.instanceMethod yX4_burdenNow, Cond.selects RX4 yX4_burdenNow yX4_burdenNow, Cond.code yX4_burdenNow cX4_burdenNow 3 (some .int), Cond.fieldLink RX4 87 "LeeVanesModel" "wards" "I", Cond.methodLink RX4 175 yX4_mindsNow, Cond.instanceMethod yX4_mindsNow, Cond.selects RX4 yX4_mindsNow yX4_mindsNow]
def wsX4_leastRow_r2 : List Cond := [Cond.code yX4_mindsNow cX4_mindsNow 2 (some .int), Cond.fieldLink RX4 19 "LeeVanesModel" "wardIn" "[I", Cond.methodLink RX4 158 yX4_mindsOfOne, Cond.instanceMethod yX4_mindsOfOne, Cond.selects RX4 yX4_mindsOfOne yX4_mindsOfOne, Cond.code yX4_mindsOfOne cX4_mindsOfOne 3 (some .int), Cond.fieldLink RX4 25 "LeeVanesModel" "noseOf" "[I", Cond.fieldLink RX4 22 "LeeVanesModel" "kindOf" "[I", Cond.methodLink RX4 172 yX4_smellOf, Cond.instanceMethod yX4_smellOf, Cond.selects RX4 yX4_smellOf yX4_smellOf, Cond.code yX4_smellOf cX4_smellOf 7 (some .int), Cond.fieldLink RX4 149 "LeeVanesModel" "lawNow" "I", Cond.methodLink RX4 166 yX4_comesTo, Cond.instanceMethod yX4_comesTo, Cond.selects RX4 yX4_comesTo yX4_comesTo, Cond.code yX4_comesTo cX4_comesTo 7 (some .int), Cond.fieldLink RX4 77 "LeeVanesModel" "wide" "I", Cond.fieldLink RX4 7 "LeeVanesModel" "workIn" "[I", Cond.fieldLink RX4 13 "LeeVanesModel" "strongOf" "[I", Cond.methodLink RX4 208 yX4_mostMinded, Cond.instanceMethod yX4_mostMinded, Cond.selects RX4 yX4_mostMinded yX4_mostMinded, Cond.code yX4_mostMinded cX4_mostMinded 3 (some .int)]
def wsX4_leastRow : List Cond := .code yX4_leastRow cX4_leastRow 6 (some .int) :: ((wsX4_leastRow_r1 ++ wsX4_leastRow_r2) ++ wsX40)
def wsX4_vaneIn : List Cond := .code yX4_vaneIn cX4_vaneIn 5 (some .int) :: ([.fieldLink RX4 84 "LeeVanesModel" "works" "I"] ++ wsX40)
def wsX4_best_r1 : List Cond := [Cond.fieldLink RX4 74 "LeeVanesModel" "high" "I", Cond.fieldLink RX4 202 "LeeVanesModel" "leastIs" "I", Cond.methodLink RX4 211 yX4_leastRow, Cond.instanceMethod yX4_leastRow, Cond.selects RX4 yX4_leastRow yX4_leastRow, Cond.initialized RX4, Cond.code yX4_leastRow cX4_leastRow 6 (some .int), Cond.methodLink RX4 182 yX4_vanesNow, Cond.instanceMethod yX4_vanesNow, Cond.selects RX4 yX4_vanesNow yX4_vanesNow, Cond.code yX4_vanesNow cX4_vanesNow 3 (some .int), Cond.fieldLink RX4 84 "LeeVanesModel" "works" "I", Cond.fieldLink RX4 16 "LeeVanesModel" "vaneOf" "[I", Cond.methodLink RX4 205 yX4_rows, Cond.instanceMethod yX4_rows, Cond.selects RX4 yX4_rows yX4_rows, Cond.code yX4_rows cX4_rows 3 (some .int), Cond.methodLink RX4 185 yX4_turnAll, Cond.instanceMethod yX4_turnAll, Cond.selects RX4 yX4_turnAll yX4_turnAll, Cond.code yX4_turnAll cX4_turnAll 4 none, Cond.methodLink RX4 178 yX4_burdenNow, Cond.instanceMethod yX4_burdenNow, Cond.selects RX4 yX4_burdenNow yX4_burdenNow]
def wsX4_best_r2 : List Cond := [Cond.code yX4_burdenNow cX4_burdenNow 3 (some .int), Cond.fieldLink RX4 87 "LeeVanesModel" "wards" "I", Cond.methodLink RX4 175 yX4_mindsNow, Cond.instanceMethod yX4_mindsNow, Cond.selects RX4 yX4_mindsNow yX4_mindsNow, Cond.code yX4_mindsNow cX4_mindsNow 2 (some .int), Cond.fieldLink RX4 19 "LeeVanesModel" "wardIn" "[I", Cond.methodLink RX4 158 yX4_mindsOfOne, Cond.instanceMethod yX4_mindsOfOne, Cond.selects RX4 yX4_mindsOfOne yX4_mindsOfOne, Cond.code yX4_mindsOfOne cX4_mindsOfOne 3 (some .int), Cond.fieldLink RX4 25 "LeeVanesModel" "noseOf" "[I", Cond.fieldLink RX4 22 "LeeVanesModel" "kindOf" "[I", Cond.methodLink RX4 172 yX4_smellOf, Cond.instanceMethod yX4_smellOf, Cond.selects RX4 yX4_smellOf yX4_smellOf, Cond.code yX4_smellOf cX4_smellOf 7 (some .int), Cond.fieldLink RX4 149 "LeeVanesModel" "lawNow" "I", Cond.methodLink RX4 166 yX4_comesTo, Cond.instanceMethod yX4_comesTo, Cond.selects RX4 yX4_comesTo yX4_comesTo, Cond.code yX4_comesTo cX4_comesTo 7 (some .int), Cond.fieldLink RX4 77 "LeeVanesModel" "wide" "I", Cond.fieldLink RX4 7 "LeeVanesModel" "workIn" "[I"]
def wsX4_best_r3 : List Cond := [Cond.fieldLink RX4 13 "LeeVanesModel" "strongOf" "[I", Cond.methodLink RX4 208 yX4_mostMinded, Cond.instanceMethod yX4_mostMinded, Cond.selects RX4 yX4_mostMinded yX4_mostMinded, Cond.code yX4_mostMinded cX4_mostMinded 3 (some .int), Cond.methodLink RX4 161 yX4_noWork, Cond.instanceMethod yX4_noWork, Cond.selects RX4 yX4_noWork yX4_noWork, Cond.code yX4_noWork cX4_noWork 2 (some .boolean), Cond.methodLink RX4 80 yX4_in, Cond.static yX4_in, Cond.code yX4_in cX4_in 6 (some .boolean), Cond.methodLink RX4 215 yX4_vaneIn, Cond.instanceMethod yX4_vaneIn, Cond.selects RX4 yX4_vaneIn yX4_vaneIn, Cond.code yX4_vaneIn cX4_vaneIn 5 (some .int)]
def wsX4_best : List Cond := .code yX4_best cX4_best 3 (some .int) :: ((wsX4_best_r1 ++ (wsX4_best_r2 ++ wsX4_best_r3)) ++ wsX40)
def wsX4_calm_r1 : List Cond := [Cond.fieldLink RX4 74 "LeeVanesModel" "high" "I", Cond.fieldLink RX4 202 "LeeVanesModel" "leastIs" "I", Cond.methodLink RX4 211 yX4_leastRow, Cond.instanceMethod yX4_leastRow, Cond.selects RX4 yX4_leastRow yX4_leastRow, Cond.initialized RX4, Cond.code yX4_leastRow cX4_leastRow 6 (some .int), Cond.methodLink RX4 182 yX4_vanesNow, Cond.instanceMethod yX4_vanesNow, Cond.selects RX4 yX4_vanesNow yX4_vanesNow, Cond.code yX4_vanesNow cX4_vanesNow 3 (some .int), Cond.fieldLink RX4 84 "LeeVanesModel" "works" "I", Cond.fieldLink RX4 16 "LeeVanesModel" "vaneOf" "[I", Cond.methodLink RX4 205 yX4_rows, Cond.instanceMethod yX4_rows, Cond.selects RX4 yX4_rows yX4_rows, Cond.code yX4_rows cX4_rows 3 (some .int), Cond.methodLink RX4 185 yX4_turnAll, Cond.instanceMethod yX4_turnAll, Cond.selects RX4 yX4_turnAll yX4_turnAll, Cond.code yX4_turnAll cX4_turnAll 4 none, Cond.methodLink RX4 178 yX4_burdenNow, Cond.instanceMethod yX4_burdenNow, Cond.selects RX4 yX4_burdenNow yX4_burdenNow]
def wsX4_calm_r2 : List Cond := [Cond.code yX4_burdenNow cX4_burdenNow 3 (some .int), Cond.fieldLink RX4 87 "LeeVanesModel" "wards" "I", Cond.methodLink RX4 175 yX4_mindsNow, Cond.instanceMethod yX4_mindsNow, Cond.selects RX4 yX4_mindsNow yX4_mindsNow, Cond.code yX4_mindsNow cX4_mindsNow 2 (some .int), Cond.fieldLink RX4 19 "LeeVanesModel" "wardIn" "[I", Cond.methodLink RX4 158 yX4_mindsOfOne, Cond.instanceMethod yX4_mindsOfOne, Cond.selects RX4 yX4_mindsOfOne yX4_mindsOfOne, Cond.code yX4_mindsOfOne cX4_mindsOfOne 3 (some .int), Cond.fieldLink RX4 25 "LeeVanesModel" "noseOf" "[I", Cond.fieldLink RX4 22 "LeeVanesModel" "kindOf" "[I", Cond.methodLink RX4 172 yX4_smellOf, Cond.instanceMethod yX4_smellOf, Cond.selects RX4 yX4_smellOf yX4_smellOf, Cond.code yX4_smellOf cX4_smellOf 7 (some .int), Cond.fieldLink RX4 149 "LeeVanesModel" "lawNow" "I", Cond.methodLink RX4 166 yX4_comesTo, Cond.instanceMethod yX4_comesTo, Cond.selects RX4 yX4_comesTo yX4_comesTo, Cond.code yX4_comesTo cX4_comesTo 7 (some .int), Cond.fieldLink RX4 77 "LeeVanesModel" "wide" "I", Cond.fieldLink RX4 7 "LeeVanesModel" "workIn" "[I"]
def wsX4_calm_r3 : List Cond := [Cond.fieldLink RX4 13 "LeeVanesModel" "strongOf" "[I", Cond.methodLink RX4 208 yX4_mostMinded, Cond.instanceMethod yX4_mostMinded, Cond.selects RX4 yX4_mostMinded yX4_mostMinded, Cond.code yX4_mostMinded cX4_mostMinded 3 (some .int), Cond.methodLink RX4 161 yX4_noWork, Cond.instanceMethod yX4_noWork, Cond.selects RX4 yX4_noWork yX4_noWork, Cond.code yX4_noWork cX4_noWork 2 (some .boolean), Cond.methodLink RX4 80 yX4_in, Cond.static yX4_in, Cond.code yX4_in cX4_in 6 (some .boolean), Cond.methodLink RX4 215 yX4_vaneIn, Cond.instanceMethod yX4_vaneIn, Cond.selects RX4 yX4_vaneIn yX4_vaneIn, Cond.code yX4_vaneIn cX4_vaneIn 5 (some .int)]
def wsX4_calm : List Cond := .code yX4_calm cX4_calm 3 (some .int) :: ((wsX4_calm_r1 ++ (wsX4_calm_r2 ++ wsX4_calm_r3)) ++ wsX40)
def wsX4_bribe_r1 : List Cond := [Cond.constantLong RX4 164 (3), Cond.fieldLink RX4 87 "LeeVanesModel" "wards" "I", Cond.methodLink RX4 161 yX4_noWork, Cond.instanceMethod yX4_noWork, Cond.selects RX4 yX4_noWork yX4_noWork, Cond.initialized RX4, Cond.code yX4_noWork cX4_noWork 2 (some .boolean), Cond.fieldLink RX4 84 "LeeVanesModel" "works" "I", Cond.methodLink RX4 80 yX4_in, Cond.static yX4_in, Cond.code yX4_in cX4_in 6 (some .boolean), Cond.methodLink RX4 218 yX4_bits, Cond.static yX4_bits, Cond.code yX4_bits cX4_bits 3 (some .int), Cond.methodLink RX4 195 yX4_winsBy, Cond.instanceMethod yX4_winsBy, Cond.selects RX4 yX4_winsBy yX4_winsBy, Cond.code yX4_winsBy cX4_winsBy 10 (some .int), Cond.methodLink RX4 192 yX4_isIn, Cond.static yX4_isIn, Cond.code yX4_isIn cX4_isIn 2 (some .boolean), Cond.methodLink RX4 189 yX4_voteOf, Cond.instanceMethod yX4_voteOf, Cond.selects RX4 yX4_voteOf yX4_voteOf]
def wsX4_bribe_r2 : List Cond := [Cond.code yX4_voteOf cX4_voteOf 8 (some .int), Cond.fieldLink RX4 16 "LeeVanesModel" "vaneOf" "[I", Cond.methodLink RX4 175 yX4_mindsNow, Cond.instanceMethod yX4_mindsNow, Cond.selects RX4 yX4_mindsNow yX4_mindsNow, Cond.code yX4_mindsNow cX4_mindsNow 2 (some .int), Cond.fieldLink RX4 19 "LeeVanesModel" "wardIn" "[I", Cond.methodLink RX4 158 yX4_mindsOfOne, Cond.instanceMethod yX4_mindsOfOne, Cond.selects RX4 yX4_mindsOfOne yX4_mindsOfOne, Cond.code yX4_mindsOfOne cX4_mindsOfOne 3 (some .int), Cond.fieldLink RX4 25 "LeeVanesModel" "noseOf" "[I", Cond.fieldLink RX4 22 "LeeVanesModel" "kindOf" "[I", Cond.methodLink RX4 172 yX4_smellOf, Cond.instanceMethod yX4_smellOf, Cond.selects RX4 yX4_smellOf yX4_smellOf, Cond.code yX4_smellOf cX4_smellOf 7 (some .int), Cond.fieldLink RX4 149 "LeeVanesModel" "lawNow" "I", Cond.methodLink RX4 166 yX4_comesTo, Cond.instanceMethod yX4_comesTo, Cond.selects RX4 yX4_comesTo yX4_comesTo, Cond.code yX4_comesTo cX4_comesTo 7 (some .int), Cond.fieldLink RX4 77 "LeeVanesModel" "wide" "I", Cond.fieldLink RX4 7 "LeeVanesModel" "workIn" "[I"]
def wsX4_bribe_r3 : List Cond := [Cond.fieldLink RX4 13 "LeeVanesModel" "strongOf" "[I"]
def wsX4_bribe : List Cond := .code yX4_bribe cX4_bribe 5 (some .int) :: ((wsX4_bribe_r1 ++ (wsX4_bribe_r2 ++ wsX4_bribe_r3)) ++ wsX40)
def wsX4_reading : List Cond := .code yX4_reading cX4_reading 3 (some .int) :: ([.constantLong RX4 221 (99), .fieldLink RX4 152 "LeeVanesModel" "readings" "I", .fieldLink RX4 46 "LeeVanesModel" "readingOf" "[I", .fieldLink RX4 49 "LeeVanesModel" "readingSmell" "[I", .methodLink RX4 169 yX4_noSpot, .instanceMethod yX4_noSpot, .selects RX4 yX4_noSpot yX4_noSpot, .initialized RX4, .code yX4_noSpot cX4_noSpot 2 (some .boolean), .fieldLink RX4 74 "LeeVanesModel" "high" "I", .fieldLink RX4 77 "LeeVanesModel" "wide" "I", .methodLink RX4 80 yX4_in, .static yX4_in, .code yX4_in cX4_in 6 (some .boolean)] ++ wsX40)
def wsX4_back : List Cond := .code yX4_back cX4_back 2 (some .int) :: ([.fieldLink RX4 152 "LeeVanesModel" "readings" "I", .methodLink RX4 80 yX4_in, .static yX4_in, .initialized RX4, .code yX4_in cX4_in 6 (some .boolean)] ++ wsX40)
def wsX4_areSo : List Cond := .code yX4_areSo cX4_areSo 3 (some .boolean) :: ([.fieldLink RX4 152 "LeeVanesModel" "readings" "I", .fieldLink RX4 46 "LeeVanesModel" "readingOf" "[I", .fieldLink RX4 49 "LeeVanesModel" "readingSmell" "[I", .methodLink RX4 172 yX4_smellOf, .instanceMethod yX4_smellOf, .selects RX4 yX4_smellOf yX4_smellOf, .initialized RX4, .code yX4_smellOf cX4_smellOf 7 (some .int), .fieldLink RX4 84 "LeeVanesModel" "works" "I", .fieldLink RX4 149 "LeeVanesModel" "lawNow" "I", .methodLink RX4 166 yX4_comesTo, .instanceMethod yX4_comesTo, .selects RX4 yX4_comesTo yX4_comesTo, .code yX4_comesTo cX4_comesTo 7 (some .int), .fieldLink RX4 77 "LeeVanesModel" "wide" "I", .fieldLink RX4 7 "LeeVanesModel" "workIn" "[I", .fieldLink RX4 16 "LeeVanesModel" "vaneOf" "[I", .fieldLink RX4 13 "LeeVanesModel" "strongOf" "[I"] ++ wsX40)
def wsX4_settings_r1 : List Cond := [Cond.fieldLink RX4 74 "LeeVanesModel" "high" "I", Cond.methodLink RX4 182 yX4_vanesNow, Cond.instanceMethod yX4_vanesNow, Cond.selects RX4 yX4_vanesNow yX4_vanesNow, Cond.initialized RX4, Cond.code yX4_vanesNow cX4_vanesNow 3 (some .int), Cond.fieldLink RX4 84 "LeeVanesModel" "works" "I", Cond.fieldLink RX4 16 "LeeVanesModel" "vaneOf" "[I", Cond.methodLink RX4 205 yX4_rows, Cond.instanceMethod yX4_rows, Cond.selects RX4 yX4_rows yX4_rows, Cond.code yX4_rows cX4_rows 3 (some .int), Cond.methodLink RX4 185 yX4_turnAll, Cond.instanceMethod yX4_turnAll, Cond.selects RX4 yX4_turnAll yX4_turnAll, Cond.code yX4_turnAll cX4_turnAll 4 none, Cond.methodLink RX4 223 yX4_areSo, Cond.instanceMethod yX4_areSo, Cond.selects RX4 yX4_areSo yX4_areSo, Cond.code yX4_areSo cX4_areSo 3 (some .boolean), Cond.fieldLink RX4 152 "LeeVanesModel" "readings" "I", Cond.fieldLink RX4 46 "LeeVanesModel" "readingOf" "[I", Cond.fieldLink RX4 49 "LeeVanesModel" "readingSmell" "[I", Cond.methodLink RX4 172 yX4_smellOf]
def wsX4_settings_r2 : List Cond := [Cond.instanceMethod yX4_smellOf, Cond.selects RX4 yX4_smellOf yX4_smellOf, Cond.code yX4_smellOf cX4_smellOf 7 (some .int), Cond.fieldLink RX4 149 "LeeVanesModel" "lawNow" "I", Cond.methodLink RX4 166 yX4_comesTo, Cond.instanceMethod yX4_comesTo, Cond.selects RX4 yX4_comesTo yX4_comesTo, Cond.code yX4_comesTo cX4_comesTo 7 (some .int), Cond.fieldLink RX4 77 "LeeVanesModel" "wide" "I", Cond.fieldLink RX4 7 "LeeVanesModel" "workIn" "[I", Cond.fieldLink RX4 13 "LeeVanesModel" "strongOf" "[I", Cond.methodLink RX4 161 yX4_noWork, Cond.instanceMethod yX4_noWork, Cond.selects RX4 yX4_noWork yX4_noWork, Cond.code yX4_noWork cX4_noWork 2 (some .boolean), Cond.methodLink RX4 80 yX4_in, Cond.static yX4_in, Cond.code yX4_in cX4_in 6 (some .boolean), Cond.methodLink RX4 215 yX4_vaneIn, Cond.instanceMethod yX4_vaneIn, Cond.selects RX4 yX4_vaneIn yX4_vaneIn, Cond.code yX4_vaneIn cX4_vaneIn 5 (some .int)]
def wsX4_settings : List Cond := .code yX4_settings cX4_settings 6 (some .int) :: ((wsX4_settings_r1 ++ wsX4_settings_r2) ++ wsX40)
def wsX4_laws : List Cond := .code yX4_laws cX4_laws 4 (some .int) :: ([.fieldLink RX4 74 "LeeVanesModel" "high" "I", .fieldLink RX4 149 "LeeVanesModel" "lawNow" "I", .methodLink RX4 223 yX4_areSo, .instanceMethod yX4_areSo, .selects RX4 yX4_areSo yX4_areSo, .initialized RX4, .code yX4_areSo cX4_areSo 3 (some .boolean), .fieldLink RX4 152 "LeeVanesModel" "readings" "I", .fieldLink RX4 46 "LeeVanesModel" "readingOf" "[I", .fieldLink RX4 49 "LeeVanesModel" "readingSmell" "[I", .methodLink RX4 172 yX4_smellOf, .instanceMethod yX4_smellOf, .selects RX4 yX4_smellOf yX4_smellOf, .code yX4_smellOf cX4_smellOf 7 (some .int), .fieldLink RX4 84 "LeeVanesModel" "works" "I", .methodLink RX4 166 yX4_comesTo, .instanceMethod yX4_comesTo, .selects RX4 yX4_comesTo yX4_comesTo, .code yX4_comesTo cX4_comesTo 7 (some .int), .fieldLink RX4 77 "LeeVanesModel" "wide" "I", .fieldLink RX4 7 "LeeVanesModel" "workIn" "[I", .fieldLink RX4 16 "LeeVanesModel" "vaneOf" "[I", .fieldLink RX4 13 "LeeVanesModel" "strongOf" "[I"] ++ wsX40)
def wsX4_powers_r1 : List Cond := [Cond.fieldLink RX4 13 "LeeVanesModel" "strongOf" "[I", Cond.methodLink RX4 161 yX4_noWork, Cond.instanceMethod yX4_noWork, Cond.selects RX4 yX4_noWork yX4_noWork, Cond.initialized RX4, Cond.code yX4_noWork cX4_noWork 2 (some .boolean), Cond.fieldLink RX4 84 "LeeVanesModel" "works" "I", Cond.methodLink RX4 80 yX4_in, Cond.static yX4_in, Cond.code yX4_in cX4_in 6 (some .boolean), Cond.methodLink RX4 223 yX4_areSo, Cond.instanceMethod yX4_areSo, Cond.selects RX4 yX4_areSo yX4_areSo, Cond.code yX4_areSo cX4_areSo 3 (some .boolean), Cond.fieldLink RX4 152 "LeeVanesModel" "readings" "I", Cond.fieldLink RX4 46 "LeeVanesModel" "readingOf" "[I", Cond.fieldLink RX4 49 "LeeVanesModel" "readingSmell" "[I", Cond.methodLink RX4 172 yX4_smellOf, Cond.instanceMethod yX4_smellOf, Cond.selects RX4 yX4_smellOf yX4_smellOf, Cond.code yX4_smellOf cX4_smellOf 7 (some .int), Cond.fieldLink RX4 149 "LeeVanesModel" "lawNow" "I", Cond.methodLink RX4 166 yX4_comesTo, Cond.instanceMethod yX4_comesTo]
def wsX4_powers_r2 : List Cond := [Cond.selects RX4 yX4_comesTo yX4_comesTo, Cond.code yX4_comesTo cX4_comesTo 7 (some .int), Cond.fieldLink RX4 77 "LeeVanesModel" "wide" "I", Cond.fieldLink RX4 7 "LeeVanesModel" "workIn" "[I", Cond.fieldLink RX4 16 "LeeVanesModel" "vaneOf" "[I"]
def wsX4_powers : List Cond := .code yX4_powers cX4_powers 5 (some .int) :: ((wsX4_powers_r1 ++ wsX4_powers_r2) ++ wsX40)
def wsX4_odds_r1 : List Cond := [Cond.constantLong RX4 221 (99), Cond.methodLink RX4 169 yX4_noSpot, Cond.instanceMethod yX4_noSpot, Cond.selects RX4 yX4_noSpot yX4_noSpot, Cond.initialized RX4, Cond.code yX4_noSpot cX4_noSpot 2 (some .boolean), Cond.fieldLink RX4 74 "LeeVanesModel" "high" "I", Cond.fieldLink RX4 77 "LeeVanesModel" "wide" "I", Cond.methodLink RX4 80 yX4_in, Cond.static yX4_in, Cond.code yX4_in cX4_in 6 (some .boolean), Cond.methodLink RX4 70 yX4_lost, Cond.static yX4_lost, Cond.code yX4_lost cX4_lost 0 (some .long), Cond.constantLong RX4 64 (-9223372036854775808), Cond.methodLink RX4 182 yX4_vanesNow, Cond.instanceMethod yX4_vanesNow, Cond.selects RX4 yX4_vanesNow yX4_vanesNow, Cond.code yX4_vanesNow cX4_vanesNow 3 (some .int), Cond.fieldLink RX4 84 "LeeVanesModel" "works" "I", Cond.fieldLink RX4 16 "LeeVanesModel" "vaneOf" "[I", Cond.methodLink RX4 205 yX4_rows, Cond.instanceMethod yX4_rows, Cond.selects RX4 yX4_rows yX4_rows]
def wsX4_odds_r2 : List Cond := [Cond.code yX4_rows cX4_rows 3 (some .int), Cond.methodLink RX4 185 yX4_turnAll, Cond.instanceMethod yX4_turnAll, Cond.selects RX4 yX4_turnAll yX4_turnAll, Cond.code yX4_turnAll cX4_turnAll 4 none, Cond.methodLink RX4 172 yX4_smellOf, Cond.instanceMethod yX4_smellOf, Cond.selects RX4 yX4_smellOf yX4_smellOf, Cond.code yX4_smellOf cX4_smellOf 7 (some .int), Cond.fieldLink RX4 149 "LeeVanesModel" "lawNow" "I", Cond.methodLink RX4 166 yX4_comesTo, Cond.instanceMethod yX4_comesTo, Cond.selects RX4 yX4_comesTo yX4_comesTo, Cond.code yX4_comesTo cX4_comesTo 7 (some .int), Cond.fieldLink RX4 7 "LeeVanesModel" "workIn" "[I", Cond.fieldLink RX4 13 "LeeVanesModel" "strongOf" "[I", Cond.methodLink RX4 227 yX4_share, Cond.static yX4_share, Cond.code yX4_share cX4_share 11 (some .long)]
def wsX4_odds : List Cond := .code yX4_odds cX4_odds 8 (some .long) :: ((wsX4_odds_r1 ++ wsX4_odds_r2) ++ wsX40)
def wsX4_sheet : List Cond := .code yX4_sheet cX4_sheet 5 (some .int) :: ([.constantLong RX4 139 (2), .fieldLink RX4 52 "LeeVanesModel" "sheetSize" "[I", .fieldLink RX4 55 "LeeVanesModel" "sheetLane" "[I", .fieldLink RX4 58 "LeeVanesModel" "sheet" "[I", .methodLink RX4 132 yX4_noSheet, .static yX4_noSheet, .initialized RX4, .code yX4_noSheet cX4_noSheet 1 (some .boolean), .constantLong RX4 164 (3), .methodLink RX4 80 yX4_in, .static yX4_in, .code yX4_in cX4_in 6 (some .boolean), .methodLink RX4 136 yX4_refused, .instanceMethod yX4_refused, .selects RX4 yX4_refused yX4_refused, .code yX4_refused cX4_refused 2 (some .int), .fieldLink RX4 66 "LeeVanesModel" "fault" "I", .methodLink RX4 124 yX4_failed, .instanceMethod yX4_failed, .selects RX4 yX4_failed yX4_failed, .code yX4_failed cX4_failed 2 (some .int)] ++ wsX40)
def wsX4_lose : List Cond := .code yX4_lose cX4_lose 3 (some .int) :: ([.fieldLink RX4 52 "LeeVanesModel" "sheetSize" "[I", .methodLink RX4 132 yX4_noSheet, .static yX4_noSheet, .initialized RX4, .code yX4_noSheet cX4_noSheet 1 (some .boolean), .constantLong RX4 164 (3), .methodLink RX4 80 yX4_in, .static yX4_in, .code yX4_in cX4_in 6 (some .boolean)] ++ wsX40)
def wsX4_noCell : List Cond := .code yX4_noCell cX4_noCell 3 (some .int) :: ([.fieldLink RX4 52 "LeeVanesModel" "sheetSize" "[I", .methodLink RX4 80 yX4_in, .static yX4_in, .initialized RX4, .code yX4_in cX4_in 6 (some .boolean)] ++ wsX40)
def wsX4_put : List Cond := .code yX4_put cX4_put 4 (some .int) :: ([.fieldLink RX4 58 "LeeVanesModel" "sheet" "[I", .fieldLink RX4 55 "LeeVanesModel" "sheetLane" "[I", .methodLink RX4 132 yX4_noSheet, .static yX4_noSheet, .initialized RX4, .code yX4_noSheet cX4_noSheet 1 (some .boolean), .constantLong RX4 164 (3), .methodLink RX4 80 yX4_in, .static yX4_in, .code yX4_in cX4_in 6 (some .boolean), .methodLink RX4 136 yX4_refused, .instanceMethod yX4_refused, .selects RX4 yX4_refused yX4_refused, .code yX4_refused cX4_refused 2 (some .int), .fieldLink RX4 66 "LeeVanesModel" "fault" "I", .methodLink RX4 231 yX4_noCell, .instanceMethod yX4_noCell, .selects RX4 yX4_noCell yX4_noCell, .code yX4_noCell cX4_noCell 3 (some .int), .fieldLink RX4 52 "LeeVanesModel" "sheetSize" "[I", .methodLink RX4 124 yX4_failed, .instanceMethod yX4_failed, .selects RX4 yX4_failed yX4_failed, .code yX4_failed cX4_failed 2 (some .int)] ++ wsX40)
def wsX4_cell_r1 : List Cond := [Cond.fieldLink RX4 66 "LeeVanesModel" "fault" "I", Cond.constantLong RX4 139 (2), Cond.fieldLink RX4 52 "LeeVanesModel" "sheetSize" "[I", Cond.fieldLink RX4 55 "LeeVanesModel" "sheetLane" "[I", Cond.fieldLink RX4 58 "LeeVanesModel" "sheet" "[I", Cond.methodLink RX4 132 yX4_noSheet, Cond.static yX4_noSheet, Cond.initialized RX4, Cond.code yX4_noSheet cX4_noSheet 1 (some .boolean), Cond.constantLong RX4 164 (3), Cond.methodLink RX4 80 yX4_in, Cond.static yX4_in, Cond.code yX4_in cX4_in 6 (some .boolean), Cond.methodLink RX4 70 yX4_lost, Cond.static yX4_lost, Cond.code yX4_lost cX4_lost 0 (some .long), Cond.constantLong RX4 64 (-9223372036854775808), Cond.methodLink RX4 234 yX4_failedLong, Cond.instanceMethod yX4_failedLong, Cond.selects RX4 yX4_failedLong yX4_failedLong, Cond.code yX4_failedLong cX4_failedLong 2 (some .long), Cond.methodLink RX4 231 yX4_noCell, Cond.instanceMethod yX4_noCell, Cond.selects RX4 yX4_noCell yX4_noCell]
def wsX4_cell_r2 : List Cond := [Cond.code yX4_noCell cX4_noCell 3 (some .int)]
def wsX4_cell : List Cond := .code yX4_cell cX4_cell 4 (some .long) :: ((wsX4_cell_r1 ++ wsX4_cell_r2) ++ wsX40)
def wsX4_copy : List Cond := .code yX4_copy cX4_copy 7 (some .int) :: ([.fieldLink RX4 52 "LeeVanesModel" "sheetSize" "[I", .fieldLink RX4 55 "LeeVanesModel" "sheetLane" "[I", .fieldLink RX4 61 "LeeVanesModel" "hands" "[I", .fieldLink RX4 58 "LeeVanesModel" "sheet" "[I", .methodLink RX4 132 yX4_noSheet, .static yX4_noSheet, .initialized RX4, .code yX4_noSheet cX4_noSheet 1 (some .boolean), .constantLong RX4 164 (3), .methodLink RX4 80 yX4_in, .static yX4_in, .code yX4_in cX4_in 6 (some .boolean), .methodLink RX4 136 yX4_refused, .instanceMethod yX4_refused, .selects RX4 yX4_refused yX4_refused, .code yX4_refused cX4_refused 2 (some .int), .fieldLink RX4 66 "LeeVanesModel" "fault" "I", .methodLink RX4 124 yX4_failed, .instanceMethod yX4_failed, .selects RX4 yX4_failed yX4_failed, .code yX4_failed cX4_failed 2 (some .int), .methodLink RX4 128 yX4_isBeyond, .static yX4_isBeyond, .code yX4_isBeyond cX4_isBeyond 4 (some .boolean)] ++ wsX40)
def wsX4_traced : List Cond := .code yX4_traced cX4_traced 2 none :: ([.fieldLink RX4 238 "LeeVanesModel" "traceNow" "I"] ++ wsX40)
def wsX4_tell : List Cond := .code yX4_tell cX4_tell 4 (some .int) :: ([.fieldLink RX4 22 "LeeVanesModel" "kindOf" "[I", .fieldLink RX4 25 "LeeVanesModel" "noseOf" "[I", .methodLink RX4 155 yX4_noWard, .instanceMethod yX4_noWard, .selects RX4 yX4_noWard yX4_noWard, .initialized RX4, .code yX4_noWard cX4_noWard 2 (some .boolean), .fieldLink RX4 87 "LeeVanesModel" "wards" "I", .methodLink RX4 80 yX4_in, .static yX4_in, .code yX4_in cX4_in 6 (some .boolean), .methodLink RX4 241 yX4_traced, .instanceMethod yX4_traced, .selects RX4 yX4_traced yX4_traced, .code yX4_traced cX4_traced 2 none, .fieldLink RX4 238 "LeeVanesModel" "traceNow" "I"] ++ wsX40)
def wsX4_woo : List Cond := .code yX4_woo cX4_woo 2 (some .int) :: ([.fieldLink RX4 22 "LeeVanesModel" "kindOf" "[I", .methodLink RX4 155 yX4_noWard, .instanceMethod yX4_noWard, .selects RX4 yX4_noWard yX4_noWard, .initialized RX4, .code yX4_noWard cX4_noWard 2 (some .boolean), .fieldLink RX4 87 "LeeVanesModel" "wards" "I", .methodLink RX4 80 yX4_in, .static yX4_in, .code yX4_in cX4_in 6 (some .boolean), .methodLink RX4 241 yX4_traced, .instanceMethod yX4_traced, .selects RX4 yX4_traced yX4_traced, .code yX4_traced cX4_traced 2 none, .fieldLink RX4 238 "LeeVanesModel" "traceNow" "I"] ++ wsX40)
def wsX4_as : List Cond := .code yX4_as cX4_as 3 (some .int) :: ([.constantLong RX4 139 (2), .fieldLink RX4 22 "LeeVanesModel" "kindOf" "[I", .methodLink RX4 155 yX4_noWard, .instanceMethod yX4_noWard, .selects RX4 yX4_noWard yX4_noWard, .initialized RX4, .code yX4_noWard cX4_noWard 2 (some .boolean), .fieldLink RX4 87 "LeeVanesModel" "wards" "I", .methodLink RX4 80 yX4_in, .static yX4_in, .code yX4_in cX4_in 6 (some .boolean), .methodLink RX4 136 yX4_refused, .instanceMethod yX4_refused, .selects RX4 yX4_refused yX4_refused, .code yX4_refused cX4_refused 2 (some .int), .fieldLink RX4 66 "LeeVanesModel" "fault" "I", .methodLink RX4 124 yX4_failed, .instanceMethod yX4_failed, .selects RX4 yX4_failed yX4_failed, .code yX4_failed cX4_failed 2 (some .int)] ++ wsX40)
def wsX4_trace : List Cond := .code yX4_trace cX4_trace 1 (some .int) :: ([.fieldLink RX4 238 "LeeVanesModel" "traceNow" "I"] ++ wsX40)
def wsX4_fault : List Cond := .code yX4_fault cX4_fault 1 (some .int) :: ([.fieldLink RX4 66 "LeeVanesModel" "fault" "I"] ++ wsX40)
def wsX4_many : List Cond := .code yX4_many cX4_many 2 (some .int) :: ([.fieldLink RX4 74 "LeeVanesModel" "high" "I", .fieldLink RX4 77 "LeeVanesModel" "wide" "I", .fieldLink RX4 84 "LeeVanesModel" "works" "I", .fieldLink RX4 87 "LeeVanesModel" "wards" "I", .fieldLink RX4 149 "LeeVanesModel" "lawNow" "I", .fieldLink RX4 152 "LeeVanesModel" "readings" "I"] ++ wsX40)
def wsJ9_abs_0f7a4 : List Cond := .code yJ9_abs_0f7a4 cJ9_abs_0f7a4 1 (some .int) :: ([])
def wsJ9_max_7cf53 : List Cond := .code yJ9_max_7cf53 cJ9_max_7cf53 2 (some .int) :: ([])
def wsL_law_r1 : List Cond := [Cond.classLink RL 7 RX3, Cond.instantiable RX3 7, Cond.initialized RX3, Cond.classLink RL 10 RX4, Cond.instantiable RX4 32, Cond.initialized RX4, Cond.methodLink RL 9 yX3_init, Cond.instanceMethod yX3_init, Cond.code yX3_init cX3_init 2 none, Cond.methodLink RX3 3 objectInit, Cond.instanceMethod objectInit, Cond.code objectInit ⟨#[0xb1]⟩ 1 none, Cond.classLink RX3 11 RX0, Cond.fieldLink RX3 13 "LeeVanes" "sheets" "[LLeeVanes$Sheet;", Cond.classLink RX3 17 RX1, Cond.instantiable RX1 3, Cond.initialized RX1, Cond.fieldLink RX3 20 "LeeVanes" "reader" "LLeeVanes$TextReader;", Cond.arrayClass .int, Cond.fieldLink RX3 24 "LeeVanes" "firstYear" "[I", Cond.classLink RX3 28 RX2, Cond.instantiable RX2 18, Cond.initialized RX2, Cond.fieldLink RX3 31 "LeeVanes" "present" "LLeeVanes$Town;"]
def wsL_law_r2 : List Cond := [Cond.fieldLink RX3 35 "LeeVanes" "spare" "LLeeVanes$Town;", Cond.fieldLink RX3 38 "LeeVanes" "traced" "I", Cond.fieldLink RX3 42 "LeeVanes" "lastFault" "I", Cond.instantiable RX0 3, Cond.initialized RX0, Cond.instanceMethod yX1_init, Cond.code yX1_init cX1_init 1 none, Cond.methodLink RX1 3 objectInit, Cond.fieldLink RX1 9 "LeeVanes$TextReader" "codes" "[I", Cond.fieldLink RX1 15 "LeeVanes$TextReader" "size" "I", Cond.fieldLink RX1 19 "LeeVanes$TextReader" "place" "I", Cond.instanceMethod yX2_init, Cond.code yX2_init cX2_init 1 none, Cond.methodLink RX2 3 objectInit, Cond.fieldLink RX2 9 "LeeVanes$Town" "kinds" "[I", Cond.fieldLink RX2 15 "LeeVanes$Town" "noses" "[I", Cond.fieldLink RX2 18 "LeeVanes$Town" "wardCells" "[I", Cond.fieldLink RX2 21 "LeeVanes$Town" "workCells" "[I", Cond.fieldLink RX2 24 "LeeVanes$Town" "strengths" "[I", Cond.fieldLink RX2 27 "LeeVanes$Town" "readingCells" "[I", Cond.fieldLink RX2 30 "LeeVanes$Town" "readingSmells" "[I", Cond.fieldLink RX2 33 "LeeVanes$Town" "distances" "[I", Cond.fieldLink RX2 36 "LeeVanes$Town" "votes" "[I", Cond.fieldLink RX2 39 "LeeVanes$Town" "stands" "Z"]
def wsL_law_r3 : List Cond := [Cond.fieldLink RX2 43 "LeeVanes$Town" "high" "I", Cond.fieldLink RX2 47 "LeeVanes$Town" "wide" "I", Cond.fieldLink RX2 50 "LeeVanes$Town" "cells" "I", Cond.fieldLink RX2 53 "LeeVanes$Town" "works" "I", Cond.fieldLink RX2 56 "LeeVanes$Town" "wards" "I", Cond.fieldLink RX2 59 "LeeVanes$Town" "lawNow" "I", Cond.fieldLink RX2 62 "LeeVanes$Town" "setting" "I", Cond.fieldLink RX2 65 "LeeVanes$Town" "readings" "I", Cond.instanceMethod yX0_init, Cond.code yX0_init cX0_init 1 none, Cond.methodLink RX0 3 objectInit, Cond.fieldLink RX0 9 "LeeVanes$Sheet" "row" "[I", Cond.fieldLink RX0 15 "LeeVanes$Sheet" "lane" "I", Cond.fieldLink RX0 19 "LeeVanes$Sheet" "size" "I", Cond.methodLink RL 12 yX4_init, Cond.instanceMethod yX4_init, Cond.code yX4_init cX4_init 2 none, Cond.methodLink RX4 1 objectInit, Cond.fieldLink RX4 7 "LeeVanesModel" "workIn" "[I", Cond.fieldLink RX4 13 "LeeVanesModel" "strongOf" "[I", Cond.fieldLink RX4 16 "LeeVanesModel" "vaneOf" "[I", Cond.fieldLink RX4 19 "LeeVanesModel" "wardIn" "[I", Cond.fieldLink RX4 22 "LeeVanesModel" "kindOf" "[I", Cond.fieldLink RX4 25 "LeeVanesModel" "noseOf" "[I"]
def wsL_law_r4 : List Cond := [Cond.fieldLink RX4 28 "LeeVanesModel" "readWork" "[I", Cond.fieldLink RX4 31 "LeeVanesModel" "readStrong" "[I", Cond.fieldLink RX4 34 "LeeVanesModel" "readWard" "[I", Cond.fieldLink RX4 37 "LeeVanesModel" "readKind" "[I", Cond.fieldLink RX4 40 "LeeVanesModel" "readNose" "[I", Cond.fieldLink RX4 43 "LeeVanesModel" "firstIn" "[I", Cond.fieldLink RX4 46 "LeeVanesModel" "readingOf" "[I", Cond.fieldLink RX4 49 "LeeVanesModel" "readingSmell" "[I", Cond.fieldLink RX4 52 "LeeVanesModel" "sheetSize" "[I", Cond.fieldLink RX4 55 "LeeVanesModel" "sheetLane" "[I", Cond.fieldLink RX4 58 "LeeVanesModel" "sheet" "[I", Cond.fieldLink RX4 61 "LeeVanesModel" "hands" "[I", Cond.methodLink RL 13 yX3_town, Cond.instanceMethod yX3_town, Cond.selects RX3 yX3_town yX3_town, Cond.code yX3_town cX3_town 8 (some .int), Cond.fieldLink RX3 70 "LeeVanes$TextReader" "place" "I", Cond.fieldLink RX3 73 "LeeVanes$Town" "wards" "I", Cond.methodLink RX3 46 yX3_sheetAt, Cond.instanceMethod yX3_sheetAt, Cond.selects RX3 yX3_sheetAt yX3_sheetAt, Cond.code yX3_sheetAt cX3_sheetAt 2 (some (.object "LeeVanes$Sheet")), Cond.methodLink RX3 50 yX3_isUpTo, Cond.static yX3_isUpTo]
def wsL_law_r5 : List Cond := [Cond.code yX3_isUpTo cX3_isUpTo 2 (some .boolean), Cond.methodLink RX3 54 yX0_faultOfTaking, Cond.instanceMethod yX0_faultOfTaking, Cond.selects RX0 yX0_faultOfTaking yX0_faultOfTaking, Cond.code yX0_faultOfTaking cX0_faultOfTaking 4 (some .int), Cond.methodLink RX0 28 yX0_hasRow, Cond.instanceMethod yX0_hasRow, Cond.selects RX0 yX0_hasRow yX0_hasRow, Cond.code yX0_hasRow cX0_hasRow 1 (some .boolean), Cond.methodLink RX0 32 yX0_holds, Cond.instanceMethod yX0_holds, Cond.selects RX0 yX0_holds yX0_holds, Cond.code yX0_holds cX0_holds 3 (some .boolean), Cond.methodLink RX3 58 yX3_fail, Cond.instanceMethod yX3_fail, Cond.selects RX3 yX3_fail yX3_fail, Cond.code yX3_fail cX3_fail 2 (some .int), Cond.methodLink RX3 62 yX1_load, Cond.instanceMethod yX1_load, Cond.selects RX1 yX1_load yX1_load, Cond.code yX1_load cX1_load 5 none, Cond.fieldLink RX1 22 "LeeVanes$Sheet" "row" "[I", Cond.static yX3_read, Cond.code yX3_read cX3_read 2 (some .int)]
def wsL_law_r6 : List Cond := [Cond.static yX3_write, Cond.code yX3_write cX3_write 3 none, Cond.methodLink RX3 66 yX1_readInto, Cond.instanceMethod yX1_readInto, Cond.selects RX1 yX1_readInto yX1_readInto, Cond.code yX1_readInto cX1_readInto 5 (some .boolean), Cond.fieldLink RX1 56 "LeeVanes$Town" "stands" "Z", Cond.methodLink RX1 35 yX2_clear, Cond.instanceMethod yX2_clear, Cond.selects RX2 yX2_clear yX2_clear, Cond.code yX2_clear cX2_clear 1 none, Cond.methodLink RX2 68 yX2_measure, Cond.instanceMethod yX2_measure, Cond.selects RX2 yX2_measure yX2_measure, Cond.code yX2_measure cX2_measure 3 none, Cond.methodLink RX1 40 yX1_takes, Cond.instanceMethod yX1_takes, Cond.selects RX1 yX1_takes yX1_takes, Cond.code yX1_takes cX1_takes 2 (some .boolean), Cond.methodLink RX1 67 yX1_next, Cond.instanceMethod yX1_next, Cond.selects RX1 yX1_next yX1_next, Cond.code yX1_next cX1_next 1 (some .int), Cond.methodLink RX1 44 yX1_digit]
def wsL_law_r7 : List Cond := [Cond.instanceMethod yX1_digit, Cond.selects RX1 yX1_digit yX1_digit, Cond.code yX1_digit cX1_digit 4 (some .int), Cond.methodLink RX1 48 yX2_measure, Cond.methodLink RX1 52 yX1_readRow, Cond.instanceMethod yX1_readRow, Cond.selects RX1 yX1_readRow yX1_readRow, Cond.code yX1_readRow cX1_readRow 4 (some .boolean), Cond.fieldLink RX1 60 "LeeVanes$Town" "wide" "I", Cond.methodLink RX1 63 yX1_readPart, Cond.instanceMethod yX1_readPart, Cond.selects RX1 yX1_readPart yX1_readPart, Cond.code yX1_readPart cX1_readPart 8 (some .boolean), Cond.fieldLink RX1 75 "LeeVanes$Town" "works" "I", Cond.fieldLink RX1 78 "LeeVanes$Town" "wards" "I", Cond.methodLink RX1 71 yX1_kindOf, Cond.static yX1_kindOf, Cond.code yX1_kindOf cX1_kindOf 1 (some .int), Cond.methodLink RX1 81 yX2_addWork, Cond.instanceMethod yX2_addWork, Cond.selects RX2 yX2_addWork yX2_addWork, Cond.code yX2_addWork cX2_addWork 5 none, Cond.methodLink RX2 76 yX2_measureWay, Cond.instanceMethod yX2_measureWay]
def wsL_law_r8 : List Cond := [Cond.selects RX2 yX2_measureWay yX2_measureWay, Cond.code yX2_measureWay cX2_measureWay 8 none, Cond.constant RX2 84 (1000000), Cond.methodLink RX2 80 yX2_wayIndex, Cond.static yX2_wayIndex, Cond.code yX2_wayIndex cX2_wayIndex 2 (some .int), Cond.methodLink RX1 85 yX2_addWard, Cond.instanceMethod yX2_addWard, Cond.selects RX2 yX2_addWard yX2_addWard, Cond.code yX2_addWard cX2_addWard 4 none, Cond.methodLink RL 17 yX4_town, Cond.instanceMethod yX4_town, Cond.selects RX4 yX4_town yX4_town, Cond.code yX4_town cX4_town 7 (some .int), Cond.constantLong RX4 139 (2), Cond.fieldLink RX4 90 "LeeVanesModel" "readAt" "I", Cond.fieldLink RX4 118 "LeeVanesModel" "readHigh" "I", Cond.fieldLink RX4 74 "LeeVanesModel" "high" "I", Cond.fieldLink RX4 107 "LeeVanesModel" "readWide" "I", Cond.fieldLink RX4 77 "LeeVanesModel" "wide" "I", Cond.fieldLink RX4 97 "LeeVanesModel" "readWorks" "I", Cond.fieldLink RX4 84 "LeeVanesModel" "works" "I", Cond.fieldLink RX4 104 "LeeVanesModel" "readWards" "I", Cond.fieldLink RX4 87 "LeeVanesModel" "wards" "I"]
def wsL_law_r9 : List Cond := [Cond.fieldLink RX4 149 "LeeVanesModel" "lawNow" "I", Cond.fieldLink RX4 152 "LeeVanesModel" "readings" "I", Cond.methodLink RX4 132 yX4_noSheet, Cond.static yX4_noSheet, Cond.code yX4_noSheet cX4_noSheet 1 (some .boolean), Cond.constantLong RX4 164 (3), Cond.methodLink RX4 80 yX4_in, Cond.static yX4_in, Cond.code yX4_in cX4_in 6 (some .boolean), Cond.methodLink RX4 136 yX4_refused, Cond.instanceMethod yX4_refused, Cond.selects RX4 yX4_refused yX4_refused, Cond.code yX4_refused cX4_refused 2 (some .int), Cond.fieldLink RX4 66 "LeeVanesModel" "fault" "I", Cond.methodLink RX4 141 yX4_cellsBarred, Cond.instanceMethod yX4_cellsBarred, Cond.selects RX4 yX4_cellsBarred yX4_cellsBarred, Cond.code yX4_cellsBarred cX4_cellsBarred 6 (some .int), Cond.methodLink RX4 124 yX4_failed, Cond.instanceMethod yX4_failed, Cond.selects RX4 yX4_failed yX4_failed, Cond.code yX4_failed cX4_failed 2 (some .int), Cond.methodLink RX4 128 yX4_isBeyond, Cond.static yX4_isBeyond]
def wsL_law_r10 : List Cond := [Cond.code yX4_isBeyond cX4_isBeyond 4 (some .boolean), Cond.methodLink RX4 145 yX4_readsTown, Cond.instanceMethod yX4_readsTown, Cond.selects RX4 yX4_readsTown yX4_readsTown, Cond.code yX4_readsTown cX4_readsTown 5 (some .boolean), Cond.methodLink RX4 93 yX4_codeAt, Cond.instanceMethod yX4_codeAt, Cond.selects RX4 yX4_codeAt yX4_codeAt, Cond.code yX4_codeAt cX4_codeAt 3 (some .int), Cond.methodLink RX4 100 yX4_figure, Cond.instanceMethod yX4_figure, Cond.selects RX4 yX4_figure yX4_figure, Cond.code yX4_figure cX4_figure 7 (some .int), Cond.methodLink RX4 121 yX4_readsSpot, Cond.instanceMethod yX4_readsSpot, Cond.selects RX4 yX4_readsSpot yX4_readsSpot, Cond.code yX4_readsSpot cX4_readsSpot 4 (some .boolean), Cond.methodLink RX4 110 yX4_readsWork, Cond.instanceMethod yX4_readsWork, Cond.selects RX4 yX4_readsWork yX4_readsWork, Cond.code yX4_readsWork cX4_readsWork 5 (some .boolean), Cond.methodLink RX4 114 yX4_readsWard, Cond.instanceMethod yX4_readsWard, Cond.selects RX4 yX4_readsWard yX4_readsWard]
def wsL_law_r11 : List Cond := [Cond.code yX4_readsWard cX4_readsWard 6 (some .boolean), Cond.methodLink RL 18 yX3_ofWard, Cond.instanceMethod yX3_ofWard, Cond.selects RX3 yX3_ofWard yX3_ofWard, Cond.code yX3_ofWard cX3_ofWard 3 (some .int), Cond.fieldLink RX3 80 "LeeVanes$Town" "kinds" "[I", Cond.fieldLink RX3 87 "LeeVanes$Town" "noses" "[I", Cond.fieldLink RX3 90 "LeeVanes$Town" "wardCells" "[I", Cond.methodLink RX3 76 yX2_hasWard, Cond.instanceMethod yX2_hasWard, Cond.selects RX2 yX2_hasWard yX2_hasWard, Cond.code yX2_hasWard cX2_hasWard 2 (some .boolean), Cond.methodLink RX3 83 yX3_read, Cond.methodLink RX3 93 yX2_factorOf, Cond.instanceMethod yX2_factorOf, Cond.selects RX2 yX2_factorOf yX2_factorOf, Cond.code yX2_factorOf cX2_factorOf 3 (some .int), Cond.methodLink RL 22 yX4_ofWard, Cond.instanceMethod yX4_ofWard, Cond.selects RX4 yX4_ofWard yX4_ofWard, Cond.code yX4_ofWard cX4_ofWard 3 (some .int), Cond.methodLink RX4 155 yX4_noWard, Cond.instanceMethod yX4_noWard, Cond.selects RX4 yX4_noWard yX4_noWard]
def wsL_law_r12 : List Cond := [Cond.code yX4_noWard cX4_noWard 2 (some .boolean), Cond.methodLink RX4 158 yX4_mindsOfOne, Cond.instanceMethod yX4_mindsOfOne, Cond.selects RX4 yX4_mindsOfOne yX4_mindsOfOne, Cond.code yX4_mindsOfOne cX4_mindsOfOne 3 (some .int), Cond.methodLink RL 23 yX3_ofWork, Cond.instanceMethod yX3_ofWork, Cond.selects RX3 yX3_ofWork yX3_ofWork, Cond.code yX3_ofWork cX3_ofWork 3 (some .int), Cond.fieldLink RX3 99 "LeeVanes$Town" "workCells" "[I", Cond.fieldLink RX3 102 "LeeVanes$Town" "strengths" "[I", Cond.fieldLink RX3 105 "LeeVanes$Town" "setting" "I", Cond.methodLink RX3 96 yX2_hasWork, Cond.instanceMethod yX2_hasWork, Cond.selects RX2 yX2_hasWork yX2_hasWork, Cond.code yX2_hasWork cX2_hasWork 2 (some .boolean), Cond.methodLink RX3 108 yX2_vaneIn, Cond.instanceMethod yX2_vaneIn, Cond.selects RX2 yX2_vaneIn yX2_vaneIn, Cond.code yX2_vaneIn cX2_vaneIn 3 (some .int), Cond.methodLink RL 26 yX4_ofWork, Cond.instanceMethod yX4_ofWork, Cond.selects RX4 yX4_ofWork yX4_ofWork, Cond.code yX4_ofWork cX4_ofWork 3 (some .int)]
def wsL_law_r13 : List Cond := [Cond.methodLink RX4 161 yX4_noWork, Cond.instanceMethod yX4_noWork, Cond.selects RX4 yX4_noWork yX4_noWork, Cond.code yX4_noWork cX4_noWork 2 (some .boolean), Cond.methodLink RL 27 yX3_law, Cond.instanceMethod yX3_law, Cond.selects RX3 yX3_law yX3_law, Cond.code yX3_law cX3_law 3 (some .int), Cond.fieldLink RX3 112 "LeeVanes$Town" "stands" "Z", Cond.fieldLink RX3 116 "LeeVanes$Town" "lawNow" "I", Cond.methodLink RL 31 yX4_law, Cond.instanceMethod yX4_law, Cond.selects RX4 yX4_law yX4_law, Cond.code yX4_law cX4_law 3 (some .int), Cond.methodLink RL 32 yX3_turn, Cond.instanceMethod yX3_turn, Cond.selects RX3 yX3_turn yX3_turn, Cond.code yX3_turn cX3_turn 4 (some .int), Cond.methodLink RX3 119 yX2_turned, Cond.instanceMethod yX2_turned, Cond.selects RX2 yX2_turned yX2_turned, Cond.code yX2_turned cX2_turned 5 (some .int), Cond.methodLink RL 35 yX4_turn, Cond.instanceMethod yX4_turn]
def wsL_law_r14 : List Cond := [Cond.selects RX4 yX4_turn yX4_turn, Cond.code yX4_turn cX4_turn 4 (some .int), Cond.methodLink RL 36 yX3_smell, Cond.instanceMethod yX3_smell, Cond.selects RX3 yX3_smell yX3_smell, Cond.code yX3_smell cX3_smell 2 (some .int), Cond.methodLink RX3 122 yX2_hasCell, Cond.instanceMethod yX2_hasCell, Cond.selects RX2 yX2_hasCell yX2_hasCell, Cond.code yX2_hasCell cX2_hasCell 2 (some .boolean), Cond.methodLink RX3 125 yX2_smellBy, Cond.instanceMethod yX2_smellBy, Cond.selects RX2 yX2_smellBy yX2_smellBy, Cond.code yX2_smellBy cX2_smellBy 7 (some .int), Cond.methodLink RX2 98 Lib.Math.max.name, Cond.static Lib.Math.max.name, Cond.initialized "java/lang/Math", Cond.code Lib.Math.max.name Lib.Math.max.code 2 (some .int), Cond.methodLink RX2 103 Lib.Math.abs.name, Cond.static Lib.Math.abs.name, Cond.code Lib.Math.abs.name Lib.Math.abs.code 1 (some .int), Cond.methodLink RX2 95 yX2_vaneIn, Cond.methodLink RL 39 yX4_smell, Cond.instanceMethod yX4_smell]
def wsL_law_r15 : List Cond := [Cond.selects RX4 yX4_smell yX4_smell, Cond.code yX4_smell cX4_smell 2 (some .int), Cond.methodLink RX4 169 yX4_noSpot, Cond.instanceMethod yX4_noSpot, Cond.selects RX4 yX4_noSpot yX4_noSpot, Cond.code yX4_noSpot cX4_noSpot 2 (some .boolean), Cond.methodLink RX4 172 yX4_smellOf, Cond.instanceMethod yX4_smellOf, Cond.selects RX4 yX4_smellOf yX4_smellOf, Cond.code yX4_smellOf cX4_smellOf 7 (some .int), Cond.methodLink RX4 166 yX4_comesTo, Cond.instanceMethod yX4_comesTo, Cond.selects RX4 yX4_comesTo yX4_comesTo, Cond.code yX4_comesTo cX4_comesTo 7 (some .int), Cond.methodLink RL 40 yX3_minds, Cond.instanceMethod yX3_minds, Cond.selects RX3 yX3_minds yX3_minds, Cond.code yX3_minds cX3_minds 2 (some .int), Cond.methodLink RX3 128 yX2_mindedBy, Cond.instanceMethod yX2_mindedBy, Cond.selects RX2 yX2_mindedBy yX2_mindedBy, Cond.code yX2_mindedBy cX2_mindedBy 3 (some .int), Cond.methodLink RX2 107 yX2_factorOf, Cond.methodLink RX2 110 yX2_smellBy]
def wsL_law_r16 : List Cond := [Cond.methodLink RL 43 yX4_minds, Cond.instanceMethod yX4_minds, Cond.selects RX4 yX4_minds yX4_minds, Cond.code yX4_minds cX4_minds 2 (some .int), Cond.methodLink RX4 175 yX4_mindsNow, Cond.instanceMethod yX4_mindsNow, Cond.selects RX4 yX4_mindsNow yX4_mindsNow, Cond.code yX4_mindsNow cX4_mindsNow 2 (some .int), Cond.methodLink RL 44 yX3_burden, Cond.instanceMethod yX3_burden, Cond.selects RX3 yX3_burden yX3_burden, Cond.code yX3_burden cX3_burden 1 (some .int), Cond.methodLink RX3 131 yX2_burdenBy, Cond.instanceMethod yX2_burdenBy, Cond.selects RX2 yX2_burdenBy yX2_burdenBy, Cond.code yX2_burdenBy cX2_burdenBy 4 (some .int), Cond.methodLink RX2 113 yX2_mindedBy, Cond.methodLink RL 48 yX4_burden, Cond.instanceMethod yX4_burden, Cond.selects RX4 yX4_burden yX4_burden, Cond.code yX4_burden cX4_burden 1 (some .int), Cond.methodLink RX4 178 yX4_burdenNow, Cond.instanceMethod yX4_burdenNow, Cond.selects RX4 yX4_burdenNow yX4_burdenNow]
def wsL_law_r17 : List Cond := [Cond.code yX4_burdenNow cX4_burdenNow 3 (some .int), Cond.methodLink RL 49 yX3_told, Cond.instanceMethod yX3_told, Cond.selects RX3 yX3_told yX3_told, Cond.code yX3_told cX3_told 10 (some .int), Cond.fieldLink RX3 134 "LeeVanes$Town" "works" "I", Cond.fieldLink RX3 137 "LeeVanes$Sheet" "row" "[I", Cond.methodLink RL 52 yX4_told, Cond.instanceMethod yX4_told, Cond.selects RX4 yX4_told yX4_told, Cond.code yX4_told cX4_told 9 (some .int), Cond.methodLink RX4 182 yX4_vanesNow, Cond.instanceMethod yX4_vanesNow, Cond.selects RX4 yX4_vanesNow yX4_vanesNow, Cond.code yX4_vanesNow cX4_vanesNow 3 (some .int), Cond.methodLink RX4 185 yX4_turnAll, Cond.instanceMethod yX4_turnAll, Cond.selects RX4 yX4_turnAll yX4_turnAll, Cond.code yX4_turnAll cX4_turnAll 4 none, Cond.methodLink RL 53 yX3_vote, Cond.instanceMethod yX3_vote, Cond.selects RX3 yX3_vote yX3_vote, Cond.code yX3_vote cX3_vote 4 (some .int), Cond.methodLink RX3 140 yX2_voteBy]
def wsL_law_r18 : List Cond := [Cond.instanceMethod yX2_voteBy, Cond.selects RX2 yX2_voteBy yX2_voteBy, Cond.code yX2_voteBy cX2_voteBy 8 (some .int), Cond.methodLink RX2 116 yX2_turned, Cond.methodLink RL 56 yX4_vote, Cond.instanceMethod yX4_vote, Cond.selects RX4 yX4_vote yX4_vote, Cond.code yX4_vote cX4_vote 3 (some .int), Cond.methodLink RX4 189 yX4_voteOf, Cond.instanceMethod yX4_voteOf, Cond.selects RX4 yX4_voteOf yX4_voteOf, Cond.code yX4_voteOf cX4_voteOf 8 (some .int), Cond.methodLink RL 57 yX3_ballot, Cond.instanceMethod yX3_ballot, Cond.selects RX3 yX3_ballot yX3_ballot, Cond.code yX3_ballot cX3_ballot 2 (some .int), Cond.methodLink RX3 143 yX2_ballotBy, Cond.instanceMethod yX2_ballotBy, Cond.selects RX2 yX2_ballotBy yX2_ballotBy, Cond.code yX2_ballotBy cX2_ballotBy 3 (some .int), Cond.methodLink RX2 123 yX2_castVotes, Cond.instanceMethod yX2_castVotes, Cond.selects RX2 yX2_castVotes yX2_castVotes, Cond.code yX2_castVotes cX2_castVotes 4 none]
def wsL_law_r19 : List Cond := [Cond.methodLink RX2 120 yX2_voteBy, Cond.methodLink RX2 126 yX2_winner, Cond.instanceMethod yX2_winner, Cond.selects RX2 yX2_winner yX2_winner, Cond.code yX2_winner cX2_winner 9 (some .int), Cond.methodLink RL 60 yX4_ballot, Cond.instanceMethod yX4_ballot, Cond.selects RX4 yX4_ballot yX4_ballot, Cond.code yX4_ballot cX4_ballot 2 (some .int), Cond.methodLink RX4 195 yX4_winsBy, Cond.instanceMethod yX4_winsBy, Cond.selects RX4 yX4_winsBy yX4_winsBy, Cond.code yX4_winsBy cX4_winsBy 10 (some .int), Cond.methodLink RX4 192 yX4_isIn, Cond.static yX4_isIn, Cond.code yX4_isIn cX4_isIn 2 (some .boolean), Cond.methodLink RL 61 yX3_year, Cond.instanceMethod yX3_year, Cond.selects RX3 yX3_year yX3_year, Cond.code yX3_year cX3_year 4 (some .int), Cond.methodLink RX3 146 yX2_yearAfter, Cond.instanceMethod yX2_yearAfter, Cond.selects RX2 yX2_yearAfter yX2_yearAfter, Cond.code yX2_yearAfter cX2_yearAfter 4 (some .int)]
def wsL_law_r20 : List Cond := [Cond.methodLink RL 64 yX4_year, Cond.instanceMethod yX4_year, Cond.selects RX4 yX4_year yX4_year, Cond.code yX4_year cX4_year 1 (some .int), Cond.methodLink RX4 199 yX4_goYear, Cond.instanceMethod yX4_goYear, Cond.selects RX4 yX4_goYear yX4_goYear, Cond.code yX4_goYear cX4_goYear 4 (some .int), Cond.methodLink RL 65 yX3_round, Cond.instanceMethod yX3_round, Cond.selects RX3 yX3_round yX3_round, Cond.code yX3_round cX3_round 5 (some .int), Cond.methodLink RX3 149 yJ7_fill_53178, Cond.static yJ7_fill_53178, Cond.initialized RJ7, Cond.code yJ7_fill_53178 cJ7_fill_53178 4 none, Cond.methodLink RX3 155 yX3_write, Cond.methodLink RL 68 yX4_round, Cond.instanceMethod yX4_round, Cond.selects RX4 yX4_round yX4_round, Cond.code yX4_round cX4_round 5 (some .int), Cond.methodLink RL 69 yX3_best, Cond.instanceMethod yX3_best, Cond.selects RX3 yX3_best yX3_best]
def wsL_law_r21 : List Cond := [Cond.code yX3_best cX3_best 2 (some .int), Cond.methodLink RX3 159 yX3_leastBy, Cond.instanceMethod yX3_leastBy, Cond.selects RX3 yX3_leastBy yX3_leastBy, Cond.code yX3_leastBy cX3_leastBy 4 (some .int), Cond.methodLink RX3 226 yX2_leastSetting, Cond.instanceMethod yX2_leastSetting, Cond.selects RX2 yX2_leastSetting yX2_leastSetting, Cond.code yX2_leastSetting cX2_leastSetting 6 (some .int), Cond.methodLink RX2 134 yX2_settingsInAll, Cond.instanceMethod yX2_settingsInAll, Cond.selects RX2 yX2_settingsInAll yX2_settingsInAll, Cond.code yX2_settingsInAll cX2_settingsInAll 1 (some .int), Cond.methodLink RX2 138 yX2_mostMindedBy, Cond.instanceMethod yX2_mostMindedBy, Cond.selects RX2 yX2_mostMindedBy yX2_mostMindedBy, Cond.code yX2_mostMindedBy cX2_mostMindedBy 4 (some .int), Cond.methodLink RX2 141 yX2_burdenBy, Cond.methodLink RX3 230 yX2_mostMindedBy, Cond.methodLink RX3 182 yX3_vaneOrNone, Cond.instanceMethod yX3_vaneOrNone, Cond.selects RX3 yX3_vaneOrNone yX3_vaneOrNone, Cond.code yX3_vaneOrNone cX3_vaneOrNone 3 (some .int), Cond.methodLink RL 72 yX4_best]
def wsL_law_r22 : List Cond := [Cond.instanceMethod yX4_best, Cond.selects RX4 yX4_best yX4_best, Cond.code yX4_best cX4_best 3 (some .int), Cond.fieldLink RX4 202 "LeeVanesModel" "leastIs" "I", Cond.methodLink RX4 211 yX4_leastRow, Cond.instanceMethod yX4_leastRow, Cond.selects RX4 yX4_leastRow yX4_leastRow, Cond.code yX4_leastRow cX4_leastRow 6 (some .int), Cond.methodLink RX4 205 yX4_rows, Cond.instanceMethod yX4_rows, Cond.selects RX4 yX4_rows yX4_rows, Cond.code yX4_rows cX4_rows 3 (some .int), Cond.methodLink RX4 208 yX4_mostMinded, Cond.instanceMethod yX4_mostMinded, Cond.selects RX4 yX4_mostMinded yX4_mostMinded, Cond.code yX4_mostMinded cX4_mostMinded 3 (some .int), Cond.methodLink RX4 215 yX4_vaneIn, Cond.instanceMethod yX4_vaneIn, Cond.selects RX4 yX4_vaneIn yX4_vaneIn, Cond.code yX4_vaneIn cX4_vaneIn 5 (some .int), Cond.methodLink RL 73 yX3_calm, Cond.instanceMethod yX3_calm, Cond.selects RX3 yX3_calm yX3_calm, Cond.code yX3_calm cX3_calm 2 (some .int)]
def wsL_law_r23 : List Cond := [Cond.methodLink RL 76 yX4_calm, Cond.instanceMethod yX4_calm, Cond.selects RX4 yX4_calm yX4_calm, Cond.code yX4_calm cX4_calm 3 (some .int), Cond.methodLink RL 77 yX3_bribe, Cond.instanceMethod yX3_bribe, Cond.selects RX3 yX3_bribe yX3_bribe, Cond.code yX3_bribe cX3_bribe 3 (some .int), Cond.methodLink RX3 163 yX2_fewestBribed, Cond.instanceMethod yX2_fewestBribed, Cond.selects RX2 yX2_fewestBribed yX2_fewestBribed, Cond.code yX2_fewestBribed cX2_fewestBribed 7 (some .int), Cond.methodLink RX2 129 yJ6_bitCount_0f7a4, Cond.static yJ6_bitCount_0f7a4, Cond.initialized RJ6, Cond.code yJ6_bitCount_0f7a4 cJ6_bitCount_0f7a4 1 (some .int), Cond.constant RJ6 265 (1431655765), Cond.constant RJ6 266 (858993459), Cond.constant RJ6 267 (252645135), Cond.methodLink RL 80 yX4_bribe, Cond.instanceMethod yX4_bribe, Cond.selects RX4 yX4_bribe yX4_bribe, Cond.code yX4_bribe cX4_bribe 5 (some .int), Cond.methodLink RX4 218 yX4_bits]
def wsL_law_r24 : List Cond := [Cond.static yX4_bits, Cond.code yX4_bits cX4_bits 3 (some .int), Cond.methodLink RL 81 yX3_reading, Cond.instanceMethod yX3_reading, Cond.selects RX3 yX3_reading yX3_reading, Cond.code yX3_reading cX3_reading 4 (some .int), Cond.fieldLink RX3 166 "LeeVanes$Town" "readings" "I", Cond.fieldLink RX3 169 "LeeVanes$Town" "readingCells" "[I", Cond.fieldLink RX3 172 "LeeVanes$Town" "readingSmells" "[I", Cond.methodLink RL 84 yX4_reading, Cond.instanceMethod yX4_reading, Cond.selects RX4 yX4_reading yX4_reading, Cond.code yX4_reading cX4_reading 3 (some .int), Cond.constantLong RX4 221 (99), Cond.methodLink RL 85 yX3_back, Cond.instanceMethod yX3_back, Cond.selects RX3 yX3_back yX3_back, Cond.code yX3_back cX3_back 2 (some .int), Cond.methodLink RL 88 yX4_back, Cond.instanceMethod yX4_back, Cond.selects RX4 yX4_back yX4_back, Cond.code yX4_back cX4_back 2 (some .int), Cond.methodLink RL 89 yX3_settings, Cond.instanceMethod yX3_settings]
def wsL_law_r25 : List Cond := [Cond.selects RX3 yX3_settings yX3_settings, Cond.code yX3_settings cX3_settings 5 (some .int), Cond.methodLink RX3 175 yX2_settingsInAll, Cond.methodLink RX3 179 yX2_agreesBy, Cond.instanceMethod yX2_agreesBy, Cond.selects RX2 yX2_agreesBy yX2_agreesBy, Cond.code yX2_agreesBy cX2_agreesBy 3 (some .boolean), Cond.methodLink RL 92 yX4_settings, Cond.instanceMethod yX4_settings, Cond.selects RX4 yX4_settings yX4_settings, Cond.code yX4_settings cX4_settings 6 (some .int), Cond.methodLink RX4 223 yX4_areSo, Cond.instanceMethod yX4_areSo, Cond.selects RX4 yX4_areSo yX4_areSo, Cond.code yX4_areSo cX4_areSo 3 (some .boolean), Cond.methodLink RL 93 yX3_laws, Cond.instanceMethod yX3_laws, Cond.selects RX3 yX3_laws yX3_laws, Cond.code yX3_laws cX3_laws 4 (some .int), Cond.methodLink RL 96 yX4_laws, Cond.instanceMethod yX4_laws, Cond.selects RX4 yX4_laws yX4_laws, Cond.code yX4_laws cX4_laws 4 (some .int), Cond.methodLink RL 97 yX3_powers]
def wsL_law_r26 : List Cond := [Cond.instanceMethod yX3_powers, Cond.selects RX3 yX3_powers yX3_powers, Cond.code yX3_powers cX3_powers 5 (some .int), Cond.methodLink RL 100 yX4_powers, Cond.instanceMethod yX4_powers, Cond.selects RX4 yX4_powers yX4_powers, Cond.code yX4_powers cX4_powers 5 (some .int), Cond.methodLink RL 101 yX3_odds, Cond.instanceMethod yX3_odds, Cond.selects RX3 yX3_odds yX3_odds, Cond.code yX3_odds cX3_odds 7 (some .long), Cond.constantLong RX3 185 (-9223372036854775808), Cond.methodLink RL 105 yX4_odds, Cond.instanceMethod yX4_odds, Cond.selects RX4 yX4_odds yX4_odds, Cond.code yX4_odds cX4_odds 8 (some .long), Cond.methodLink RX4 70 yX4_lost, Cond.static yX4_lost, Cond.code yX4_lost cX4_lost 0 (some .long), Cond.constantLong RX4 64 (-9223372036854775808), Cond.methodLink RX4 227 yX4_share, Cond.static yX4_share, Cond.code yX4_share cX4_share 11 (some .long), Cond.methodLink RL 106 yX3_sheet]
def wsL_law_r27 : List Cond := [Cond.instanceMethod yX3_sheet, Cond.selects RX3 yX3_sheet yX3_sheet, Cond.code yX3_sheet cX3_sheet 5 (some .int), Cond.methodLink RX3 187 yX0_renew, Cond.instanceMethod yX0_renew, Cond.selects RX0 yX0_renew yX0_renew, Cond.code yX0_renew cX0_renew 3 none, Cond.methodLink RX0 22 yJ7_fill_53178, Cond.methodLink RL 110 yX4_sheet, Cond.instanceMethod yX4_sheet, Cond.selects RX4 yX4_sheet yX4_sheet, Cond.code yX4_sheet cX4_sheet 5 (some .int), Cond.methodLink RL 111 yX3_lose, Cond.instanceMethod yX3_lose, Cond.selects RX3 yX3_lose yX3_lose, Cond.code yX3_lose cX3_lose 3 (some .int), Cond.methodLink RX3 191 yX0_hasRow, Cond.methodLink RL 114 yX4_lose, Cond.instanceMethod yX4_lose, Cond.selects RX4 yX4_lose yX4_lose, Cond.code yX4_lose cX4_lose 3 (some .int), Cond.methodLink RL 115 yX3_put, Cond.instanceMethod yX3_put, Cond.selects RX3 yX3_put yX3_put]
def wsL_law_r28 : List Cond := [Cond.code yX3_put cX3_put 6 (some .int), Cond.fieldLink RX3 195 "LeeVanes$Sheet" "lane" "I", Cond.methodLink RX3 198 yX0_cut, Cond.instanceMethod yX0_cut, Cond.selects RX0 yX0_cut yX0_cut, Cond.code yX0_cut cX0_cut 2 (some .int), Cond.methodLink RL 118 yX4_put, Cond.instanceMethod yX4_put, Cond.selects RX4 yX4_put yX4_put, Cond.code yX4_put cX4_put 4 (some .int), Cond.methodLink RX4 231 yX4_noCell, Cond.instanceMethod yX4_noCell, Cond.selects RX4 yX4_noCell yX4_noCell, Cond.code yX4_noCell cX4_noCell 3 (some .int), Cond.methodLink RL 119 yX3_cell, Cond.instanceMethod yX3_cell, Cond.selects RX3 yX3_cell yX3_cell, Cond.code yX3_cell cX3_cell 5 (some .long), Cond.methodLink RL 122 yX4_cell, Cond.instanceMethod yX4_cell, Cond.selects RX4 yX4_cell yX4_cell, Cond.code yX4_cell cX4_cell 4 (some .long), Cond.methodLink RX4 234 yX4_failedLong, Cond.instanceMethod yX4_failedLong]
def wsL_law_r29 : List Cond := [Cond.selects RX4 yX4_failedLong yX4_failedLong, Cond.code yX4_failedLong cX4_failedLong 2 (some .long), Cond.methodLink RL 123 yX3_copy, Cond.instanceMethod yX3_copy, Cond.selects RX3 yX3_copy yX3_copy, Cond.code yX3_copy cX3_copy 8 (some .int), Cond.methodLink RX3 204 arraycopyName, Cond.native arraycopyName, Cond.static arraycopyName, Cond.initialized "java/lang/System", Cond.methodLink RX3 201 yX0_holds, Cond.methodLink RL 127 yX4_copy, Cond.instanceMethod yX4_copy, Cond.selects RX4 yX4_copy yX4_copy, Cond.code yX4_copy cX4_copy 7 (some .int), Cond.methodLink RL 128 yX3_tell, Cond.instanceMethod yX3_tell, Cond.selects RX3 yX3_tell yX3_tell, Cond.code yX3_tell cX3_tell 2 (some .int), Cond.methodLink RX3 210 yX3_tellFine, Cond.instanceMethod yX3_tellFine, Cond.selects RX3 yX3_tellFine yX3_tellFine, Cond.code yX3_tellFine cX3_tellFine 3 (some .int), Cond.methodLink RX3 219 yX3_leave]
def wsL_law_r30 : List Cond := [Cond.instanceMethod yX3_leave, Cond.selects RX3 yX3_leave yX3_leave, Cond.code yX3_leave cX3_leave 2 none, Cond.methodLink RX3 213 yX3_tellRich, Cond.instanceMethod yX3_tellRich, Cond.selects RX3 yX3_tellRich yX3_tellRich, Cond.code yX3_tellRich cX3_tellRich 2 (some .int), Cond.methodLink RX3 216 yX3_tellWard, Cond.instanceMethod yX3_tellWard, Cond.selects RX3 yX3_tellWard yX3_tellWard, Cond.code yX3_tellWard cX3_tellWard 2 (some .int), Cond.methodLink RL 131 yX4_tell, Cond.instanceMethod yX4_tell, Cond.selects RX4 yX4_tell yX4_tell, Cond.code yX4_tell cX4_tell 4 (some .int), Cond.methodLink RX4 241 yX4_traced, Cond.instanceMethod yX4_traced, Cond.selects RX4 yX4_traced yX4_traced, Cond.code yX4_traced cX4_traced 2 none, Cond.fieldLink RX4 238 "LeeVanesModel" "traceNow" "I", Cond.methodLink RL 132 yX3_woo, Cond.instanceMethod yX3_woo, Cond.selects RX3 yX3_woo yX3_woo, Cond.code yX3_woo cX3_woo 2 (some .int)]
def wsL_law_r31 : List Cond := [Cond.methodLink RL 135 yX4_woo, Cond.instanceMethod yX4_woo, Cond.selects RX4 yX4_woo yX4_woo, Cond.code yX4_woo cX4_woo 2 (some .int), Cond.methodLink RL 136 yX3_as, Cond.instanceMethod yX3_as, Cond.selects RX3 yX3_as yX3_as, Cond.code yX3_as cX3_as 3 (some .int), Cond.methodLink RL 139 yX4_as, Cond.instanceMethod yX4_as, Cond.selects RX4 yX4_as yX4_as, Cond.code yX4_as cX4_as 3 (some .int), Cond.methodLink RL 140 yX3_trace, Cond.instanceMethod yX3_trace, Cond.selects RX3 yX3_trace yX3_trace, Cond.code yX3_trace cX3_trace 1 (some .int), Cond.methodLink RL 143 yX4_trace, Cond.instanceMethod yX4_trace, Cond.selects RX4 yX4_trace yX4_trace, Cond.code yX4_trace cX4_trace 1 (some .int), Cond.methodLink RL 144 yX3_fault, Cond.instanceMethod yX3_fault, Cond.selects RX3 yX3_fault yX3_fault, Cond.code yX3_fault cX3_fault 1 (some .int)]
def wsL_law_r32 : List Cond := [Cond.methodLink RL 147 yX4_fault, Cond.instanceMethod yX4_fault, Cond.selects RX4 yX4_fault yX4_fault, Cond.code yX4_fault cX4_fault 1 (some .int), Cond.methodLink RL 148 yX3_many, Cond.instanceMethod yX3_many, Cond.selects RX3 yX3_many yX3_many, Cond.code yX3_many cX3_many 2 (some .int), Cond.fieldLink RX3 223 "LeeVanes$Town" "cells" "I", Cond.methodLink RL 151 yX4_many, Cond.instanceMethod yX4_many, Cond.selects RX4 yX4_many yX4_many, Cond.code yX4_many cX4_many 2 (some .int)]
def wsL_law : List Cond := (wsL_law_r1 ++ (wsL_law_r2 ++ (wsL_law_r3 ++ (wsL_law_r4 ++ (wsL_law_r5 ++ (wsL_law_r6 ++ (wsL_law_r7 ++ (wsL_law_r8 ++ (wsL_law_r9 ++ (wsL_law_r10 ++ (wsL_law_r11 ++ (wsL_law_r12 ++ (wsL_law_r13 ++ (wsL_law_r14 ++ (wsL_law_r15 ++ (wsL_law_r16 ++ (wsL_law_r17 ++ (wsL_law_r18 ++ (wsL_law_r19 ++ (wsL_law_r20 ++ (wsL_law_r21 ++ (wsL_law_r22 ++ (wsL_law_r23 ++ (wsL_law_r24 ++ (wsL_law_r25 ++ (wsL_law_r26 ++ (wsL_law_r27 ++ (wsL_law_r28 ++ (wsL_law_r29 ++ (wsL_law_r30 ++ (wsL_law_r31 ++ wsL_law_r32))))))))))))))))))))))))))))))) ++ wsX30 ++ wsX40 ++ wsX10 ++ wsX20 ++ wsX00 ++ ([] : List Cond)
end
section
set_option maxRecDepth 20000 in
theorem wsL_law_r1_in : ∀ w ∈ wsL_law_r1, w ∈ lw_tbl := fun w h => (goodIn_p wsL_law_r1 [60, 63] (by decide +kernel) (by decide +kernel) w h).1
set_option maxRecDepth 20000 in
theorem wsL_law_r2_in : ∀ w ∈ wsL_law_r2, w ∈ lw_tbl := fun w h => (goodIn_p wsL_law_r2 [70, 88] (by decide +kernel) (by decide +kernel) w h).1
set_option maxRecDepth 20000 in
theorem wsL_law_r3_in : ∀ w ∈ wsL_law_r3, w ∈ lw_tbl := fun w h => (goodIn_p wsL_law_r3 [166, 571] (by decide +kernel) (by decide +kernel) w h).1
set_option maxRecDepth 20000 in
theorem wsL_law_r4_in : ∀ w ∈ wsL_law_r4, w ∈ lw_tbl := fun w h => (goodIn_p wsL_law_r4 [206, 210] (by decide +kernel) (by decide +kernel) w h).1
set_option maxRecDepth 20000 in
theorem wsL_law_r5_in : ∀ w ∈ wsL_law_r5, w ∈ lw_tbl := fun w h => (goodIn_p wsL_law_r5 [213, 217, 221, 225, 229, 233, 236] (by decide +kernel) (by decide +kernel) w h).1
set_option maxRecDepth 20000 in
theorem wsL_law_r6_in : ∀ w ∈ wsL_law_r6, w ∈ lw_tbl := fun w h => (goodIn_p wsL_law_r6 [239, 243, 247, 251, 255, 259] (by decide +kernel) (by decide +kernel) w h).1
set_option maxRecDepth 20000 in
theorem wsL_law_r7_in : ∀ w ∈ wsL_law_r7, w ∈ lw_tbl := fun w h => (goodIn_p wsL_law_r7 [263, 268, 272, 275, 279] (by decide +kernel) (by decide +kernel) w h).1
set_option maxRecDepth 20000 in
theorem wsL_law_r8_in : ∀ w ∈ wsL_law_r8, w ∈ lw_tbl := fun w h => (goodIn_p wsL_law_r8 [284, 287, 297, 673] (by decide +kernel) (by decide +kernel) w h).1
set_option maxRecDepth 20000 in
theorem wsL_law_r9_in : ∀ w ∈ wsL_law_r9, w ∈ lw_tbl := fun w h => (goodIn_p wsL_law_r9 [676, 680, 684, 689, 693] (by decide +kernel) (by decide +kernel) w h).1
set_option maxRecDepth 20000 in
theorem wsL_law_r10_in : ∀ w ∈ wsL_law_r10, w ∈ lw_tbl := fun w h => (goodIn_p wsL_law_r10 [696, 700, 704, 708, 712, 716] (by decide +kernel) (by decide +kernel) w h).1
set_option maxRecDepth 20000 in
theorem wsL_law_r11_in : ∀ w ∈ wsL_law_r11, w ∈ lw_tbl := fun w h => (goodIn_p wsL_law_r11 [720, 301, 305, 310, 724] (by decide +kernel) (by decide +kernel) w h).1
set_option maxRecDepth 20000 in
theorem wsL_law_r12_in : ∀ w ∈ wsL_law_r12, w ∈ lw_tbl := fun w h => (goodIn_p wsL_law_r12 [728, 732, 314, 318, 322, 736] (by decide +kernel) (by decide +kernel) w h).1
set_option maxRecDepth 20000 in
theorem wsL_law_r13_in : ∀ w ∈ wsL_law_r13, w ∈ lw_tbl := fun w h => (goodIn_p wsL_law_r13 [740, 326, 744, 330, 334] (by decide +kernel) (by decide +kernel) w h).1
set_option maxRecDepth 20000 in
theorem wsL_law_r14_in : ∀ w ∈ wsL_law_r14, w ∈ lw_tbl := fun w h => (goodIn_p wsL_law_r14 [748, 338, 342, 346, 350, 353] (by decide +kernel) (by decide +kernel) w h).1
set_option maxRecDepth 20000 in
theorem wsL_law_r15_in : ∀ w ∈ wsL_law_r15, w ∈ lw_tbl := fun w h => (goodIn_p wsL_law_r15 [752, 756, 760, 764, 357, 361] (by decide +kernel) (by decide +kernel) w h).1
set_option maxRecDepth 20000 in
theorem wsL_law_r16_in : ∀ w ∈ wsL_law_r16, w ∈ lw_tbl := fun w h => (goodIn_p wsL_law_r16 [768, 772, 367, 371, 776] (by decide +kernel) (by decide +kernel) w h).1
set_option maxRecDepth 20000 in
theorem wsL_law_r17_in : ∀ w ∈ wsL_law_r17, w ∈ lw_tbl := fun w h => (goodIn_p wsL_law_r17 [780, 376, 784, 788, 792, 380] (by decide +kernel) (by decide +kernel) w h).1
set_option maxRecDepth 20000 in
theorem wsL_law_r18_in : ∀ w ∈ wsL_law_r18, w ∈ lw_tbl := fun w h => (goodIn_p wsL_law_r18 [384, 796, 800, 389, 393, 397] (by decide +kernel) (by decide +kernel) w h).1
set_option maxRecDepth 20000 in
theorem wsL_law_r19_in : ∀ w ∈ wsL_law_r19, w ∈ lw_tbl := fun w h => (goodIn_p wsL_law_r19 [402, 804, 808, 811, 406, 410] (by decide +kernel) (by decide +kernel) w h).1
set_option maxRecDepth 20000 in
theorem wsL_law_r20_in : ∀ w ∈ wsL_law_r20, w ∈ lw_tbl := fun w h => (goodIn_p wsL_law_r20 [815, 819, 414, 417, 823] (by decide +kernel) (by decide +kernel) w h).1
set_option maxRecDepth 20000 in
theorem wsL_law_r21_in : ∀ w ∈ wsL_law_r21, w ∈ lw_tbl := fun w h => (goodIn_p wsL_law_r21 [422, 426, 430, 434, 438, 444] (by decide +kernel) (by decide +kernel) w h).1
set_option maxRecDepth 20000 in
theorem wsL_law_r22_in : ∀ w ∈ wsL_law_r22, w ∈ lw_tbl := fun w h => (goodIn_p wsL_law_r22 [827, 831, 835, 839, 843, 448] (by decide +kernel) (by decide +kernel) w h).1
set_option maxRecDepth 20000 in
theorem wsL_law_r23_in : ∀ w ∈ wsL_law_r23, w ∈ lw_tbl := fun w h => (goodIn_p wsL_law_r23 [847, 452, 456, 459, 851] (by decide +kernel) (by decide +kernel) w h).1
set_option maxRecDepth 20000 in
theorem wsL_law_r24_in : ∀ w ∈ wsL_law_r24, w ∈ lw_tbl := fun w h => (goodIn_p wsL_law_r24 [854, 466, 858, 470, 863] (by decide +kernel) (by decide +kernel) w h).1
set_option maxRecDepth 20000 in
theorem wsL_law_r25_in : ∀ w ∈ wsL_law_r25, w ∈ lw_tbl := fun w h => (goodIn_p wsL_law_r25 [474, 479, 867, 871, 483, 875] (by decide +kernel) (by decide +kernel) w h).1
set_option maxRecDepth 20000 in
theorem wsL_law_r26_in : ∀ w ∈ wsL_law_r26, w ∈ lw_tbl := fun w h => (goodIn_p wsL_law_r26 [487, 879, 491, 883, 886, 890] (by decide +kernel) (by decide +kernel) w h).1
set_option maxRecDepth 20000 in
theorem wsL_law_r27_in : ∀ w ∈ wsL_law_r27, w ∈ lw_tbl := fun w h => (goodIn_p wsL_law_r27 [496, 500, 894, 505, 898] (by decide +kernel) (by decide +kernel) w h).1
set_option maxRecDepth 20000 in
theorem wsL_law_r28_in : ∀ w ∈ wsL_law_r28, w ∈ lw_tbl := fun w h => (goodIn_p wsL_law_r28 [510, 514, 902, 906, 518, 910] (by decide +kernel) (by decide +kernel) w h).1
set_option maxRecDepth 20000 in
theorem wsL_law_r29_in : ∀ w ∈ wsL_law_r29, w ∈ lw_tbl := fun w h => (goodIn_p wsL_law_r29 [914, 522, 918, 530, 534] (by decide +kernel) (by decide +kernel) w h).1
set_option maxRecDepth 20000 in
theorem wsL_law_r30_in : ∀ w ∈ wsL_law_r30, w ∈ lw_tbl := fun w h => (goodIn_p wsL_law_r30 [538, 542, 546, 922, 926, 550] (by decide +kernel) (by decide +kernel) w h).1
set_option maxRecDepth 20000 in
theorem wsL_law_r31_in : ∀ w ∈ wsL_law_r31, w ∈ lw_tbl := fun w h => (goodIn_p wsL_law_r31 [930, 554, 934, 558, 938, 562] (by decide +kernel) (by decide +kernel) w h).1
set_option maxRecDepth 20000 in
theorem wsL_law_r32_in : ∀ w ∈ wsL_law_r32, w ∈ lw_tbl := fun w h => (goodIn_p wsL_law_r32 [942, 566, 946] (by decide +kernel) (by decide +kernel) w h).1
theorem wsX30_intbl : ∀ w ∈ wsX30, w ∈ lw_tbl := by decide +kernel
theorem wsX40_intbl : ∀ w ∈ wsX40, w ∈ lw_tbl := by decide +kernel
theorem wsX10_intbl : ∀ w ∈ wsX10, w ∈ lw_tbl := by decide +kernel
theorem wsX20_intbl : ∀ w ∈ wsX20, w ∈ lw_tbl := by decide +kernel
theorem wsX00_intbl : ∀ w ∈ wsX00, w ∈ lw_tbl := by decide +kernel
theorem wsL_law_in : ∀ w ∈ wsL_law, w ∈ lw_tbl := (List.forall_mem_append.mpr ⟨(List.forall_mem_append.mpr ⟨(List.forall_mem_append.mpr ⟨(List.forall_mem_append.mpr ⟨(List.forall_mem_append.mpr ⟨(List.forall_mem_append.mpr ⟨(List.forall_mem_append.mpr ⟨wsL_law_r1_in, (List.forall_mem_append.mpr ⟨wsL_law_r2_in, (List.forall_mem_append.mpr ⟨wsL_law_r3_in, (List.forall_mem_append.mpr ⟨wsL_law_r4_in, (List.forall_mem_append.mpr ⟨wsL_law_r5_in, (List.forall_mem_append.mpr ⟨wsL_law_r6_in, (List.forall_mem_append.mpr ⟨wsL_law_r7_in, (List.forall_mem_append.mpr ⟨wsL_law_r8_in, (List.forall_mem_append.mpr ⟨wsL_law_r9_in, (List.forall_mem_append.mpr ⟨wsL_law_r10_in, (List.forall_mem_append.mpr ⟨wsL_law_r11_in, (List.forall_mem_append.mpr ⟨wsL_law_r12_in, (List.forall_mem_append.mpr ⟨wsL_law_r13_in, (List.forall_mem_append.mpr ⟨wsL_law_r14_in, (List.forall_mem_append.mpr ⟨wsL_law_r15_in, (List.forall_mem_append.mpr ⟨wsL_law_r16_in, (List.forall_mem_append.mpr ⟨wsL_law_r17_in, (List.forall_mem_append.mpr ⟨wsL_law_r18_in, (List.forall_mem_append.mpr ⟨wsL_law_r19_in, (List.forall_mem_append.mpr ⟨wsL_law_r20_in, (List.forall_mem_append.mpr ⟨wsL_law_r21_in, (List.forall_mem_append.mpr ⟨wsL_law_r22_in, (List.forall_mem_append.mpr ⟨wsL_law_r23_in, (List.forall_mem_append.mpr ⟨wsL_law_r24_in, (List.forall_mem_append.mpr ⟨wsL_law_r25_in, (List.forall_mem_append.mpr ⟨wsL_law_r26_in, (List.forall_mem_append.mpr ⟨wsL_law_r27_in, (List.forall_mem_append.mpr ⟨wsL_law_r28_in, (List.forall_mem_append.mpr ⟨wsL_law_r29_in, (List.forall_mem_append.mpr ⟨wsL_law_r30_in, (List.forall_mem_append.mpr ⟨wsL_law_r31_in, wsL_law_r32_in⟩)⟩)⟩)⟩)⟩)⟩)⟩)⟩)⟩)⟩)⟩)⟩)⟩)⟩)⟩)⟩)⟩)⟩)⟩)⟩)⟩)⟩)⟩)⟩)⟩)⟩)⟩)⟩)⟩)⟩)⟩), wsX30_intbl⟩), wsX40_intbl⟩), wsX10_intbl⟩), wsX20_intbl⟩), wsX00_intbl⟩), fun _ h => absurd h List.not_mem_nil⟩)
end
section
theorem inlX0 : ∀ w ∈ wsX00, w ∈ wsL_law := fun _ h => List.mem_append_left _ (List.mem_append_right _ h)
theorem inX0 : ∀ w ∈ wsX00, w ∈ lw_tbl := fun w h => wsL_law_in w (inlX0 w h)
theorem inlX1 : ∀ w ∈ wsX10, w ∈ wsL_law := fun _ h => List.mem_append_left _ (List.mem_append_left _ (List.mem_append_left _ (List.mem_append_right _ h)))
theorem inX1 : ∀ w ∈ wsX10, w ∈ lw_tbl := fun w h => wsL_law_in w (inlX1 w h)
theorem inlX2 : ∀ w ∈ wsX20, w ∈ wsL_law := fun _ h => List.mem_append_left _ (List.mem_append_left _ (List.mem_append_right _ h))
theorem inX2 : ∀ w ∈ wsX20, w ∈ lw_tbl := fun w h => wsL_law_in w (inlX2 w h)
theorem inlX3 : ∀ w ∈ wsX30, w ∈ wsL_law := fun _ h => List.mem_append_left _ (List.mem_append_left _ (List.mem_append_left _ (List.mem_append_left _ (List.mem_append_left _ (List.mem_append_right _ h)))))
theorem inX3 : ∀ w ∈ wsX30, w ∈ lw_tbl := fun w h => wsL_law_in w (inlX3 w h)
theorem inlX4 : ∀ w ∈ wsX40, w ∈ wsL_law := fun _ h => List.mem_append_left _ (List.mem_append_left _ (List.mem_append_left _ (List.mem_append_left _ (List.mem_append_right _ h))))
theorem inX4 : ∀ w ∈ wsX40, w ∈ lw_tbl := fun w h => wsL_law_in w (inlX4 w h)
theorem inJ6 : ∀ w ∈ wsJ60, w ∈ lw_tbl := by decide +kernel
theorem inJ9 : ∀ w ∈ wsJ90, w ∈ lw_tbl := by decide +kernel
theorem inJ10 : ∀ w ∈ wsJ100, w ∈ lw_tbl := by decide +kernel
theorem inJ7 : ∀ w ∈ wsJ70, w ∈ lw_tbl := by decide +kernel
theorem dX0_init_0 : decode cX0_init 0 = .ok (.aload_n 0, 1) := by decide +kernel
theorem dX0_init_1 : decode cX0_init 1 = .ok (.invokespecial 3, 3) := by decide +kernel
theorem dX0_init_4 : decode cX0_init 4 = .ok (.aload_n 0, 1) := by decide +kernel
theorem dX0_init_5 : decode cX0_init 5 = .ok (.bipush 60, 2) := by decide +kernel
theorem dX0_init_7 : decode cX0_init 7 = .ok (.newarray .int, 2) := by decide +kernel
theorem dX0_init_9 : decode cX0_init 9 = .ok (.putfield 9, 3) := by decide +kernel
theorem dX0_init_12 : decode cX0_init 12 = .ok (.aload_n 0, 1) := by decide +kernel
theorem dX0_init_13 : decode cX0_init 13 = .ok (.iconst (-1), 1) := by decide +kernel
theorem dX0_init_14 : decode cX0_init 14 = .ok (.putfield 15, 3) := by decide +kernel
theorem dX0_init_17 : decode cX0_init 17 = .ok (.aload_n 0, 1) := by decide +kernel
theorem dX0_init_18 : decode cX0_init 18 = .ok (.iconst 0, 1) := by decide +kernel
theorem dX0_init_19 : decode cX0_init 19 = .ok (.putfield 19, 3) := by decide +kernel
theorem dX0_init_22 : decode cX0_init 22 = .ok (.return_, 1) := by decide +kernel
theorem dX0_hasRow_0 : decode cX0_hasRow 0 = .ok (.aload_n 0, 1) := by decide +kernel
theorem dX0_hasRow_1 : decode cX0_hasRow 1 = .ok (.getfield 15, 3) := by decide +kernel
theorem dX0_hasRow_4 : decode cX0_hasRow 4 = .ok (.iconst (-1), 1) := by decide +kernel
theorem dX0_hasRow_5 : decode cX0_hasRow 5 = .ok (.if_icmp .eq 7, 3) := by decide +kernel
theorem dX0_hasRow_8 : decode cX0_hasRow 8 = .ok (.iconst 1, 1) := by decide +kernel
theorem dX0_hasRow_9 : decode cX0_hasRow 9 = .ok (.goto 4, 3) := by decide +kernel
theorem dX0_hasRow_12 : decode cX0_hasRow 12 = .ok (.iconst 0, 1) := by decide +kernel
theorem dX0_hasRow_13 : decode cX0_hasRow 13 = .ok (.ireturn, 1) := by decide +kernel
set_option maxRecDepth 20000 in
theorem ggX0_renew_J7_fill_53178 : GoodIn wsX0_renew wsJ7_fill_53178 := goodIn_r _ [7] (by decide +kernel) (by decide +kernel)
set_option maxRecDepth 20000 in
theorem gX0_renew_J7_fill_53178 : GoodIn wsX0_renew (va_wsS RX0 22 yJ7_fill_53178 wsJ7_fill_53178) := goodIn_app (goodIn_of _ (by decide +kernel)) ggX0_renew_J7_fill_53178
theorem dX0_renew_0 : decode cX0_renew 0 = .ok (.aload_n 0, 1) := by decide +kernel
theorem dX0_renew_1 : decode cX0_renew 1 = .ok (.iload_n 1, 1) := by decide +kernel
theorem dX0_renew_2 : decode cX0_renew 2 = .ok (.putfield 15, 3) := by decide +kernel
theorem dX0_renew_5 : decode cX0_renew 5 = .ok (.aload_n 0, 1) := by decide +kernel
theorem dX0_renew_6 : decode cX0_renew 6 = .ok (.iload_n 2, 1) := by decide +kernel
theorem dX0_renew_7 : decode cX0_renew 7 = .ok (.putfield 19, 3) := by decide +kernel
theorem dX0_renew_10 : decode cX0_renew 10 = .ok (.aload_n 0, 1) := by decide +kernel
theorem dX0_renew_11 : decode cX0_renew 11 = .ok (.getfield 9, 3) := by decide +kernel
theorem dX0_renew_14 : decode cX0_renew 14 = .ok (.iconst 0, 1) := by decide +kernel
theorem dX0_renew_15 : decode cX0_renew 15 = .ok (.invokestatic 22, 3) := by decide +kernel
theorem dX0_renew_18 : decode cX0_renew 18 = .ok (.return_, 1) := by decide +kernel
theorem dX0_cut_0 : decode cX0_cut 0 = .ok (.aload_n 0, 1) := by decide +kernel
theorem dX0_cut_1 : decode cX0_cut 1 = .ok (.getfield 15, 3) := by decide +kernel
theorem dX0_cut_4 : decode cX0_cut 4 = .ok (.lookupswitch 34 #[(0, 28), (1, 31)], 28) := by decide +kernel
theorem dX0_cut_32 : decode cX0_cut 32 = .ok (.iload_n 1, 1) := by decide +kernel
theorem dX0_cut_33 : decode cX0_cut 33 = .ok (.i2b, 1) := by decide +kernel
theorem dX0_cut_34 : decode cX0_cut 34 = .ok (.ireturn, 1) := by decide +kernel
theorem dX0_cut_35 : decode cX0_cut 35 = .ok (.iload_n 1, 1) := by decide +kernel
theorem dX0_cut_36 : decode cX0_cut 36 = .ok (.i2s, 1) := by decide +kernel
theorem dX0_cut_37 : decode cX0_cut 37 = .ok (.ireturn, 1) := by decide +kernel
theorem dX0_cut_38 : decode cX0_cut 38 = .ok (.iload_n 1, 1) := by decide +kernel
theorem dX0_cut_39 : decode cX0_cut 39 = .ok (.ireturn, 1) := by decide +kernel
theorem dX0_holds_0 : decode cX0_holds 0 = .ok (.iload_n 1, 1) := by decide +kernel
theorem dX0_holds_1 : decode cX0_holds 1 = .ok (.ifCond .lt 29, 3) := by decide +kernel
theorem dX0_holds_4 : decode cX0_holds 4 = .ok (.iload_n 1, 1) := by decide +kernel
theorem dX0_holds_5 : decode cX0_holds 5 = .ok (.aload_n 0, 1) := by decide +kernel
theorem dX0_holds_6 : decode cX0_holds 6 = .ok (.getfield 19, 3) := by decide +kernel
theorem dX0_holds_9 : decode cX0_holds 9 = .ok (.if_icmp .gt 21, 3) := by decide +kernel
theorem dX0_holds_12 : decode cX0_holds 12 = .ok (.iload_n 2, 1) := by decide +kernel
theorem dX0_holds_13 : decode cX0_holds 13 = .ok (.ifCond .lt 17, 3) := by decide +kernel
theorem dX0_holds_16 : decode cX0_holds 16 = .ok (.iload_n 2, 1) := by decide +kernel
theorem dX0_holds_17 : decode cX0_holds 17 = .ok (.aload_n 0, 1) := by decide +kernel
theorem dX0_holds_18 : decode cX0_holds 18 = .ok (.getfield 19, 3) := by decide +kernel
theorem dX0_holds_21 : decode cX0_holds 21 = .ok (.iload_n 1, 1) := by decide +kernel
theorem dX0_holds_22 : decode cX0_holds 22 = .ok (.isub, 1) := by decide +kernel
theorem dX0_holds_23 : decode cX0_holds 23 = .ok (.if_icmp .gt 7, 3) := by decide +kernel
theorem dX0_holds_26 : decode cX0_holds 26 = .ok (.iconst 1, 1) := by decide +kernel
theorem dX0_holds_27 : decode cX0_holds 27 = .ok (.goto 4, 3) := by decide +kernel
theorem dX0_holds_30 : decode cX0_holds 30 = .ok (.iconst 0, 1) := by decide +kernel
theorem dX0_holds_31 : decode cX0_holds 31 = .ok (.ireturn, 1) := by decide +kernel
set_option maxRecDepth 20000 in
theorem ggX0_faultOfTaking_X0_hasRow : GoodIn wsX0_faultOfTaking wsX0_hasRow := goodIn_r _ [6, 1, 12, 13, 14] (by decide +kernel) (by decide +kernel)
set_option maxRecDepth 20000 in
theorem gX0_faultOfTaking_X0_hasRow : GoodIn wsX0_faultOfTaking (wsV RX0 28 RX0 yX0_hasRow wsX0_hasRow) := goodIn_app (goodIn_of _ (by decide +kernel)) ggX0_faultOfTaking_X0_hasRow
set_option maxRecDepth 20000 in
theorem ggX0_faultOfTaking_X0_holds : GoodIn wsX0_faultOfTaking wsX0_holds := goodIn_r _ [10, 11, 12, 13, 14] (by decide +kernel) (by decide +kernel)
set_option maxRecDepth 20000 in
theorem gX0_faultOfTaking_X0_holds : GoodIn wsX0_faultOfTaking (wsV RX0 32 RX0 yX0_holds wsX0_holds) := goodIn_app (goodIn_of _ (by decide +kernel)) ggX0_faultOfTaking_X0_holds
theorem dX0_faultOfTaking_0 : decode cX0_faultOfTaking 0 = .ok (.aload_n 0, 1) := by decide +kernel
theorem dX0_faultOfTaking_1 : decode cX0_faultOfTaking 1 = .ok (.invokevirtual 28, 3) := by decide +kernel
theorem dX0_faultOfTaking_4 : decode cX0_faultOfTaking 4 = .ok (.ifCond .ne 5, 3) := by decide +kernel
theorem dX0_faultOfTaking_7 : decode cX0_faultOfTaking 7 = .ok (.iconst 1, 1) := by decide +kernel
theorem dX0_faultOfTaking_8 : decode cX0_faultOfTaking 8 = .ok (.ireturn, 1) := by decide +kernel
theorem dX0_faultOfTaking_9 : decode cX0_faultOfTaking 9 = .ok (.aload_n 0, 1) := by decide +kernel
theorem dX0_faultOfTaking_10 : decode cX0_faultOfTaking 10 = .ok (.getfield 15, 3) := by decide +kernel
theorem dX0_faultOfTaking_13 : decode cX0_faultOfTaking 13 = .ok (.iload_n 1, 1) := by decide +kernel
theorem dX0_faultOfTaking_14 : decode cX0_faultOfTaking 14 = .ok (.if_icmp .eq 5, 3) := by decide +kernel
theorem dX0_faultOfTaking_17 : decode cX0_faultOfTaking 17 = .ok (.iconst 2, 1) := by decide +kernel
theorem dX0_faultOfTaking_18 : decode cX0_faultOfTaking 18 = .ok (.ireturn, 1) := by decide +kernel
theorem dX0_faultOfTaking_19 : decode cX0_faultOfTaking 19 = .ok (.iload_n 3, 1) := by decide +kernel
theorem dX0_faultOfTaking_20 : decode cX0_faultOfTaking 20 = .ok (.ifCond .ge 5, 3) := by decide +kernel
theorem dX0_faultOfTaking_23 : decode cX0_faultOfTaking 23 = .ok (.iconst 4, 1) := by decide +kernel
theorem dX0_faultOfTaking_24 : decode cX0_faultOfTaking 24 = .ok (.ireturn, 1) := by decide +kernel
theorem dX0_faultOfTaking_25 : decode cX0_faultOfTaking 25 = .ok (.aload_n 0, 1) := by decide +kernel
theorem dX0_faultOfTaking_26 : decode cX0_faultOfTaking 26 = .ok (.iload_n 2, 1) := by decide +kernel
theorem dX0_faultOfTaking_27 : decode cX0_faultOfTaking 27 = .ok (.iload_n 3, 1) := by decide +kernel
theorem dX0_faultOfTaking_28 : decode cX0_faultOfTaking 28 = .ok (.invokevirtual 32, 3) := by decide +kernel
theorem dX0_faultOfTaking_31 : decode cX0_faultOfTaking 31 = .ok (.ifCond .eq 7, 3) := by decide +kernel
theorem dX0_faultOfTaking_34 : decode cX0_faultOfTaking 34 = .ok (.iconst 0, 1) := by decide +kernel
theorem dX0_faultOfTaking_35 : decode cX0_faultOfTaking 35 = .ok (.goto 4, 3) := by decide +kernel
theorem dX0_faultOfTaking_38 : decode cX0_faultOfTaking 38 = .ok (.iconst 3, 1) := by decide +kernel
theorem dX0_faultOfTaking_39 : decode cX0_faultOfTaking 39 = .ok (.ireturn, 1) := by decide +kernel
theorem dX1_init_0 : decode cX1_init 0 = .ok (.aload_n 0, 1) := by decide +kernel
theorem dX1_init_1 : decode cX1_init 1 = .ok (.invokespecial 3, 3) := by decide +kernel
theorem dX1_init_4 : decode cX1_init 4 = .ok (.aload_n 0, 1) := by decide +kernel
theorem dX1_init_5 : decode cX1_init 5 = .ok (.bipush 60, 2) := by decide +kernel
theorem dX1_init_7 : decode cX1_init 7 = .ok (.newarray .int, 2) := by decide +kernel
theorem dX1_init_9 : decode cX1_init 9 = .ok (.putfield 9, 3) := by decide +kernel
theorem dX1_init_12 : decode cX1_init 12 = .ok (.aload_n 0, 1) := by decide +kernel
theorem dX1_init_13 : decode cX1_init 13 = .ok (.iconst 0, 1) := by decide +kernel
theorem dX1_init_14 : decode cX1_init 14 = .ok (.putfield 15, 3) := by decide +kernel
theorem dX1_init_17 : decode cX1_init 17 = .ok (.aload_n 0, 1) := by decide +kernel
theorem dX1_init_18 : decode cX1_init 18 = .ok (.iconst 0, 1) := by decide +kernel
theorem dX1_init_19 : decode cX1_init 19 = .ok (.putfield 19, 3) := by decide +kernel
theorem dX1_init_22 : decode cX1_init 22 = .ok (.return_, 1) := by decide +kernel
set_option maxRecDepth 20000 in
theorem ggX1_load_X3_read : GoodIn wsX1_load wsX3_read := goodIn_r _ [7] (by decide +kernel) (by decide +kernel)
set_option maxRecDepth 20000 in
theorem gX1_load_X3_read_n27 : GoodIn wsX1_load (wsX3_read) := ggX1_load_X3_read
set_option maxRecDepth 20000 in
theorem ggX1_load_X3_write : GoodIn wsX1_load wsX3_write := goodIn_r _ [9] (by decide +kernel) (by decide +kernel)
set_option maxRecDepth 20000 in
theorem gX1_load_X3_write_n31 : GoodIn wsX1_load (wsX3_write) := ggX1_load_X3_write
theorem dX1_load_0 : decode cX1_load 0 = .ok (.aload_n 0, 1) := by decide +kernel
theorem dX1_load_1 : decode cX1_load 1 = .ok (.iconst 0, 1) := by decide +kernel
theorem dX1_load_2 : decode cX1_load 2 = .ok (.putfield 19, 3) := by decide +kernel
theorem dX1_load_5 : decode cX1_load 5 = .ok (.aload_n 0, 1) := by decide +kernel
theorem dX1_load_6 : decode cX1_load 6 = .ok (.iload_n 3, 1) := by decide +kernel
theorem dX1_load_7 : decode cX1_load 7 = .ok (.putfield 15, 3) := by decide +kernel
theorem dX1_load_10 : decode cX1_load 10 = .ok (.iconst 0, 1) := by decide +kernel
theorem dX1_load_11 : decode cX1_load 11 = .ok (.istore 4, 2) := by decide +kernel
theorem dX1_load_13 : decode cX1_load 13 = .ok (.iload 4, 2) := by decide +kernel
theorem dX1_load_15 : decode cX1_load 15 = .ok (.iload_n 3, 1) := by decide +kernel
theorem dX1_load_16 : decode cX1_load 16 = .ok (.if_icmp .ge 29, 3) := by decide +kernel
theorem dX1_load_19 : decode cX1_load 19 = .ok (.aload_n 0, 1) := by decide +kernel
theorem dX1_load_20 : decode cX1_load 20 = .ok (.getfield 9, 3) := by decide +kernel
theorem dX1_load_23 : decode cX1_load 23 = .ok (.iload 4, 2) := by decide +kernel
theorem dX1_load_25 : decode cX1_load 25 = .ok (.aload_n 1, 1) := by decide +kernel
theorem dX1_load_26 : decode cX1_load 26 = .ok (.getfield 22, 3) := by decide +kernel
theorem dX1_load_29 : decode cX1_load 29 = .ok (.iload_n 2, 1) := by decide +kernel
theorem dX1_load_30 : decode cX1_load 30 = .ok (.iload 4, 2) := by decide +kernel
theorem dX1_load_32 : decode cX1_load 32 = .ok (.iadd, 1) := by decide +kernel
theorem dX1_load_33 : decode cX1_load 33 = .ok (.invokestatic 27, 3) := by decide +kernel
theorem dX1_load_36 : decode cX1_load 36 = .ok (.invokestatic 31, 3) := by decide +kernel
theorem dX1_load_39 : decode cX1_load 39 = .ok (.iinc 4 1, 3) := by decide +kernel
theorem dX1_load_42 : decode cX1_load 42 = .ok (.goto (-29), 3) := by decide +kernel
theorem dX1_load_45 : decode cX1_load 45 = .ok (.return_, 1) := by decide +kernel
set_option maxRecDepth 20000 in
theorem ggX1_readInto_X2_clear : GoodIn wsX1_readInto wsX2_clear := goodIn_r _ [8, 9, 10, 11, 12, 13, 14, 15, 16, 17, 7, 18, 19, 20, 21, 81, 82, 83, 84, 85, 86, 87, 88, 89, 90, 91, 92, 93, 94, 95, 96, 97, 98] (by decide +kernel) (by decide +kernel)
set_option maxRecDepth 20000 in
theorem gX1_readInto_X2_clear : GoodIn wsX1_readInto (wsV RX1 35 RX2 yX2_clear wsX2_clear) := goodIn_app (goodIn_of _ (by decide +kernel)) ggX1_readInto_X2_clear
set_option maxRecDepth 20000 in
theorem ggX1_readInto_X1_takes : GoodIn wsX1_readInto wsX1_takes := goodIn_r _ [26, 1, 27, 28, 29, 25, 30, 2, 31, 32, 33, 34, 78, 79, 80] (by decide +kernel) (by decide +kernel)
set_option maxRecDepth 20000 in
theorem gX1_readInto_X1_takes : GoodIn wsX1_readInto (wsV RX1 40 RX1 yX1_takes wsX1_takes) := goodIn_app (goodIn_of _ (by decide +kernel)) ggX1_readInto_X1_takes
set_option maxRecDepth 20000 in
theorem ggX1_readInto_X1_digit : GoodIn wsX1_readInto wsX1_digit := goodIn_r _ [38, 1, 27, 28, 29, 25, 30, 2, 31, 32, 33, 34, 78, 79, 80] (by decide +kernel) (by decide +kernel)
set_option maxRecDepth 20000 in
theorem gX1_readInto_X1_digit : GoodIn wsX1_readInto (wsV RX1 44 RX1 yX1_digit wsX1_digit) := goodIn_app (goodIn_of _ (by decide +kernel)) ggX1_readInto_X1_digit
set_option maxRecDepth 20000 in
theorem ggX1_readInto_X2_measure : GoodIn wsX1_readInto wsX2_measure := goodIn_r _ [18, 19, 20, 21, 81, 82, 83, 84, 85, 86, 87, 88, 89, 90, 91, 92, 93, 94, 95, 96, 97, 98] (by decide +kernel) (by decide +kernel)
set_option maxRecDepth 20000 in
theorem gX1_readInto_X2_measure : GoodIn wsX1_readInto (wsV RX1 48 RX2 yX2_measure wsX2_measure) := goodIn_app (goodIn_of _ (by decide +kernel)) ggX1_readInto_X2_measure
set_option maxRecDepth 20000 in
theorem ggX1_readInto_X1_readRow : GoodIn wsX1_readInto wsX1_readRow := goodIn_r _ [43, 44, 22, 23, 24, 25, 26, 1, 27, 28, 29, 30, 2, 31, 32, 33, 34, 45, 46, 47, 48, 49, 50, 51, 52, 53, 35, 36, 37, 38, 54, 55, 56, 7, 57, 58, 10, 20, 59, 60, 61, 62, 63, 64, 65, 66, 67, 19, 68, 69, 70, 71, 72, 73, 74, 75, 11, 76, 77, 81, 82, 83, 84, 85, 86, 87, 88, 89, 90, 91, 92, 93, 94, 95, 96, 97, 98, 78, 79, 80] (by decide +kernel) (by decide +kernel)
set_option maxRecDepth 20000 in
theorem gX1_readInto_X1_readRow : GoodIn wsX1_readInto (wsV RX1 52 RX1 yX1_readRow wsX1_readRow) := goodIn_app (goodIn_of _ (by decide +kernel)) ggX1_readInto_X1_readRow
theorem dX1_readInto_0 : decode cX1_readInto 0 = .ok (.aload_n 1, 1) := by decide +kernel
theorem dX1_readInto_1 : decode cX1_readInto 1 = .ok (.invokevirtual 35, 3) := by decide +kernel
theorem dX1_readInto_4 : decode cX1_readInto 4 = .ok (.aload_n 0, 1) := by decide +kernel
theorem dX1_readInto_5 : decode cX1_readInto 5 = .ok (.bipush 116, 2) := by decide +kernel
theorem dX1_readInto_7 : decode cX1_readInto 7 = .ok (.invokevirtual 40, 3) := by decide +kernel
theorem dX1_readInto_10 : decode cX1_readInto 10 = .ok (.ifCond .ne 5, 3) := by decide +kernel
theorem dX1_readInto_13 : decode cX1_readInto 13 = .ok (.iconst 0, 1) := by decide +kernel
theorem dX1_readInto_14 : decode cX1_readInto 14 = .ok (.ireturn, 1) := by decide +kernel
theorem dX1_readInto_15 : decode cX1_readInto 15 = .ok (.aload_n 0, 1) := by decide +kernel
theorem dX1_readInto_16 : decode cX1_readInto 16 = .ok (.iconst 1, 1) := by decide +kernel
theorem dX1_readInto_17 : decode cX1_readInto 17 = .ok (.iconst 4, 1) := by decide +kernel
theorem dX1_readInto_18 : decode cX1_readInto 18 = .ok (.invokevirtual 44, 3) := by decide +kernel
theorem dX1_readInto_21 : decode cX1_readInto 21 = .ok (.istore_n 2, 1) := by decide +kernel
theorem dX1_readInto_22 : decode cX1_readInto 22 = .ok (.iload_n 2, 1) := by decide +kernel
theorem dX1_readInto_23 : decode cX1_readInto 23 = .ok (.iconst (-1), 1) := by decide +kernel
theorem dX1_readInto_24 : decode cX1_readInto 24 = .ok (.if_icmp .ne 7, 3) := by decide +kernel
theorem dX1_readInto_27 : decode cX1_readInto 27 = .ok (.iconst (-1), 1) := by decide +kernel
theorem dX1_readInto_28 : decode cX1_readInto 28 = .ok (.goto 10, 3) := by decide +kernel
theorem dX1_readInto_31 : decode cX1_readInto 31 = .ok (.aload_n 0, 1) := by decide +kernel
theorem dX1_readInto_32 : decode cX1_readInto 32 = .ok (.iconst 2, 1) := by decide +kernel
theorem dX1_readInto_33 : decode cX1_readInto 33 = .ok (.bipush 6, 2) := by decide +kernel
theorem dX1_readInto_35 : decode cX1_readInto 35 = .ok (.invokevirtual 44, 3) := by decide +kernel
theorem dX1_readInto_38 : decode cX1_readInto 38 = .ok (.istore_n 3, 1) := by decide +kernel
theorem dX1_readInto_39 : decode cX1_readInto 39 = .ok (.iload_n 3, 1) := by decide +kernel
theorem dX1_readInto_40 : decode cX1_readInto 40 = .ok (.iconst (-1), 1) := by decide +kernel
theorem dX1_readInto_41 : decode cX1_readInto 41 = .ok (.if_icmp .ne 5, 3) := by decide +kernel
theorem dX1_readInto_44 : decode cX1_readInto 44 = .ok (.iconst 0, 1) := by decide +kernel
theorem dX1_readInto_45 : decode cX1_readInto 45 = .ok (.ireturn, 1) := by decide +kernel
theorem dX1_readInto_46 : decode cX1_readInto 46 = .ok (.aload_n 1, 1) := by decide +kernel
theorem dX1_readInto_47 : decode cX1_readInto 47 = .ok (.iload_n 2, 1) := by decide +kernel
theorem dX1_readInto_48 : decode cX1_readInto 48 = .ok (.iload_n 3, 1) := by decide +kernel
theorem dX1_readInto_49 : decode cX1_readInto 49 = .ok (.invokevirtual 48, 3) := by decide +kernel
theorem dX1_readInto_52 : decode cX1_readInto 52 = .ok (.iconst 0, 1) := by decide +kernel
theorem dX1_readInto_53 : decode cX1_readInto 53 = .ok (.istore 4, 2) := by decide +kernel
theorem dX1_readInto_55 : decode cX1_readInto 55 = .ok (.iload 4, 2) := by decide +kernel
theorem dX1_readInto_57 : decode cX1_readInto 57 = .ok (.iload_n 2, 1) := by decide +kernel
theorem dX1_readInto_58 : decode cX1_readInto 58 = .ok (.if_icmp .ge 21, 3) := by decide +kernel
theorem dX1_readInto_61 : decode cX1_readInto 61 = .ok (.aload_n 0, 1) := by decide +kernel
theorem dX1_readInto_62 : decode cX1_readInto 62 = .ok (.aload_n 1, 1) := by decide +kernel
theorem dX1_readInto_63 : decode cX1_readInto 63 = .ok (.iload 4, 2) := by decide +kernel
theorem dX1_readInto_65 : decode cX1_readInto 65 = .ok (.invokevirtual 52, 3) := by decide +kernel
theorem dX1_readInto_68 : decode cX1_readInto 68 = .ok (.ifCond .ne 5, 3) := by decide +kernel
theorem dX1_readInto_71 : decode cX1_readInto 71 = .ok (.iconst 0, 1) := by decide +kernel
theorem dX1_readInto_72 : decode cX1_readInto 72 = .ok (.ireturn, 1) := by decide +kernel
theorem dX1_readInto_73 : decode cX1_readInto 73 = .ok (.iinc 4 1, 3) := by decide +kernel
theorem dX1_readInto_76 : decode cX1_readInto 76 = .ok (.goto (-21), 3) := by decide +kernel
theorem dX1_readInto_79 : decode cX1_readInto 79 = .ok (.aload_n 1, 1) := by decide +kernel
theorem dX1_readInto_80 : decode cX1_readInto 80 = .ok (.aload_n 0, 1) := by decide +kernel
theorem dX1_readInto_81 : decode cX1_readInto 81 = .ok (.getfield 19, 3) := by decide +kernel
theorem dX1_readInto_84 : decode cX1_readInto 84 = .ok (.aload_n 0, 1) := by decide +kernel
theorem dX1_readInto_85 : decode cX1_readInto 85 = .ok (.getfield 15, 3) := by decide +kernel
theorem dX1_readInto_88 : decode cX1_readInto 88 = .ok (.if_icmp .ne 7, 3) := by decide +kernel
theorem dX1_readInto_91 : decode cX1_readInto 91 = .ok (.iconst 1, 1) := by decide +kernel
theorem dX1_readInto_92 : decode cX1_readInto 92 = .ok (.goto 4, 3) := by decide +kernel
theorem dX1_readInto_95 : decode cX1_readInto 95 = .ok (.iconst 0, 1) := by decide +kernel
theorem dX1_readInto_96 : decode cX1_readInto 96 = .ok (.putfield 56, 3) := by decide +kernel
theorem dX1_readInto_99 : decode cX1_readInto 99 = .ok (.aload_n 1, 1) := by decide +kernel
theorem dX1_readInto_100 : decode cX1_readInto 100 = .ok (.getfield 56, 3) := by decide +kernel
theorem dX1_readInto_103 : decode cX1_readInto 103 = .ok (.ireturn, 1) := by decide +kernel
set_option maxRecDepth 20000 in
theorem ggX1_readRow_X1_takes : GoodIn wsX1_readRow wsX1_takes := goodIn_r _ [6, 7, 8, 9, 10, 5, 11, 12, 13, 14, 15, 16, 77, 78, 79] (by decide +kernel) (by decide +kernel)
set_option maxRecDepth 20000 in
theorem gX1_readRow_X1_takes : GoodIn wsX1_readRow (wsV RX1 40 RX1 yX1_takes wsX1_takes) := goodIn_app (goodIn_of _ (by decide +kernel)) ggX1_readRow_X1_takes
set_option maxRecDepth 20000 in
theorem ggX1_readRow_X1_readPart : GoodIn wsX1_readRow wsX1_readPart := goodIn_r _ [20, 21, 22, 7, 1, 8, 9, 10, 5, 11, 12, 13, 14, 15, 16, 23, 24, 25, 26, 27, 28, 29, 30, 31, 32, 33, 34, 35, 36, 37, 38, 39, 40, 41, 42, 43, 44, 45, 46, 47, 48, 49, 50, 51, 52, 53, 54, 55, 56, 57, 58, 59, 60, 61, 62, 63, 64, 65, 66, 67, 68, 69, 70, 71, 72, 73, 74, 75, 76, 77, 78, 79] (by decide +kernel) (by decide +kernel)
set_option maxRecDepth 20000 in
theorem gX1_readRow_X1_readPart : GoodIn wsX1_readRow (wsV RX1 63 RX1 yX1_readPart wsX1_readPart) := goodIn_app (goodIn_of _ (by decide +kernel)) ggX1_readRow_X1_readPart
theorem dX1_readRow_0 : decode cX1_readRow 0 = .ok (.aload_n 0, 1) := by decide +kernel
theorem dX1_readRow_1 : decode cX1_readRow 1 = .ok (.bipush 59, 2) := by decide +kernel
theorem dX1_readRow_3 : decode cX1_readRow 3 = .ok (.invokevirtual 40, 3) := by decide +kernel
theorem dX1_readRow_6 : decode cX1_readRow 6 = .ok (.ifCond .ne 5, 3) := by decide +kernel
theorem dX1_readRow_9 : decode cX1_readRow 9 = .ok (.iconst 0, 1) := by decide +kernel
theorem dX1_readRow_10 : decode cX1_readRow 10 = .ok (.ireturn, 1) := by decide +kernel
theorem dX1_readRow_11 : decode cX1_readRow 11 = .ok (.iconst 0, 1) := by decide +kernel
theorem dX1_readRow_12 : decode cX1_readRow 12 = .ok (.istore_n 3, 1) := by decide +kernel
theorem dX1_readRow_13 : decode cX1_readRow 13 = .ok (.iload_n 3, 1) := by decide +kernel
theorem dX1_readRow_14 : decode cX1_readRow 14 = .ok (.aload_n 1, 1) := by decide +kernel
theorem dX1_readRow_15 : decode cX1_readRow 15 = .ok (.getfield 60, 3) := by decide +kernel
theorem dX1_readRow_18 : decode cX1_readRow 18 = .ok (.if_icmp .ge 30, 3) := by decide +kernel
theorem dX1_readRow_21 : decode cX1_readRow 21 = .ok (.aload_n 0, 1) := by decide +kernel
theorem dX1_readRow_22 : decode cX1_readRow 22 = .ok (.bipush 46, 2) := by decide +kernel
theorem dX1_readRow_24 : decode cX1_readRow 24 = .ok (.invokevirtual 40, 3) := by decide +kernel
theorem dX1_readRow_27 : decode cX1_readRow 27 = .ok (.ifCond .ne 15, 3) := by decide +kernel
theorem dX1_readRow_30 : decode cX1_readRow 30 = .ok (.aload_n 0, 1) := by decide +kernel
theorem dX1_readRow_31 : decode cX1_readRow 31 = .ok (.aload_n 1, 1) := by decide +kernel
theorem dX1_readRow_32 : decode cX1_readRow 32 = .ok (.iload_n 2, 1) := by decide +kernel
theorem dX1_readRow_33 : decode cX1_readRow 33 = .ok (.iload_n 3, 1) := by decide +kernel
theorem dX1_readRow_34 : decode cX1_readRow 34 = .ok (.invokevirtual 63, 3) := by decide +kernel
theorem dX1_readRow_37 : decode cX1_readRow 37 = .ok (.ifCond .ne 5, 3) := by decide +kernel
theorem dX1_readRow_40 : decode cX1_readRow 40 = .ok (.iconst 0, 1) := by decide +kernel
theorem dX1_readRow_41 : decode cX1_readRow 41 = .ok (.ireturn, 1) := by decide +kernel
theorem dX1_readRow_42 : decode cX1_readRow 42 = .ok (.iinc 3 1, 3) := by decide +kernel
theorem dX1_readRow_45 : decode cX1_readRow 45 = .ok (.goto (-32), 3) := by decide +kernel
theorem dX1_readRow_48 : decode cX1_readRow 48 = .ok (.iconst 1, 1) := by decide +kernel
theorem dX1_readRow_49 : decode cX1_readRow 49 = .ok (.ireturn, 1) := by decide +kernel
set_option maxRecDepth 20000 in
theorem ggX1_readPart_X1_next : GoodIn wsX1_readPart wsX1_next := goodIn_r _ [9, 3, 10, 11, 12, 13, 14, 69, 70, 71] (by decide +kernel) (by decide +kernel)
set_option maxRecDepth 20000 in
theorem gX1_readPart_X1_next : GoodIn wsX1_readPart (wsV RX1 67 RX1 yX1_next wsX1_next) := goodIn_app (goodIn_of _ (by decide +kernel)) ggX1_readPart_X1_next
set_option maxRecDepth 20000 in
theorem ggX1_readPart_X1_kindOf : GoodIn wsX1_readPart wsX1_kindOf := goodIn_r _ [17] (by decide +kernel) (by decide +kernel)
set_option maxRecDepth 20000 in
theorem gX1_readPart_X1_kindOf : GoodIn wsX1_readPart (va_wsS RX1 71 yX1_kindOf wsX1_kindOf) := goodIn_app (goodIn_of _ (by decide +kernel)) ggX1_readPart_X1_kindOf
set_option maxRecDepth 20000 in
theorem ggX1_readPart_X1_digit : GoodIn wsX1_readPart wsX1_digit := goodIn_r _ [21, 3, 5, 6, 7, 8, 9, 10, 11, 12, 13, 14, 69, 70, 71] (by decide +kernel) (by decide +kernel)
set_option maxRecDepth 20000 in
theorem gX1_readPart_X1_digit : GoodIn wsX1_readPart (wsV RX1 44 RX1 yX1_digit wsX1_digit) := goodIn_app (goodIn_of _ (by decide +kernel)) ggX1_readPart_X1_digit
set_option maxRecDepth 20000 in
theorem ggX1_readPart_X2_addWork : GoodIn wsX1_readPart wsX2_addWork := goodIn_r _ [26, 27, 28, 29, 30, 31, 13, 32, 33, 34, 35, 25, 36, 37, 38, 39, 40, 41, 42, 12, 14, 51, 52, 53, 54, 55, 56, 57, 58, 59, 60, 61, 62, 63, 64, 65, 66, 67, 68] (by decide +kernel) (by decide +kernel)
set_option maxRecDepth 20000 in
theorem gX1_readPart_X2_addWork : GoodIn wsX1_readPart (wsV RX1 81 RX2 yX2_addWork wsX2_addWork) := goodIn_app (goodIn_of _ (by decide +kernel)) ggX1_readPart_X2_addWork
set_option maxRecDepth 20000 in
theorem ggX1_readPart_X2_addWard : GoodIn wsX1_readPart wsX2_addWard := goodIn_r _ [46, 47, 48, 49, 50, 31, 13, 32, 51, 52, 53, 54, 55, 56, 57, 58, 59, 60, 61, 62, 63, 64, 65, 66, 67, 68] (by decide +kernel) (by decide +kernel)
set_option maxRecDepth 20000 in
theorem gX1_readPart_X2_addWard : GoodIn wsX1_readPart (wsV RX1 85 RX2 yX2_addWard wsX2_addWard) := goodIn_app (goodIn_of _ (by decide +kernel)) ggX1_readPart_X2_addWard
theorem dX1_readPart_0 : decode cX1_readPart 0 = .ok (.aload_n 0, 1) := by decide +kernel
theorem dX1_readPart_1 : decode cX1_readPart 1 = .ok (.invokevirtual 67, 3) := by decide +kernel
theorem dX1_readPart_4 : decode cX1_readPart 4 = .ok (.bipush 120, 2) := by decide +kernel
theorem dX1_readPart_6 : decode cX1_readPart 6 = .ok (.if_icmp .ne 7, 3) := by decide +kernel
theorem dX1_readPart_9 : decode cX1_readPart 9 = .ok (.iconst 1, 1) := by decide +kernel
theorem dX1_readPart_10 : decode cX1_readPart 10 = .ok (.goto 4, 3) := by decide +kernel
theorem dX1_readPart_13 : decode cX1_readPart 13 = .ok (.iconst 0, 1) := by decide +kernel
theorem dX1_readPart_14 : decode cX1_readPart 14 = .ok (.istore 4, 2) := by decide +kernel
theorem dX1_readPart_16 : decode cX1_readPart 16 = .ok (.aload_n 0, 1) := by decide +kernel
theorem dX1_readPart_17 : decode cX1_readPart 17 = .ok (.invokevirtual 67, 3) := by decide +kernel
theorem dX1_readPart_20 : decode cX1_readPart 20 = .ok (.invokestatic 71, 3) := by decide +kernel
theorem dX1_readPart_23 : decode cX1_readPart 23 = .ok (.istore 5, 2) := by decide +kernel
theorem dX1_readPart_25 : decode cX1_readPart 25 = .ok (.iload 5, 2) := by decide +kernel
theorem dX1_readPart_27 : decode cX1_readPart 27 = .ok (.iconst (-1), 1) := by decide +kernel
theorem dX1_readPart_28 : decode cX1_readPart 28 = .ok (.if_icmp .eq 7, 3) := by decide +kernel
theorem dX1_readPart_31 : decode cX1_readPart 31 = .ok (.iconst 1, 1) := by decide +kernel
theorem dX1_readPart_32 : decode cX1_readPart 32 = .ok (.goto 4, 3) := by decide +kernel
theorem dX1_readPart_35 : decode cX1_readPart 35 = .ok (.iconst 0, 1) := by decide +kernel
theorem dX1_readPart_36 : decode cX1_readPart 36 = .ok (.istore 6, 2) := by decide +kernel
theorem dX1_readPart_38 : decode cX1_readPart 38 = .ok (.iload 4, 2) := by decide +kernel
theorem dX1_readPart_40 : decode cX1_readPart 40 = .ok (.ifCond .eq 11, 3) := by decide +kernel
theorem dX1_readPart_43 : decode cX1_readPart 43 = .ok (.aload_n 1, 1) := by decide +kernel
theorem dX1_readPart_44 : decode cX1_readPart 44 = .ok (.getfield 75, 3) := by decide +kernel
theorem dX1_readPart_47 : decode cX1_readPart 47 = .ok (.iconst 4, 1) := by decide +kernel
theorem dX1_readPart_48 : decode cX1_readPart 48 = .ok (.if_icmp .lt 19, 3) := by decide +kernel
theorem dX1_readPart_51 : decode cX1_readPart 51 = .ok (.iload 6, 2) := by decide +kernel
theorem dX1_readPart_53 : decode cX1_readPart 53 = .ok (.ifCond .eq 12, 3) := by decide +kernel
theorem dX1_readPart_56 : decode cX1_readPart 56 = .ok (.aload_n 1, 1) := by decide +kernel
theorem dX1_readPart_57 : decode cX1_readPart 57 = .ok (.getfield 78, 3) := by decide +kernel
theorem dX1_readPart_60 : decode cX1_readPart 60 = .ok (.bipush 6, 2) := by decide +kernel
theorem dX1_readPart_62 : decode cX1_readPart 62 = .ok (.if_icmp .lt 5, 3) := by decide +kernel
theorem dX1_readPart_65 : decode cX1_readPart 65 = .ok (.iconst 0, 1) := by decide +kernel
theorem dX1_readPart_66 : decode cX1_readPart 66 = .ok (.ireturn, 1) := by decide +kernel
theorem dX1_readPart_67 : decode cX1_readPart 67 = .ok (.aload_n 0, 1) := by decide +kernel
theorem dX1_readPart_68 : decode cX1_readPart 68 = .ok (.dup, 1) := by decide +kernel
theorem dX1_readPart_69 : decode cX1_readPart 69 = .ok (.getfield 19, 3) := by decide +kernel
theorem dX1_readPart_72 : decode cX1_readPart 72 = .ok (.iconst 1, 1) := by decide +kernel
theorem dX1_readPart_73 : decode cX1_readPart 73 = .ok (.iadd, 1) := by decide +kernel
theorem dX1_readPart_74 : decode cX1_readPart 74 = .ok (.putfield 19, 3) := by decide +kernel
theorem dX1_readPart_77 : decode cX1_readPart 77 = .ok (.aload_n 0, 1) := by decide +kernel
theorem dX1_readPart_78 : decode cX1_readPart 78 = .ok (.iconst 1, 1) := by decide +kernel
theorem dX1_readPart_79 : decode cX1_readPart 79 = .ok (.bipush 9, 2) := by decide +kernel
theorem dX1_readPart_81 : decode cX1_readPart 81 = .ok (.invokevirtual 44, 3) := by decide +kernel
theorem dX1_readPart_84 : decode cX1_readPart 84 = .ok (.istore 7, 2) := by decide +kernel
theorem dX1_readPart_86 : decode cX1_readPart 86 = .ok (.iload 7, 2) := by decide +kernel
theorem dX1_readPart_88 : decode cX1_readPart 88 = .ok (.iconst (-1), 1) := by decide +kernel
theorem dX1_readPart_89 : decode cX1_readPart 89 = .ok (.if_icmp .ne 5, 3) := by decide +kernel
theorem dX1_readPart_92 : decode cX1_readPart 92 = .ok (.iconst 0, 1) := by decide +kernel
theorem dX1_readPart_93 : decode cX1_readPart 93 = .ok (.ireturn, 1) := by decide +kernel
theorem dX1_readPart_94 : decode cX1_readPart 94 = .ok (.iload 4, 2) := by decide +kernel
theorem dX1_readPart_96 : decode cX1_readPart 96 = .ok (.ifCond .eq 14, 3) := by decide +kernel
theorem dX1_readPart_99 : decode cX1_readPart 99 = .ok (.aload_n 1, 1) := by decide +kernel
theorem dX1_readPart_100 : decode cX1_readPart 100 = .ok (.iload_n 2, 1) := by decide +kernel
theorem dX1_readPart_101 : decode cX1_readPart 101 = .ok (.iload_n 3, 1) := by decide +kernel
theorem dX1_readPart_102 : decode cX1_readPart 102 = .ok (.iload 7, 2) := by decide +kernel
theorem dX1_readPart_104 : decode cX1_readPart 104 = .ok (.invokevirtual 81, 3) := by decide +kernel
theorem dX1_readPart_107 : decode cX1_readPart 107 = .ok (.goto 19, 3) := by decide +kernel
theorem dX1_readPart_110 : decode cX1_readPart 110 = .ok (.aload_n 1, 1) := by decide +kernel
theorem dX1_readPart_111 : decode cX1_readPart 111 = .ok (.iload 5, 2) := by decide +kernel
theorem dX1_readPart_113 : decode cX1_readPart 113 = .ok (.iload_n 2, 1) := by decide +kernel
theorem dX1_readPart_114 : decode cX1_readPart 114 = .ok (.aload_n 1, 1) := by decide +kernel
theorem dX1_readPart_115 : decode cX1_readPart 115 = .ok (.getfield 60, 3) := by decide +kernel
theorem dX1_readPart_118 : decode cX1_readPart 118 = .ok (.imul, 1) := by decide +kernel
theorem dX1_readPart_119 : decode cX1_readPart 119 = .ok (.iload_n 3, 1) := by decide +kernel
theorem dX1_readPart_120 : decode cX1_readPart 120 = .ok (.iadd, 1) := by decide +kernel
theorem dX1_readPart_121 : decode cX1_readPart 121 = .ok (.iload 7, 2) := by decide +kernel
theorem dX1_readPart_123 : decode cX1_readPart 123 = .ok (.invokevirtual 85, 3) := by decide +kernel
theorem dX1_readPart_126 : decode cX1_readPart 126 = .ok (.iconst 1, 1) := by decide +kernel
theorem dX1_readPart_127 : decode cX1_readPart 127 = .ok (.ireturn, 1) := by decide +kernel
theorem dX1_kindOf_0 : decode cX1_kindOf 0 = .ok (.iload_n 0, 1) := by decide +kernel
theorem dX1_kindOf_1 : decode cX1_kindOf 1 = .ok (.lookupswitch 41 #[(102, 39), (114, 37), (119, 35)], 35) := by decide +kernel
theorem dX1_kindOf_36 : decode cX1_kindOf 36 = .ok (.iconst 0, 1) := by decide +kernel
theorem dX1_kindOf_37 : decode cX1_kindOf 37 = .ok (.ireturn, 1) := by decide +kernel
theorem dX1_kindOf_38 : decode cX1_kindOf 38 = .ok (.iconst 1, 1) := by decide +kernel
theorem dX1_kindOf_39 : decode cX1_kindOf 39 = .ok (.ireturn, 1) := by decide +kernel
theorem dX1_kindOf_40 : decode cX1_kindOf 40 = .ok (.iconst 2, 1) := by decide +kernel
theorem dX1_kindOf_41 : decode cX1_kindOf 41 = .ok (.ireturn, 1) := by decide +kernel
theorem dX1_kindOf_42 : decode cX1_kindOf 42 = .ok (.iconst (-1), 1) := by decide +kernel
theorem dX1_kindOf_43 : decode cX1_kindOf 43 = .ok (.ireturn, 1) := by decide +kernel
set_option maxRecDepth 20000 in
theorem ggX1_next_X3_read : GoodIn wsX1_next wsX3_read := goodIn_r _ [6] (by decide +kernel) (by decide +kernel)
set_option maxRecDepth 20000 in
theorem gX1_next_X3_read_n27 : GoodIn wsX1_next (wsX3_read) := ggX1_next_X3_read
theorem dX1_next_0 : decode cX1_next 0 = .ok (.aload_n 0, 1) := by decide +kernel
theorem dX1_next_1 : decode cX1_next 1 = .ok (.getfield 19, 3) := by decide +kernel
theorem dX1_next_4 : decode cX1_next 4 = .ok (.aload_n 0, 1) := by decide +kernel
theorem dX1_next_5 : decode cX1_next 5 = .ok (.getfield 15, 3) := by decide +kernel
theorem dX1_next_8 : decode cX1_next 8 = .ok (.if_icmp .ge 17, 3) := by decide +kernel
theorem dX1_next_11 : decode cX1_next 11 = .ok (.aload_n 0, 1) := by decide +kernel
theorem dX1_next_12 : decode cX1_next 12 = .ok (.getfield 9, 3) := by decide +kernel
theorem dX1_next_15 : decode cX1_next 15 = .ok (.aload_n 0, 1) := by decide +kernel
theorem dX1_next_16 : decode cX1_next 16 = .ok (.getfield 19, 3) := by decide +kernel
theorem dX1_next_19 : decode cX1_next 19 = .ok (.invokestatic 27, 3) := by decide +kernel
theorem dX1_next_22 : decode cX1_next 22 = .ok (.goto 4, 3) := by decide +kernel
theorem dX1_next_25 : decode cX1_next 25 = .ok (.iconst (-1), 1) := by decide +kernel
theorem dX1_next_26 : decode cX1_next 26 = .ok (.ireturn, 1) := by decide +kernel
set_option maxRecDepth 20000 in
theorem ggX1_takes_X1_next : GoodIn wsX1_takes wsX1_next := goodIn_r _ [6, 1, 7, 8, 9, 10, 11, 12, 13, 14] (by decide +kernel) (by decide +kernel)
set_option maxRecDepth 20000 in
theorem gX1_takes_X1_next : GoodIn wsX1_takes (wsV RX1 67 RX1 yX1_next wsX1_next) := goodIn_app (goodIn_of _ (by decide +kernel)) ggX1_takes_X1_next
theorem dX1_takes_0 : decode cX1_takes 0 = .ok (.aload_n 0, 1) := by decide +kernel
theorem dX1_takes_1 : decode cX1_takes 1 = .ok (.invokevirtual 67, 3) := by decide +kernel
theorem dX1_takes_4 : decode cX1_takes 4 = .ok (.iload_n 1, 1) := by decide +kernel
theorem dX1_takes_5 : decode cX1_takes 5 = .ok (.if_icmp .eq 5, 3) := by decide +kernel
theorem dX1_takes_8 : decode cX1_takes 8 = .ok (.iconst 0, 1) := by decide +kernel
theorem dX1_takes_9 : decode cX1_takes 9 = .ok (.ireturn, 1) := by decide +kernel
theorem dX1_takes_10 : decode cX1_takes 10 = .ok (.aload_n 0, 1) := by decide +kernel
theorem dX1_takes_11 : decode cX1_takes 11 = .ok (.dup, 1) := by decide +kernel
theorem dX1_takes_12 : decode cX1_takes 12 = .ok (.getfield 19, 3) := by decide +kernel
theorem dX1_takes_15 : decode cX1_takes 15 = .ok (.iconst 1, 1) := by decide +kernel
theorem dX1_takes_16 : decode cX1_takes 16 = .ok (.iadd, 1) := by decide +kernel
theorem dX1_takes_17 : decode cX1_takes 17 = .ok (.putfield 19, 3) := by decide +kernel
theorem dX1_takes_20 : decode cX1_takes 20 = .ok (.iconst 1, 1) := by decide +kernel
theorem dX1_takes_21 : decode cX1_takes 21 = .ok (.ireturn, 1) := by decide +kernel
set_option maxRecDepth 20000 in
theorem ggX1_digit_X1_next : GoodIn wsX1_digit wsX1_next := goodIn_r _ [6, 1, 7, 8, 9, 10, 11, 12, 13, 14] (by decide +kernel) (by decide +kernel)
set_option maxRecDepth 20000 in
theorem gX1_digit_X1_next : GoodIn wsX1_digit (wsV RX1 67 RX1 yX1_next wsX1_next) := goodIn_app (goodIn_of _ (by decide +kernel)) ggX1_digit_X1_next
theorem dX1_digit_0 : decode cX1_digit 0 = .ok (.aload_n 0, 1) := by decide +kernel
theorem dX1_digit_1 : decode cX1_digit 1 = .ok (.invokevirtual 67, 3) := by decide +kernel
theorem dX1_digit_4 : decode cX1_digit 4 = .ok (.istore_n 3, 1) := by decide +kernel
theorem dX1_digit_5 : decode cX1_digit 5 = .ok (.iload_n 3, 1) := by decide +kernel
theorem dX1_digit_6 : decode cX1_digit 6 = .ok (.bipush 48, 2) := by decide +kernel
theorem dX1_digit_8 : decode cX1_digit 8 = .ok (.iload_n 1, 1) := by decide +kernel
theorem dX1_digit_9 : decode cX1_digit 9 = .ok (.iadd, 1) := by decide +kernel
theorem dX1_digit_10 : decode cX1_digit 10 = .ok (.if_icmp .lt 11, 3) := by decide +kernel
theorem dX1_digit_13 : decode cX1_digit 13 = .ok (.iload_n 3, 1) := by decide +kernel
theorem dX1_digit_14 : decode cX1_digit 14 = .ok (.bipush 48, 2) := by decide +kernel
theorem dX1_digit_16 : decode cX1_digit 16 = .ok (.iload_n 2, 1) := by decide +kernel
theorem dX1_digit_17 : decode cX1_digit 17 = .ok (.iadd, 1) := by decide +kernel
theorem dX1_digit_18 : decode cX1_digit 18 = .ok (.if_icmp .le 5, 3) := by decide +kernel
theorem dX1_digit_21 : decode cX1_digit 21 = .ok (.iconst (-1), 1) := by decide +kernel
theorem dX1_digit_22 : decode cX1_digit 22 = .ok (.ireturn, 1) := by decide +kernel
theorem dX1_digit_23 : decode cX1_digit 23 = .ok (.aload_n 0, 1) := by decide +kernel
theorem dX1_digit_24 : decode cX1_digit 24 = .ok (.dup, 1) := by decide +kernel
theorem dX1_digit_25 : decode cX1_digit 25 = .ok (.getfield 19, 3) := by decide +kernel
theorem dX1_digit_28 : decode cX1_digit 28 = .ok (.iconst 1, 1) := by decide +kernel
theorem dX1_digit_29 : decode cX1_digit 29 = .ok (.iadd, 1) := by decide +kernel
theorem dX1_digit_30 : decode cX1_digit 30 = .ok (.putfield 19, 3) := by decide +kernel
theorem dX1_digit_33 : decode cX1_digit 33 = .ok (.iload_n 3, 1) := by decide +kernel
theorem dX1_digit_34 : decode cX1_digit 34 = .ok (.bipush 48, 2) := by decide +kernel
theorem dX1_digit_36 : decode cX1_digit 36 = .ok (.isub, 1) := by decide +kernel
theorem dX1_digit_37 : decode cX1_digit 37 = .ok (.ireturn, 1) := by decide +kernel
theorem dX2_init_0 : decode cX2_init 0 = .ok (.aload_n 0, 1) := by decide +kernel
theorem dX2_init_1 : decode cX2_init 1 = .ok (.invokespecial 3, 3) := by decide +kernel
theorem dX2_init_4 : decode cX2_init 4 = .ok (.aload_n 0, 1) := by decide +kernel
theorem dX2_init_5 : decode cX2_init 5 = .ok (.bipush 6, 2) := by decide +kernel
theorem dX2_init_7 : decode cX2_init 7 = .ok (.newarray .int, 2) := by decide +kernel
theorem dX2_init_9 : decode cX2_init 9 = .ok (.putfield 9, 3) := by decide +kernel
theorem dX2_init_12 : decode cX2_init 12 = .ok (.aload_n 0, 1) := by decide +kernel
theorem dX2_init_13 : decode cX2_init 13 = .ok (.bipush 6, 2) := by decide +kernel
theorem dX2_init_15 : decode cX2_init 15 = .ok (.newarray .int, 2) := by decide +kernel
theorem dX2_init_17 : decode cX2_init 17 = .ok (.putfield 15, 3) := by decide +kernel
theorem dX2_init_20 : decode cX2_init 20 = .ok (.aload_n 0, 1) := by decide +kernel
theorem dX2_init_21 : decode cX2_init 21 = .ok (.bipush 6, 2) := by decide +kernel
theorem dX2_init_23 : decode cX2_init 23 = .ok (.newarray .int, 2) := by decide +kernel
theorem dX2_init_25 : decode cX2_init 25 = .ok (.putfield 18, 3) := by decide +kernel
theorem dX2_init_28 : decode cX2_init 28 = .ok (.aload_n 0, 1) := by decide +kernel
theorem dX2_init_29 : decode cX2_init 29 = .ok (.iconst 4, 1) := by decide +kernel
theorem dX2_init_30 : decode cX2_init 30 = .ok (.newarray .int, 2) := by decide +kernel
theorem dX2_init_32 : decode cX2_init 32 = .ok (.putfield 21, 3) := by decide +kernel
theorem dX2_init_35 : decode cX2_init 35 = .ok (.aload_n 0, 1) := by decide +kernel
theorem dX2_init_36 : decode cX2_init 36 = .ok (.iconst 4, 1) := by decide +kernel
theorem dX2_init_37 : decode cX2_init 37 = .ok (.newarray .int, 2) := by decide +kernel
theorem dX2_init_39 : decode cX2_init 39 = .ok (.putfield 24, 3) := by decide +kernel
theorem dX2_init_42 : decode cX2_init 42 = .ok (.aload_n 0, 1) := by decide +kernel
theorem dX2_init_43 : decode cX2_init 43 = .ok (.bipush 8, 2) := by decide +kernel
theorem dX2_init_45 : decode cX2_init 45 = .ok (.newarray .int, 2) := by decide +kernel
theorem dX2_init_47 : decode cX2_init 47 = .ok (.putfield 27, 3) := by decide +kernel
theorem dX2_init_50 : decode cX2_init 50 = .ok (.aload_n 0, 1) := by decide +kernel
theorem dX2_init_51 : decode cX2_init 51 = .ok (.bipush 8, 2) := by decide +kernel
theorem dX2_init_53 : decode cX2_init 53 = .ok (.newarray .int, 2) := by decide +kernel
theorem dX2_init_55 : decode cX2_init 55 = .ok (.putfield 30, 3) := by decide +kernel
theorem dX2_init_58 : decode cX2_init 58 = .ok (.aload_n 0, 1) := by decide +kernel
theorem dX2_init_59 : decode cX2_init 59 = .ok (.sipush 384, 3) := by decide +kernel
theorem dX2_init_62 : decode cX2_init 62 = .ok (.newarray .int, 2) := by decide +kernel
theorem dX2_init_64 : decode cX2_init 64 = .ok (.putfield 33, 3) := by decide +kernel
theorem dX2_init_67 : decode cX2_init 67 = .ok (.aload_n 0, 1) := by decide +kernel
theorem dX2_init_68 : decode cX2_init 68 = .ok (.bipush 6, 2) := by decide +kernel
theorem dX2_init_70 : decode cX2_init 70 = .ok (.newarray .int, 2) := by decide +kernel
theorem dX2_init_72 : decode cX2_init 72 = .ok (.putfield 36, 3) := by decide +kernel
theorem dX2_init_75 : decode cX2_init 75 = .ok (.aload_n 0, 1) := by decide +kernel
theorem dX2_init_76 : decode cX2_init 76 = .ok (.iconst 0, 1) := by decide +kernel
theorem dX2_init_77 : decode cX2_init 77 = .ok (.putfield 39, 3) := by decide +kernel
theorem dX2_init_80 : decode cX2_init 80 = .ok (.aload_n 0, 1) := by decide +kernel
theorem dX2_init_81 : decode cX2_init 81 = .ok (.iconst 0, 1) := by decide +kernel
theorem dX2_init_82 : decode cX2_init 82 = .ok (.putfield 43, 3) := by decide +kernel
theorem dX2_init_85 : decode cX2_init 85 = .ok (.aload_n 0, 1) := by decide +kernel
theorem dX2_init_86 : decode cX2_init 86 = .ok (.iconst 0, 1) := by decide +kernel
theorem dX2_init_87 : decode cX2_init 87 = .ok (.putfield 47, 3) := by decide +kernel
theorem dX2_init_90 : decode cX2_init 90 = .ok (.aload_n 0, 1) := by decide +kernel
theorem dX2_init_91 : decode cX2_init 91 = .ok (.iconst 0, 1) := by decide +kernel
theorem dX2_init_92 : decode cX2_init 92 = .ok (.putfield 50, 3) := by decide +kernel
theorem dX2_init_95 : decode cX2_init 95 = .ok (.aload_n 0, 1) := by decide +kernel
theorem dX2_init_96 : decode cX2_init 96 = .ok (.iconst 0, 1) := by decide +kernel
theorem dX2_init_97 : decode cX2_init 97 = .ok (.putfield 53, 3) := by decide +kernel
theorem dX2_init_100 : decode cX2_init 100 = .ok (.aload_n 0, 1) := by decide +kernel
theorem dX2_init_101 : decode cX2_init 101 = .ok (.iconst 0, 1) := by decide +kernel
theorem dX2_init_102 : decode cX2_init 102 = .ok (.putfield 56, 3) := by decide +kernel
theorem dX2_init_105 : decode cX2_init 105 = .ok (.aload_n 0, 1) := by decide +kernel
theorem dX2_init_106 : decode cX2_init 106 = .ok (.iconst 0, 1) := by decide +kernel
theorem dX2_init_107 : decode cX2_init 107 = .ok (.putfield 59, 3) := by decide +kernel
theorem dX2_init_110 : decode cX2_init 110 = .ok (.aload_n 0, 1) := by decide +kernel
theorem dX2_init_111 : decode cX2_init 111 = .ok (.iconst 0, 1) := by decide +kernel
theorem dX2_init_112 : decode cX2_init 112 = .ok (.putfield 62, 3) := by decide +kernel
theorem dX2_init_115 : decode cX2_init 115 = .ok (.aload_n 0, 1) := by decide +kernel
theorem dX2_init_116 : decode cX2_init 116 = .ok (.iconst 0, 1) := by decide +kernel
theorem dX2_init_117 : decode cX2_init 117 = .ok (.putfield 65, 3) := by decide +kernel
theorem dX2_init_120 : decode cX2_init 120 = .ok (.return_, 1) := by decide +kernel
set_option maxRecDepth 20000 in
theorem ggX2_clear_X2_measure : GoodIn wsX2_clear wsX2_measure := goodIn_r _ [11, 12, 13, 14, 15, 16, 17, 18, 19, 20, 21, 22, 23, 24, 25, 26, 27, 28, 29, 30, 31, 32] (by decide +kernel) (by decide +kernel)
set_option maxRecDepth 20000 in
theorem gX2_clear_X2_measure : GoodIn wsX2_clear (wsV RX2 68 RX2 yX2_measure wsX2_measure) := goodIn_app (goodIn_of _ (by decide +kernel)) ggX2_clear_X2_measure
theorem dX2_clear_0 : decode cX2_clear 0 = .ok (.aload_n 0, 1) := by decide +kernel
theorem dX2_clear_1 : decode cX2_clear 1 = .ok (.iconst 0, 1) := by decide +kernel
theorem dX2_clear_2 : decode cX2_clear 2 = .ok (.putfield 39, 3) := by decide +kernel
theorem dX2_clear_5 : decode cX2_clear 5 = .ok (.aload_n 0, 1) := by decide +kernel
theorem dX2_clear_6 : decode cX2_clear 6 = .ok (.iconst 0, 1) := by decide +kernel
theorem dX2_clear_7 : decode cX2_clear 7 = .ok (.putfield 53, 3) := by decide +kernel
theorem dX2_clear_10 : decode cX2_clear 10 = .ok (.aload_n 0, 1) := by decide +kernel
theorem dX2_clear_11 : decode cX2_clear 11 = .ok (.iconst 0, 1) := by decide +kernel
theorem dX2_clear_12 : decode cX2_clear 12 = .ok (.putfield 56, 3) := by decide +kernel
theorem dX2_clear_15 : decode cX2_clear 15 = .ok (.aload_n 0, 1) := by decide +kernel
theorem dX2_clear_16 : decode cX2_clear 16 = .ok (.iconst 0, 1) := by decide +kernel
theorem dX2_clear_17 : decode cX2_clear 17 = .ok (.putfield 59, 3) := by decide +kernel
theorem dX2_clear_20 : decode cX2_clear 20 = .ok (.aload_n 0, 1) := by decide +kernel
theorem dX2_clear_21 : decode cX2_clear 21 = .ok (.iconst 0, 1) := by decide +kernel
theorem dX2_clear_22 : decode cX2_clear 22 = .ok (.putfield 62, 3) := by decide +kernel
theorem dX2_clear_25 : decode cX2_clear 25 = .ok (.aload_n 0, 1) := by decide +kernel
theorem dX2_clear_26 : decode cX2_clear 26 = .ok (.iconst 0, 1) := by decide +kernel
theorem dX2_clear_27 : decode cX2_clear 27 = .ok (.putfield 65, 3) := by decide +kernel
theorem dX2_clear_30 : decode cX2_clear 30 = .ok (.aload_n 0, 1) := by decide +kernel
theorem dX2_clear_31 : decode cX2_clear 31 = .ok (.iconst 0, 1) := by decide +kernel
theorem dX2_clear_32 : decode cX2_clear 32 = .ok (.iconst 0, 1) := by decide +kernel
theorem dX2_clear_33 : decode cX2_clear 33 = .ok (.invokevirtual 68, 3) := by decide +kernel
theorem dX2_clear_36 : decode cX2_clear 36 = .ok (.return_, 1) := by decide +kernel
theorem dX2_measure_0 : decode cX2_measure 0 = .ok (.aload_n 0, 1) := by decide +kernel
theorem dX2_measure_1 : decode cX2_measure 1 = .ok (.iload_n 1, 1) := by decide +kernel
theorem dX2_measure_2 : decode cX2_measure 2 = .ok (.putfield 43, 3) := by decide +kernel
theorem dX2_measure_5 : decode cX2_measure 5 = .ok (.aload_n 0, 1) := by decide +kernel
theorem dX2_measure_6 : decode cX2_measure 6 = .ok (.iload_n 2, 1) := by decide +kernel
theorem dX2_measure_7 : decode cX2_measure 7 = .ok (.putfield 47, 3) := by decide +kernel
theorem dX2_measure_10 : decode cX2_measure 10 = .ok (.aload_n 0, 1) := by decide +kernel
theorem dX2_measure_11 : decode cX2_measure 11 = .ok (.iload_n 1, 1) := by decide +kernel
theorem dX2_measure_12 : decode cX2_measure 12 = .ok (.iload_n 2, 1) := by decide +kernel
theorem dX2_measure_13 : decode cX2_measure 13 = .ok (.imul, 1) := by decide +kernel
theorem dX2_measure_14 : decode cX2_measure 14 = .ok (.putfield 50, 3) := by decide +kernel
theorem dX2_measure_17 : decode cX2_measure 17 = .ok (.return_, 1) := by decide +kernel
set_option maxRecDepth 20000 in
theorem ggX2_addWard_X3_write : GoodIn wsX2_addWard wsX3_write := goodIn_r _ [7] (by decide +kernel) (by decide +kernel)
set_option maxRecDepth 20000 in
theorem gX2_addWard_X3_write_n72 : GoodIn wsX2_addWard (wsX3_write) := ggX2_addWard_X3_write
theorem dX2_addWard_0 : decode cX2_addWard 0 = .ok (.aload_n 0, 1) := by decide +kernel
theorem dX2_addWard_1 : decode cX2_addWard 1 = .ok (.getfield 9, 3) := by decide +kernel
theorem dX2_addWard_4 : decode cX2_addWard 4 = .ok (.aload_n 0, 1) := by decide +kernel
theorem dX2_addWard_5 : decode cX2_addWard 5 = .ok (.getfield 56, 3) := by decide +kernel
theorem dX2_addWard_8 : decode cX2_addWard 8 = .ok (.iload_n 1, 1) := by decide +kernel
theorem dX2_addWard_9 : decode cX2_addWard 9 = .ok (.invokestatic 72, 3) := by decide +kernel
theorem dX2_addWard_12 : decode cX2_addWard 12 = .ok (.aload_n 0, 1) := by decide +kernel
theorem dX2_addWard_13 : decode cX2_addWard 13 = .ok (.getfield 18, 3) := by decide +kernel
theorem dX2_addWard_16 : decode cX2_addWard 16 = .ok (.aload_n 0, 1) := by decide +kernel
theorem dX2_addWard_17 : decode cX2_addWard 17 = .ok (.getfield 56, 3) := by decide +kernel
theorem dX2_addWard_20 : decode cX2_addWard 20 = .ok (.iload_n 2, 1) := by decide +kernel
theorem dX2_addWard_21 : decode cX2_addWard 21 = .ok (.invokestatic 72, 3) := by decide +kernel
theorem dX2_addWard_24 : decode cX2_addWard 24 = .ok (.aload_n 0, 1) := by decide +kernel
theorem dX2_addWard_25 : decode cX2_addWard 25 = .ok (.getfield 15, 3) := by decide +kernel
theorem dX2_addWard_28 : decode cX2_addWard 28 = .ok (.aload_n 0, 1) := by decide +kernel
theorem dX2_addWard_29 : decode cX2_addWard 29 = .ok (.getfield 56, 3) := by decide +kernel
theorem dX2_addWard_32 : decode cX2_addWard 32 = .ok (.iload_n 3, 1) := by decide +kernel
theorem dX2_addWard_33 : decode cX2_addWard 33 = .ok (.invokestatic 72, 3) := by decide +kernel
theorem dX2_addWard_36 : decode cX2_addWard 36 = .ok (.aload_n 0, 1) := by decide +kernel
theorem dX2_addWard_37 : decode cX2_addWard 37 = .ok (.dup, 1) := by decide +kernel
theorem dX2_addWard_38 : decode cX2_addWard 38 = .ok (.getfield 56, 3) := by decide +kernel
theorem dX2_addWard_41 : decode cX2_addWard 41 = .ok (.iconst 1, 1) := by decide +kernel
theorem dX2_addWard_42 : decode cX2_addWard 42 = .ok (.iadd, 1) := by decide +kernel
theorem dX2_addWard_43 : decode cX2_addWard 43 = .ok (.putfield 56, 3) := by decide +kernel
theorem dX2_addWard_46 : decode cX2_addWard 46 = .ok (.return_, 1) := by decide +kernel
set_option maxRecDepth 20000 in
theorem ggX2_addWork_X3_write : GoodIn wsX2_addWork wsX3_write := goodIn_r _ [7] (by decide +kernel) (by decide +kernel)
set_option maxRecDepth 20000 in
theorem gX2_addWork_X3_write_n72 : GoodIn wsX2_addWork (wsX3_write) := ggX2_addWork_X3_write
set_option maxRecDepth 20000 in
theorem ggX2_addWork_X2_measureWay : GoodIn wsX2_addWork wsX2_measureWay := goodIn_r _ [12, 13, 14, 15, 3, 16, 17, 11, 18, 5, 6, 7, 19, 20, 21, 22, 23, 24, 25, 26, 27, 28, 29, 30, 31, 32, 33, 34, 35, 36, 37, 38] (by decide +kernel) (by decide +kernel)
set_option maxRecDepth 20000 in
theorem gX2_addWork_X2_measureWay : GoodIn wsX2_addWork (wsV RX2 76 RX2 yX2_measureWay wsX2_measureWay) := goodIn_app (goodIn_of _ (by decide +kernel)) ggX2_addWork_X2_measureWay
theorem dX2_addWork_0 : decode cX2_addWork 0 = .ok (.aload_n 0, 1) := by decide +kernel
theorem dX2_addWork_1 : decode cX2_addWork 1 = .ok (.getfield 21, 3) := by decide +kernel
theorem dX2_addWork_4 : decode cX2_addWork 4 = .ok (.aload_n 0, 1) := by decide +kernel
theorem dX2_addWork_5 : decode cX2_addWork 5 = .ok (.getfield 53, 3) := by decide +kernel
theorem dX2_addWork_8 : decode cX2_addWork 8 = .ok (.iload_n 1, 1) := by decide +kernel
theorem dX2_addWork_9 : decode cX2_addWork 9 = .ok (.aload_n 0, 1) := by decide +kernel
theorem dX2_addWork_10 : decode cX2_addWork 10 = .ok (.getfield 47, 3) := by decide +kernel
theorem dX2_addWork_13 : decode cX2_addWork 13 = .ok (.imul, 1) := by decide +kernel
theorem dX2_addWork_14 : decode cX2_addWork 14 = .ok (.iload_n 2, 1) := by decide +kernel
theorem dX2_addWork_15 : decode cX2_addWork 15 = .ok (.iadd, 1) := by decide +kernel
theorem dX2_addWork_16 : decode cX2_addWork 16 = .ok (.invokestatic 72, 3) := by decide +kernel
theorem dX2_addWork_19 : decode cX2_addWork 19 = .ok (.aload_n 0, 1) := by decide +kernel
theorem dX2_addWork_20 : decode cX2_addWork 20 = .ok (.getfield 24, 3) := by decide +kernel
theorem dX2_addWork_23 : decode cX2_addWork 23 = .ok (.aload_n 0, 1) := by decide +kernel
theorem dX2_addWork_24 : decode cX2_addWork 24 = .ok (.getfield 53, 3) := by decide +kernel
theorem dX2_addWork_27 : decode cX2_addWork 27 = .ok (.iload_n 3, 1) := by decide +kernel
theorem dX2_addWork_28 : decode cX2_addWork 28 = .ok (.invokestatic 72, 3) := by decide +kernel
theorem dX2_addWork_31 : decode cX2_addWork 31 = .ok (.iconst 0, 1) := by decide +kernel
theorem dX2_addWork_32 : decode cX2_addWork 32 = .ok (.istore 4, 2) := by decide +kernel
theorem dX2_addWork_34 : decode cX2_addWork 34 = .ok (.iload 4, 2) := by decide +kernel
theorem dX2_addWork_36 : decode cX2_addWork 36 = .ok (.iconst 4, 1) := by decide +kernel
theorem dX2_addWork_37 : decode cX2_addWork 37 = .ok (.if_icmp .ge 21, 3) := by decide +kernel
theorem dX2_addWork_40 : decode cX2_addWork 40 = .ok (.aload_n 0, 1) := by decide +kernel
theorem dX2_addWork_41 : decode cX2_addWork 41 = .ok (.aload_n 0, 1) := by decide +kernel
theorem dX2_addWork_42 : decode cX2_addWork 42 = .ok (.getfield 53, 3) := by decide +kernel
theorem dX2_addWork_45 : decode cX2_addWork 45 = .ok (.iload 4, 2) := by decide +kernel
theorem dX2_addWork_47 : decode cX2_addWork 47 = .ok (.iload_n 1, 1) := by decide +kernel
theorem dX2_addWork_48 : decode cX2_addWork 48 = .ok (.iload_n 2, 1) := by decide +kernel
theorem dX2_addWork_49 : decode cX2_addWork 49 = .ok (.invokevirtual 76, 3) := by decide +kernel
theorem dX2_addWork_52 : decode cX2_addWork 52 = .ok (.iinc 4 1, 3) := by decide +kernel
theorem dX2_addWork_55 : decode cX2_addWork 55 = .ok (.goto (-21), 3) := by decide +kernel
theorem dX2_addWork_58 : decode cX2_addWork 58 = .ok (.aload_n 0, 1) := by decide +kernel
theorem dX2_addWork_59 : decode cX2_addWork 59 = .ok (.dup, 1) := by decide +kernel
theorem dX2_addWork_60 : decode cX2_addWork 60 = .ok (.getfield 53, 3) := by decide +kernel
theorem dX2_addWork_63 : decode cX2_addWork 63 = .ok (.iconst 1, 1) := by decide +kernel
theorem dX2_addWork_64 : decode cX2_addWork 64 = .ok (.iadd, 1) := by decide +kernel
theorem dX2_addWork_65 : decode cX2_addWork 65 = .ok (.putfield 53, 3) := by decide +kernel
theorem dX2_addWork_68 : decode cX2_addWork 68 = .ok (.return_, 1) := by decide +kernel
set_option maxRecDepth 20000 in
theorem ggX2_measureWay_X2_wayIndex : GoodIn wsX2_measureWay wsX2_wayIndex := goodIn_r _ [8] (by decide +kernel) (by decide +kernel)
set_option maxRecDepth 20000 in
theorem gX2_measureWay_X2_wayIndex : GoodIn wsX2_measureWay (va_wsS RX2 80 yX2_wayIndex wsX2_wayIndex) := goodIn_app (goodIn_of _ (by decide +kernel)) ggX2_measureWay_X2_wayIndex
set_option maxRecDepth 20000 in
theorem ggX2_measureWay_X3_write : GoodIn wsX2_measureWay wsX3_write := goodIn_r _ [11] (by decide +kernel) (by decide +kernel)
set_option maxRecDepth 20000 in
theorem gX2_measureWay_X3_write_n72 : GoodIn wsX2_measureWay (wsX3_write) := ggX2_measureWay_X3_write
set_option maxRecDepth 20000 in
theorem ggX2_measureWay_X3_read : GoodIn wsX2_measureWay wsX3_read := goodIn_r _ [13] (by decide +kernel) (by decide +kernel)
set_option maxRecDepth 20000 in
theorem gX2_measureWay_X3_read_n88 : GoodIn wsX2_measureWay (wsX3_read) := ggX2_measureWay_X3_read
theorem dX2_measureWay_0 : decode cX2_measureWay 0 = .ok (.iconst 0, 1) := by decide +kernel
theorem dX2_measureWay_1 : decode cX2_measureWay 1 = .ok (.istore 5, 2) := by decide +kernel
theorem dX2_measureWay_3 : decode cX2_measureWay 3 = .ok (.iload 5, 2) := by decide +kernel
theorem dX2_measureWay_5 : decode cX2_measureWay 5 = .ok (.bipush 24, 2) := by decide +kernel
theorem dX2_measureWay_7 : decode cX2_measureWay 7 = .ok (.if_icmp .ge 26, 3) := by decide +kernel
theorem dX2_measureWay_10 : decode cX2_measureWay 10 = .ok (.aload_n 0, 1) := by decide +kernel
theorem dX2_measureWay_11 : decode cX2_measureWay 11 = .ok (.getfield 33, 3) := by decide +kernel
theorem dX2_measureWay_14 : decode cX2_measureWay 14 = .ok (.iload_n 1, 1) := by decide +kernel
theorem dX2_measureWay_15 : decode cX2_measureWay 15 = .ok (.iload_n 2, 1) := by decide +kernel
theorem dX2_measureWay_16 : decode cX2_measureWay 16 = .ok (.invokestatic 80, 3) := by decide +kernel
theorem dX2_measureWay_19 : decode cX2_measureWay 19 = .ok (.iload 5, 2) := by decide +kernel
theorem dX2_measureWay_21 : decode cX2_measureWay 21 = .ok (.iadd, 1) := by decide +kernel
theorem dX2_measureWay_22 : decode cX2_measureWay 22 = .ok (.ldc 84, 2) := by decide +kernel
theorem dX2_measureWay_24 : decode cX2_measureWay 24 = .ok (.invokestatic 72, 3) := by decide +kernel
theorem dX2_measureWay_27 : decode cX2_measureWay 27 = .ok (.iinc 5 1, 3) := by decide +kernel
theorem dX2_measureWay_30 : decode cX2_measureWay 30 = .ok (.goto (-27), 3) := by decide +kernel
theorem dX2_measureWay_33 : decode cX2_measureWay 33 = .ok (.iload_n 3, 1) := by decide +kernel
theorem dX2_measureWay_34 : decode cX2_measureWay 34 = .ok (.istore 5, 2) := by decide +kernel
theorem dX2_measureWay_36 : decode cX2_measureWay 36 = .ok (.iload 4, 2) := by decide +kernel
theorem dX2_measureWay_38 : decode cX2_measureWay 38 = .ok (.istore 6, 2) := by decide +kernel
theorem dX2_measureWay_40 : decode cX2_measureWay 40 = .ok (.iconst 0, 1) := by decide +kernel
theorem dX2_measureWay_41 : decode cX2_measureWay 41 = .ok (.istore 7, 2) := by decide +kernel
theorem dX2_measureWay_43 : decode cX2_measureWay 43 = .ok (.iload 7, 2) := by decide +kernel
theorem dX2_measureWay_45 : decode cX2_measureWay 45 = .ok (.bipush 6, 2) := by decide +kernel
theorem dX2_measureWay_47 : decode cX2_measureWay 47 = .ok (.if_icmp .ge 86, 3) := by decide +kernel
theorem dX2_measureWay_50 : decode cX2_measureWay 50 = .ok (.iload 5, 2) := by decide +kernel
theorem dX2_measureWay_52 : decode cX2_measureWay 52 = .ok (.ifCond .lt 51, 3) := by decide +kernel
theorem dX2_measureWay_55 : decode cX2_measureWay 55 = .ok (.iload 5, 2) := by decide +kernel
theorem dX2_measureWay_57 : decode cX2_measureWay 57 = .ok (.aload_n 0, 1) := by decide +kernel
theorem dX2_measureWay_58 : decode cX2_measureWay 58 = .ok (.getfield 43, 3) := by decide +kernel
theorem dX2_measureWay_61 : decode cX2_measureWay 61 = .ok (.if_icmp .ge 42, 3) := by decide +kernel
theorem dX2_measureWay_64 : decode cX2_measureWay 64 = .ok (.iload 6, 2) := by decide +kernel
theorem dX2_measureWay_66 : decode cX2_measureWay 66 = .ok (.ifCond .lt 37, 3) := by decide +kernel
theorem dX2_measureWay_69 : decode cX2_measureWay 69 = .ok (.iload 6, 2) := by decide +kernel
theorem dX2_measureWay_71 : decode cX2_measureWay 71 = .ok (.aload_n 0, 1) := by decide +kernel
theorem dX2_measureWay_72 : decode cX2_measureWay 72 = .ok (.getfield 47, 3) := by decide +kernel
theorem dX2_measureWay_75 : decode cX2_measureWay 75 = .ok (.if_icmp .ge 28, 3) := by decide +kernel
theorem dX2_measureWay_78 : decode cX2_measureWay 78 = .ok (.aload_n 0, 1) := by decide +kernel
theorem dX2_measureWay_79 : decode cX2_measureWay 79 = .ok (.getfield 33, 3) := by decide +kernel
theorem dX2_measureWay_82 : decode cX2_measureWay 82 = .ok (.iload_n 1, 1) := by decide +kernel
theorem dX2_measureWay_83 : decode cX2_measureWay 83 = .ok (.iload_n 2, 1) := by decide +kernel
theorem dX2_measureWay_84 : decode cX2_measureWay 84 = .ok (.invokestatic 80, 3) := by decide +kernel
theorem dX2_measureWay_87 : decode cX2_measureWay 87 = .ok (.iload 5, 2) := by decide +kernel
theorem dX2_measureWay_89 : decode cX2_measureWay 89 = .ok (.aload_n 0, 1) := by decide +kernel
theorem dX2_measureWay_90 : decode cX2_measureWay 90 = .ok (.getfield 47, 3) := by decide +kernel
theorem dX2_measureWay_93 : decode cX2_measureWay 93 = .ok (.imul, 1) := by decide +kernel
theorem dX2_measureWay_94 : decode cX2_measureWay 94 = .ok (.iadd, 1) := by decide +kernel
theorem dX2_measureWay_95 : decode cX2_measureWay 95 = .ok (.iload 6, 2) := by decide +kernel
theorem dX2_measureWay_97 : decode cX2_measureWay 97 = .ok (.iadd, 1) := by decide +kernel
theorem dX2_measureWay_98 : decode cX2_measureWay 98 = .ok (.iload 7, 2) := by decide +kernel
theorem dX2_measureWay_100 : decode cX2_measureWay 100 = .ok (.invokestatic 72, 3) := by decide +kernel
theorem dX2_measureWay_103 : decode cX2_measureWay 103 = .ok (.iload 5, 2) := by decide +kernel
theorem dX2_measureWay_105 : decode cX2_measureWay 105 = .ok (.getstatic 85, 3) := by decide +kernel
theorem dX2_measureWay_108 : decode cX2_measureWay 108 = .ok (.iload_n 2, 1) := by decide +kernel
theorem dX2_measureWay_109 : decode cX2_measureWay 109 = .ok (.invokestatic 88, 3) := by decide +kernel
theorem dX2_measureWay_112 : decode cX2_measureWay 112 = .ok (.iadd, 1) := by decide +kernel
theorem dX2_measureWay_113 : decode cX2_measureWay 113 = .ok (.istore 5, 2) := by decide +kernel
theorem dX2_measureWay_115 : decode cX2_measureWay 115 = .ok (.iload 6, 2) := by decide +kernel
theorem dX2_measureWay_117 : decode cX2_measureWay 117 = .ok (.getstatic 92, 3) := by decide +kernel
theorem dX2_measureWay_120 : decode cX2_measureWay 120 = .ok (.iload_n 2, 1) := by decide +kernel
theorem dX2_measureWay_121 : decode cX2_measureWay 121 = .ok (.invokestatic 88, 3) := by decide +kernel
theorem dX2_measureWay_124 : decode cX2_measureWay 124 = .ok (.iadd, 1) := by decide +kernel
theorem dX2_measureWay_125 : decode cX2_measureWay 125 = .ok (.istore 6, 2) := by decide +kernel
theorem dX2_measureWay_127 : decode cX2_measureWay 127 = .ok (.iinc 7 1, 3) := by decide +kernel
theorem dX2_measureWay_130 : decode cX2_measureWay 130 = .ok (.goto (-87), 3) := by decide +kernel
theorem dX2_measureWay_133 : decode cX2_measureWay 133 = .ok (.return_, 1) := by decide +kernel
theorem dX2_wayIndex_0 : decode cX2_wayIndex 0 = .ok (.iload_n 0, 1) := by decide +kernel
theorem dX2_wayIndex_1 : decode cX2_wayIndex 1 = .ok (.iconst 4, 1) := by decide +kernel
theorem dX2_wayIndex_2 : decode cX2_wayIndex 2 = .ok (.imul, 1) := by decide +kernel
theorem dX2_wayIndex_3 : decode cX2_wayIndex 3 = .ok (.iload_n 1, 1) := by decide +kernel
theorem dX2_wayIndex_4 : decode cX2_wayIndex 4 = .ok (.iadd, 1) := by decide +kernel
theorem dX2_wayIndex_5 : decode cX2_wayIndex 5 = .ok (.bipush 24, 2) := by decide +kernel
theorem dX2_wayIndex_7 : decode cX2_wayIndex 7 = .ok (.imul, 1) := by decide +kernel
theorem dX2_wayIndex_8 : decode cX2_wayIndex 8 = .ok (.ireturn, 1) := by decide +kernel
theorem dX2_hasCell_0 : decode cX2_hasCell 0 = .ok (.iload_n 1, 1) := by decide +kernel
theorem dX2_hasCell_1 : decode cX2_hasCell 1 = .ok (.ifCond .lt 15, 3) := by decide +kernel
theorem dX2_hasCell_4 : decode cX2_hasCell 4 = .ok (.iload_n 1, 1) := by decide +kernel
theorem dX2_hasCell_5 : decode cX2_hasCell 5 = .ok (.aload_n 0, 1) := by decide +kernel
theorem dX2_hasCell_6 : decode cX2_hasCell 6 = .ok (.getfield 50, 3) := by decide +kernel
theorem dX2_hasCell_9 : decode cX2_hasCell 9 = .ok (.if_icmp .ge 7, 3) := by decide +kernel
theorem dX2_hasCell_12 : decode cX2_hasCell 12 = .ok (.iconst 1, 1) := by decide +kernel
theorem dX2_hasCell_13 : decode cX2_hasCell 13 = .ok (.goto 4, 3) := by decide +kernel
theorem dX2_hasCell_16 : decode cX2_hasCell 16 = .ok (.iconst 0, 1) := by decide +kernel
theorem dX2_hasCell_17 : decode cX2_hasCell 17 = .ok (.ireturn, 1) := by decide +kernel
theorem dX2_hasWork_0 : decode cX2_hasWork 0 = .ok (.iload_n 1, 1) := by decide +kernel
theorem dX2_hasWork_1 : decode cX2_hasWork 1 = .ok (.ifCond .lt 15, 3) := by decide +kernel
theorem dX2_hasWork_4 : decode cX2_hasWork 4 = .ok (.iload_n 1, 1) := by decide +kernel
theorem dX2_hasWork_5 : decode cX2_hasWork 5 = .ok (.aload_n 0, 1) := by decide +kernel
theorem dX2_hasWork_6 : decode cX2_hasWork 6 = .ok (.getfield 53, 3) := by decide +kernel
theorem dX2_hasWork_9 : decode cX2_hasWork 9 = .ok (.if_icmp .ge 7, 3) := by decide +kernel
theorem dX2_hasWork_12 : decode cX2_hasWork 12 = .ok (.iconst 1, 1) := by decide +kernel
theorem dX2_hasWork_13 : decode cX2_hasWork 13 = .ok (.goto 4, 3) := by decide +kernel
theorem dX2_hasWork_16 : decode cX2_hasWork 16 = .ok (.iconst 0, 1) := by decide +kernel
theorem dX2_hasWork_17 : decode cX2_hasWork 17 = .ok (.ireturn, 1) := by decide +kernel
theorem dX2_hasWard_0 : decode cX2_hasWard 0 = .ok (.iload_n 1, 1) := by decide +kernel
theorem dX2_hasWard_1 : decode cX2_hasWard 1 = .ok (.ifCond .lt 15, 3) := by decide +kernel
theorem dX2_hasWard_4 : decode cX2_hasWard 4 = .ok (.iload_n 1, 1) := by decide +kernel
theorem dX2_hasWard_5 : decode cX2_hasWard 5 = .ok (.aload_n 0, 1) := by decide +kernel
theorem dX2_hasWard_6 : decode cX2_hasWard 6 = .ok (.getfield 56, 3) := by decide +kernel
theorem dX2_hasWard_9 : decode cX2_hasWard 9 = .ok (.if_icmp .ge 7, 3) := by decide +kernel
theorem dX2_hasWard_12 : decode cX2_hasWard 12 = .ok (.iconst 1, 1) := by decide +kernel
theorem dX2_hasWard_13 : decode cX2_hasWard 13 = .ok (.goto 4, 3) := by decide +kernel
theorem dX2_hasWard_16 : decode cX2_hasWard 16 = .ok (.iconst 0, 1) := by decide +kernel
theorem dX2_hasWard_17 : decode cX2_hasWard 17 = .ok (.ireturn, 1) := by decide +kernel
theorem dX2_settingsInAll_0 : decode cX2_settingsInAll 0 = .ok (.iconst 1, 1) := by decide +kernel
theorem dX2_settingsInAll_1 : decode cX2_settingsInAll 1 = .ok (.iconst 2, 1) := by decide +kernel
theorem dX2_settingsInAll_2 : decode cX2_settingsInAll 2 = .ok (.aload_n 0, 1) := by decide +kernel
theorem dX2_settingsInAll_3 : decode cX2_settingsInAll 3 = .ok (.getfield 53, 3) := by decide +kernel
theorem dX2_settingsInAll_6 : decode cX2_settingsInAll 6 = .ok (.imul, 1) := by decide +kernel
theorem dX2_settingsInAll_7 : decode cX2_settingsInAll 7 = .ok (.ishl, 1) := by decide +kernel
theorem dX2_settingsInAll_8 : decode cX2_settingsInAll 8 = .ok (.ireturn, 1) := by decide +kernel
theorem dX2_vaneIn_0 : decode cX2_vaneIn 0 = .ok (.iload_n 1, 1) := by decide +kernel
theorem dX2_vaneIn_1 : decode cX2_vaneIn 1 = .ok (.iconst 2, 1) := by decide +kernel
theorem dX2_vaneIn_2 : decode cX2_vaneIn 2 = .ok (.aload_n 0, 1) := by decide +kernel
theorem dX2_vaneIn_3 : decode cX2_vaneIn 3 = .ok (.getfield 53, 3) := by decide +kernel
theorem dX2_vaneIn_6 : decode cX2_vaneIn 6 = .ok (.iconst 1, 1) := by decide +kernel
theorem dX2_vaneIn_7 : decode cX2_vaneIn 7 = .ok (.isub, 1) := by decide +kernel
theorem dX2_vaneIn_8 : decode cX2_vaneIn 8 = .ok (.iload_n 2, 1) := by decide +kernel
theorem dX2_vaneIn_9 : decode cX2_vaneIn 9 = .ok (.isub, 1) := by decide +kernel
theorem dX2_vaneIn_10 : decode cX2_vaneIn 10 = .ok (.imul, 1) := by decide +kernel
theorem dX2_vaneIn_11 : decode cX2_vaneIn 11 = .ok (.ishr, 1) := by decide +kernel
theorem dX2_vaneIn_12 : decode cX2_vaneIn 12 = .ok (.iconst 3, 1) := by decide +kernel
theorem dX2_vaneIn_13 : decode cX2_vaneIn 13 = .ok (.iand, 1) := by decide +kernel
theorem dX2_vaneIn_14 : decode cX2_vaneIn 14 = .ok (.ireturn, 1) := by decide +kernel
theorem dX2_turned_0 : decode cX2_turned 0 = .ok (.iconst 2, 1) := by decide +kernel
theorem dX2_turned_1 : decode cX2_turned 1 = .ok (.aload_n 0, 1) := by decide +kernel
theorem dX2_turned_2 : decode cX2_turned 2 = .ok (.getfield 53, 3) := by decide +kernel
theorem dX2_turned_5 : decode cX2_turned 5 = .ok (.iconst 1, 1) := by decide +kernel
theorem dX2_turned_6 : decode cX2_turned 6 = .ok (.isub, 1) := by decide +kernel
theorem dX2_turned_7 : decode cX2_turned 7 = .ok (.iload_n 2, 1) := by decide +kernel
theorem dX2_turned_8 : decode cX2_turned 8 = .ok (.isub, 1) := by decide +kernel
theorem dX2_turned_9 : decode cX2_turned 9 = .ok (.imul, 1) := by decide +kernel
theorem dX2_turned_10 : decode cX2_turned 10 = .ok (.istore 4, 2) := by decide +kernel
theorem dX2_turned_12 : decode cX2_turned 12 = .ok (.iload_n 1, 1) := by decide +kernel
theorem dX2_turned_13 : decode cX2_turned 13 = .ok (.iconst 3, 1) := by decide +kernel
theorem dX2_turned_14 : decode cX2_turned 14 = .ok (.iload 4, 2) := by decide +kernel
theorem dX2_turned_16 : decode cX2_turned 16 = .ok (.ishl, 1) := by decide +kernel
theorem dX2_turned_17 : decode cX2_turned 17 = .ok (.iconst (-1), 1) := by decide +kernel
theorem dX2_turned_18 : decode cX2_turned 18 = .ok (.ixor, 1) := by decide +kernel
theorem dX2_turned_19 : decode cX2_turned 19 = .ok (.iand, 1) := by decide +kernel
theorem dX2_turned_20 : decode cX2_turned 20 = .ok (.iload_n 3, 1) := by decide +kernel
theorem dX2_turned_21 : decode cX2_turned 21 = .ok (.iload 4, 2) := by decide +kernel
theorem dX2_turned_23 : decode cX2_turned 23 = .ok (.ishl, 1) := by decide +kernel
theorem dX2_turned_24 : decode cX2_turned 24 = .ok (.ior, 1) := by decide +kernel
theorem dX2_turned_25 : decode cX2_turned 25 = .ok (.ireturn, 1) := by decide +kernel
set_option maxRecDepth 20000 in
theorem ggX2_factorOf_X3_read : GoodIn wsX2_factorOf wsX3_read := goodIn_r _ [5] (by decide +kernel) (by decide +kernel)
set_option maxRecDepth 20000 in
theorem gX2_factorOf_X3_read_n88 : GoodIn wsX2_factorOf (wsX3_read) := ggX2_factorOf_X3_read
theorem dX2_factorOf_0 : decode cX2_factorOf 0 = .ok (.aload_n 0, 1) := by decide +kernel
theorem dX2_factorOf_1 : decode cX2_factorOf 1 = .ok (.getfield 15, 3) := by decide +kernel
theorem dX2_factorOf_4 : decode cX2_factorOf 4 = .ok (.iload_n 1, 1) := by decide +kernel
theorem dX2_factorOf_5 : decode cX2_factorOf 5 = .ok (.invokestatic 88, 3) := by decide +kernel
theorem dX2_factorOf_8 : decode cX2_factorOf 8 = .ok (.istore_n 2, 1) := by decide +kernel
theorem dX2_factorOf_9 : decode cX2_factorOf 9 = .ok (.aload_n 0, 1) := by decide +kernel
theorem dX2_factorOf_10 : decode cX2_factorOf 10 = .ok (.getfield 9, 3) := by decide +kernel
theorem dX2_factorOf_13 : decode cX2_factorOf 13 = .ok (.iload_n 1, 1) := by decide +kernel
theorem dX2_factorOf_14 : decode cX2_factorOf 14 = .ok (.invokestatic 88, 3) := by decide +kernel
theorem dX2_factorOf_17 : decode cX2_factorOf 17 = .ok (.lookupswitch 37 #[(1, 33), (2, 27)], 27) := by decide +kernel
theorem dX2_factorOf_44 : decode cX2_factorOf 44 = .ok (.iconst 2, 1) := by decide +kernel
theorem dX2_factorOf_45 : decode cX2_factorOf 45 = .ok (.iload_n 2, 1) := by decide +kernel
theorem dX2_factorOf_46 : decode cX2_factorOf 46 = .ok (.iconst 1, 1) := by decide +kernel
theorem dX2_factorOf_47 : decode cX2_factorOf 47 = .ok (.iadd, 1) := by decide +kernel
theorem dX2_factorOf_48 : decode cX2_factorOf 48 = .ok (.imul, 1) := by decide +kernel
theorem dX2_factorOf_49 : decode cX2_factorOf 49 = .ok (.ireturn, 1) := by decide +kernel
theorem dX2_factorOf_50 : decode cX2_factorOf 50 = .ok (.iload_n 2, 1) := by decide +kernel
theorem dX2_factorOf_51 : decode cX2_factorOf 51 = .ok (.iconst 1, 1) := by decide +kernel
theorem dX2_factorOf_52 : decode cX2_factorOf 52 = .ok (.iadd, 1) := by decide +kernel
theorem dX2_factorOf_53 : decode cX2_factorOf 53 = .ok (.ireturn, 1) := by decide +kernel
theorem dX2_factorOf_54 : decode cX2_factorOf 54 = .ok (.iload_n 2, 1) := by decide +kernel
theorem dX2_factorOf_55 : decode cX2_factorOf 55 = .ok (.ireturn, 1) := by decide +kernel
set_option maxRecDepth 20000 in
theorem ggX2_smellBy_X2_vaneIn : GoodIn wsX2_smellBy wsX2_vaneIn := goodIn_r _ [16, 1, 23, 24, 25, 26, 27, 28, 29, 30, 31, 32, 33, 34, 35, 36, 37, 38, 39, 40] (by decide +kernel) (by decide +kernel)
set_option maxRecDepth 20000 in
theorem gX2_smellBy_X2_vaneIn : GoodIn wsX2_smellBy (wsV RX2 95 RX2 yX2_vaneIn wsX2_vaneIn) := goodIn_app (goodIn_of _ (by decide +kernel)) ggX2_smellBy_X2_vaneIn
set_option maxRecDepth 20000 in
theorem ggX2_smellBy_X2_wayIndex : GoodIn wsX2_smellBy wsX2_wayIndex := goodIn_r _ [19] (by decide +kernel) (by decide +kernel)
set_option maxRecDepth 20000 in
theorem gX2_smellBy_X2_wayIndex : GoodIn wsX2_smellBy (va_wsS RX2 80 yX2_wayIndex wsX2_wayIndex) := goodIn_app (goodIn_of _ (by decide +kernel)) ggX2_smellBy_X2_wayIndex
set_option maxRecDepth 20000 in
theorem ggX2_smellBy_X3_read : GoodIn wsX2_smellBy wsX3_read := goodIn_r _ [22] (by decide +kernel) (by decide +kernel)
set_option maxRecDepth 20000 in
theorem gX2_smellBy_X3_read_n88 : GoodIn wsX2_smellBy (wsX3_read) := ggX2_smellBy_X3_read
theorem dX2_smellBy_0 : decode cX2_smellBy 0 = .ok (.iconst 0, 1) := by decide +kernel
theorem dX2_smellBy_1 : decode cX2_smellBy 1 = .ok (.istore_n 3, 1) := by decide +kernel
theorem dX2_smellBy_2 : decode cX2_smellBy 2 = .ok (.iconst 0, 1) := by decide +kernel
theorem dX2_smellBy_3 : decode cX2_smellBy 3 = .ok (.istore 4, 2) := by decide +kernel
theorem dX2_smellBy_5 : decode cX2_smellBy 5 = .ok (.iload 4, 2) := by decide +kernel
theorem dX2_smellBy_7 : decode cX2_smellBy 7 = .ok (.aload_n 0, 1) := by decide +kernel
theorem dX2_smellBy_8 : decode cX2_smellBy 8 = .ok (.getfield 53, 3) := by decide +kernel
theorem dX2_smellBy_11 : decode cX2_smellBy 11 = .ok (.if_icmp .ge 91, 3) := by decide +kernel
theorem dX2_smellBy_14 : decode cX2_smellBy 14 = .ok (.iload 4, 2) := by decide +kernel
theorem dX2_smellBy_16 : decode cX2_smellBy 16 = .ok (.aload_n 0, 1) := by decide +kernel
theorem dX2_smellBy_17 : decode cX2_smellBy 17 = .ok (.iload_n 1, 1) := by decide +kernel
theorem dX2_smellBy_18 : decode cX2_smellBy 18 = .ok (.iload 4, 2) := by decide +kernel
theorem dX2_smellBy_20 : decode cX2_smellBy 20 = .ok (.invokevirtual 95, 3) := by decide +kernel
theorem dX2_smellBy_23 : decode cX2_smellBy 23 = .ok (.invokestatic 80, 3) := by decide +kernel
theorem dX2_smellBy_26 : decode cX2_smellBy 26 = .ok (.istore 5, 2) := by decide +kernel
theorem dX2_smellBy_28 : decode cX2_smellBy 28 = .ok (.iconst 0, 1) := by decide +kernel
theorem dX2_smellBy_29 : decode cX2_smellBy 29 = .ok (.aload_n 0, 1) := by decide +kernel
theorem dX2_smellBy_30 : decode cX2_smellBy 30 = .ok (.getfield 24, 3) := by decide +kernel
theorem dX2_smellBy_33 : decode cX2_smellBy 33 = .ok (.iload 4, 2) := by decide +kernel
theorem dX2_smellBy_35 : decode cX2_smellBy 35 = .ok (.invokestatic 88, 3) := by decide +kernel
theorem dX2_smellBy_38 : decode cX2_smellBy 38 = .ok (.aload_n 0, 1) := by decide +kernel
theorem dX2_smellBy_39 : decode cX2_smellBy 39 = .ok (.getfield 33, 3) := by decide +kernel
theorem dX2_smellBy_42 : decode cX2_smellBy 42 = .ok (.iload 5, 2) := by decide +kernel
theorem dX2_smellBy_44 : decode cX2_smellBy 44 = .ok (.iload_n 2, 1) := by decide +kernel
theorem dX2_smellBy_45 : decode cX2_smellBy 45 = .ok (.iadd, 1) := by decide +kernel
theorem dX2_smellBy_46 : decode cX2_smellBy 46 = .ok (.invokestatic 88, 3) := by decide +kernel
theorem dX2_smellBy_49 : decode cX2_smellBy 49 = .ok (.isub, 1) := by decide +kernel
theorem dX2_smellBy_50 : decode cX2_smellBy 50 = .ok (.invokestatic 98, 3) := by decide +kernel
theorem dX2_smellBy_53 : decode cX2_smellBy 53 = .ok (.istore 6, 2) := by decide +kernel
theorem dX2_smellBy_55 : decode cX2_smellBy 55 = .ok (.aload_n 0, 1) := by decide +kernel
theorem dX2_smellBy_56 : decode cX2_smellBy 56 = .ok (.getfield 59, 3) := by decide +kernel
theorem dX2_smellBy_59 : decode cX2_smellBy 59 = .ok (.ifCond .ne 11, 3) := by decide +kernel
theorem dX2_smellBy_62 : decode cX2_smellBy 62 = .ok (.iload_n 3, 1) := by decide +kernel
theorem dX2_smellBy_63 : decode cX2_smellBy 63 = .ok (.iload 6, 2) := by decide +kernel
theorem dX2_smellBy_65 : decode cX2_smellBy 65 = .ok (.iadd, 1) := by decide +kernel
theorem dX2_smellBy_66 : decode cX2_smellBy 66 = .ok (.istore_n 3, 1) := by decide +kernel
theorem dX2_smellBy_67 : decode cX2_smellBy 67 = .ok (.goto 29, 3) := by decide +kernel
theorem dX2_smellBy_70 : decode cX2_smellBy 70 = .ok (.aload_n 0, 1) := by decide +kernel
theorem dX2_smellBy_71 : decode cX2_smellBy 71 = .ok (.getfield 59, 3) := by decide +kernel
theorem dX2_smellBy_74 : decode cX2_smellBy 74 = .ok (.iconst 1, 1) := by decide +kernel
theorem dX2_smellBy_75 : decode cX2_smellBy 75 = .ok (.if_icmp .ne 13, 3) := by decide +kernel
theorem dX2_smellBy_78 : decode cX2_smellBy 78 = .ok (.iload_n 3, 1) := by decide +kernel
theorem dX2_smellBy_79 : decode cX2_smellBy 79 = .ok (.iload 6, 2) := by decide +kernel
theorem dX2_smellBy_81 : decode cX2_smellBy 81 = .ok (.invokestatic 98, 3) := by decide +kernel
theorem dX2_smellBy_84 : decode cX2_smellBy 84 = .ok (.istore_n 3, 1) := by decide +kernel
theorem dX2_smellBy_85 : decode cX2_smellBy 85 = .ok (.goto 11, 3) := by decide +kernel
theorem dX2_smellBy_88 : decode cX2_smellBy 88 = .ok (.iload_n 3, 1) := by decide +kernel
theorem dX2_smellBy_89 : decode cX2_smellBy 89 = .ok (.iload 6, 2) := by decide +kernel
theorem dX2_smellBy_91 : decode cX2_smellBy 91 = .ok (.isub, 1) := by decide +kernel
theorem dX2_smellBy_92 : decode cX2_smellBy 92 = .ok (.invokestatic 103, 3) := by decide +kernel
theorem dX2_smellBy_95 : decode cX2_smellBy 95 = .ok (.istore_n 3, 1) := by decide +kernel
theorem dX2_smellBy_96 : decode cX2_smellBy 96 = .ok (.iinc 4 1, 3) := by decide +kernel
theorem dX2_smellBy_99 : decode cX2_smellBy 99 = .ok (.goto (-94), 3) := by decide +kernel
theorem dX2_smellBy_102 : decode cX2_smellBy 102 = .ok (.iload_n 3, 1) := by decide +kernel
theorem dX2_smellBy_103 : decode cX2_smellBy 103 = .ok (.ireturn, 1) := by decide +kernel
set_option maxRecDepth 20000 in
theorem ggX2_mindedBy_X2_factorOf : GoodIn wsX2_mindedBy wsX2_factorOf := goodIn_r _ [6, 7, 8, 9, 10, 11, 34, 35, 36, 37, 38, 39, 40, 41, 42, 43, 44, 45, 46, 47, 48, 49, 50, 51] (by decide +kernel) (by decide +kernel)
set_option maxRecDepth 20000 in
theorem gX2_mindedBy_X2_factorOf : GoodIn wsX2_mindedBy (wsV RX2 107 RX2 yX2_factorOf wsX2_factorOf) := goodIn_app (goodIn_of _ (by decide +kernel)) ggX2_mindedBy_X2_factorOf
set_option maxRecDepth 20000 in
theorem ggX2_mindedBy_X3_read : GoodIn wsX2_mindedBy wsX3_read := goodIn_r _ [11] (by decide +kernel) (by decide +kernel)
set_option maxRecDepth 20000 in
theorem gX2_mindedBy_X3_read_n88 : GoodIn wsX2_mindedBy (wsX3_read) := ggX2_mindedBy_X3_read
set_option maxRecDepth 20000 in
theorem ggX2_mindedBy_X2_smellBy : GoodIn wsX2_mindedBy wsX2_smellBy := goodIn_r _ [15, 16, 17, 18, 19, 20, 21, 22, 23, 24, 25, 26, 27, 28, 29, 5, 30, 31, 32, 33, 9, 10, 11, 34, 35, 36, 37, 38, 39, 40, 41, 42, 43, 44, 45, 46, 47, 48, 49, 50, 51] (by decide +kernel) (by decide +kernel)
set_option maxRecDepth 20000 in
theorem gX2_mindedBy_X2_smellBy : GoodIn wsX2_mindedBy (wsV RX2 110 RX2 yX2_smellBy wsX2_smellBy) := goodIn_app (goodIn_of _ (by decide +kernel)) ggX2_mindedBy_X2_smellBy
theorem dX2_mindedBy_0 : decode cX2_mindedBy 0 = .ok (.aload_n 0, 1) := by decide +kernel
theorem dX2_mindedBy_1 : decode cX2_mindedBy 1 = .ok (.iload_n 2, 1) := by decide +kernel
theorem dX2_mindedBy_2 : decode cX2_mindedBy 2 = .ok (.invokevirtual 107, 3) := by decide +kernel
theorem dX2_mindedBy_5 : decode cX2_mindedBy 5 = .ok (.aload_n 0, 1) := by decide +kernel
theorem dX2_mindedBy_6 : decode cX2_mindedBy 6 = .ok (.iload_n 1, 1) := by decide +kernel
theorem dX2_mindedBy_7 : decode cX2_mindedBy 7 = .ok (.aload_n 0, 1) := by decide +kernel
theorem dX2_mindedBy_8 : decode cX2_mindedBy 8 = .ok (.getfield 18, 3) := by decide +kernel
theorem dX2_mindedBy_11 : decode cX2_mindedBy 11 = .ok (.iload_n 2, 1) := by decide +kernel
theorem dX2_mindedBy_12 : decode cX2_mindedBy 12 = .ok (.invokestatic 88, 3) := by decide +kernel
theorem dX2_mindedBy_15 : decode cX2_mindedBy 15 = .ok (.invokevirtual 110, 3) := by decide +kernel
theorem dX2_mindedBy_18 : decode cX2_mindedBy 18 = .ok (.imul, 1) := by decide +kernel
theorem dX2_mindedBy_19 : decode cX2_mindedBy 19 = .ok (.ireturn, 1) := by decide +kernel
set_option maxRecDepth 20000 in
theorem ggX2_burdenBy_X2_mindedBy : GoodIn wsX2_burdenBy wsX2_mindedBy := goodIn_r _ [6, 7, 8, 9, 10, 5, 11, 12, 13, 14, 15, 16, 17, 18, 19, 20, 21, 22, 23, 24, 25, 26, 27, 28, 29, 30, 31, 32, 33, 34, 35, 36, 37, 38, 39, 40, 41, 42, 43, 44, 45, 46, 47, 48, 49, 50, 51, 52, 53, 54, 55, 56] (by decide +kernel) (by decide +kernel)
set_option maxRecDepth 20000 in
theorem gX2_burdenBy_X2_mindedBy : GoodIn wsX2_burdenBy (wsV RX2 113 RX2 yX2_mindedBy wsX2_mindedBy) := goodIn_app (goodIn_of _ (by decide +kernel)) ggX2_burdenBy_X2_mindedBy
theorem dX2_burdenBy_0 : decode cX2_burdenBy 0 = .ok (.iconst 0, 1) := by decide +kernel
theorem dX2_burdenBy_1 : decode cX2_burdenBy 1 = .ok (.istore_n 2, 1) := by decide +kernel
theorem dX2_burdenBy_2 : decode cX2_burdenBy 2 = .ok (.iconst 0, 1) := by decide +kernel
theorem dX2_burdenBy_3 : decode cX2_burdenBy 3 = .ok (.istore_n 3, 1) := by decide +kernel
theorem dX2_burdenBy_4 : decode cX2_burdenBy 4 = .ok (.iload_n 3, 1) := by decide +kernel
theorem dX2_burdenBy_5 : decode cX2_burdenBy 5 = .ok (.aload_n 0, 1) := by decide +kernel
theorem dX2_burdenBy_6 : decode cX2_burdenBy 6 = .ok (.getfield 56, 3) := by decide +kernel
theorem dX2_burdenBy_9 : decode cX2_burdenBy 9 = .ok (.if_icmp .ge 18, 3) := by decide +kernel
theorem dX2_burdenBy_12 : decode cX2_burdenBy 12 = .ok (.iload_n 2, 1) := by decide +kernel
theorem dX2_burdenBy_13 : decode cX2_burdenBy 13 = .ok (.aload_n 0, 1) := by decide +kernel
theorem dX2_burdenBy_14 : decode cX2_burdenBy 14 = .ok (.iload_n 1, 1) := by decide +kernel
theorem dX2_burdenBy_15 : decode cX2_burdenBy 15 = .ok (.iload_n 3, 1) := by decide +kernel
theorem dX2_burdenBy_16 : decode cX2_burdenBy 16 = .ok (.invokevirtual 113, 3) := by decide +kernel
theorem dX2_burdenBy_19 : decode cX2_burdenBy 19 = .ok (.iadd, 1) := by decide +kernel
theorem dX2_burdenBy_20 : decode cX2_burdenBy 20 = .ok (.istore_n 2, 1) := by decide +kernel
theorem dX2_burdenBy_21 : decode cX2_burdenBy 21 = .ok (.iinc 3 1, 3) := by decide +kernel
theorem dX2_burdenBy_24 : decode cX2_burdenBy 24 = .ok (.goto (-20), 3) := by decide +kernel
theorem dX2_burdenBy_27 : decode cX2_burdenBy 27 = .ok (.iload_n 2, 1) := by decide +kernel
theorem dX2_burdenBy_28 : decode cX2_burdenBy 28 = .ok (.ireturn, 1) := by decide +kernel
set_option maxRecDepth 20000 in
theorem ggX2_mostMindedBy_X2_mindedBy : GoodIn wsX2_mostMindedBy wsX2_mindedBy := goodIn_r _ [10, 11, 12, 13, 14, 9, 15, 16, 17, 18, 19, 20, 21, 22, 23, 24, 25, 26, 27, 2, 3, 4, 5, 28, 29, 30, 31, 32, 33, 34, 35, 36, 37, 38, 39, 40, 41, 42, 43, 44, 45, 46, 47, 48, 49, 50, 51, 52, 53, 54, 55, 56] (by decide +kernel) (by decide +kernel)
set_option maxRecDepth 20000 in
theorem gX2_mostMindedBy_X2_mindedBy : GoodIn wsX2_mostMindedBy (wsV RX2 113 RX2 yX2_mindedBy wsX2_mindedBy) := goodIn_app (goodIn_of _ (by decide +kernel)) ggX2_mostMindedBy_X2_mindedBy
theorem dX2_mostMindedBy_0 : decode cX2_mostMindedBy 0 = .ok (.iconst 0, 1) := by decide +kernel
theorem dX2_mostMindedBy_1 : decode cX2_mostMindedBy 1 = .ok (.istore_n 2, 1) := by decide +kernel
theorem dX2_mostMindedBy_2 : decode cX2_mostMindedBy 2 = .ok (.iconst 0, 1) := by decide +kernel
theorem dX2_mostMindedBy_3 : decode cX2_mostMindedBy 3 = .ok (.istore_n 3, 1) := by decide +kernel
theorem dX2_mostMindedBy_4 : decode cX2_mostMindedBy 4 = .ok (.iload_n 3, 1) := by decide +kernel
theorem dX2_mostMindedBy_5 : decode cX2_mostMindedBy 5 = .ok (.aload_n 0, 1) := by decide +kernel
theorem dX2_mostMindedBy_6 : decode cX2_mostMindedBy 6 = .ok (.getfield 56, 3) := by decide +kernel
theorem dX2_mostMindedBy_9 : decode cX2_mostMindedBy 9 = .ok (.if_icmp .ge 20, 3) := by decide +kernel
theorem dX2_mostMindedBy_12 : decode cX2_mostMindedBy 12 = .ok (.iload_n 2, 1) := by decide +kernel
theorem dX2_mostMindedBy_13 : decode cX2_mostMindedBy 13 = .ok (.aload_n 0, 1) := by decide +kernel
theorem dX2_mostMindedBy_14 : decode cX2_mostMindedBy 14 = .ok (.iload_n 1, 1) := by decide +kernel
theorem dX2_mostMindedBy_15 : decode cX2_mostMindedBy 15 = .ok (.iload_n 3, 1) := by decide +kernel
theorem dX2_mostMindedBy_16 : decode cX2_mostMindedBy 16 = .ok (.invokevirtual 113, 3) := by decide +kernel
theorem dX2_mostMindedBy_19 : decode cX2_mostMindedBy 19 = .ok (.invokestatic 98, 3) := by decide +kernel
theorem dX2_mostMindedBy_22 : decode cX2_mostMindedBy 22 = .ok (.istore_n 2, 1) := by decide +kernel
theorem dX2_mostMindedBy_23 : decode cX2_mostMindedBy 23 = .ok (.iinc 3 1, 3) := by decide +kernel
theorem dX2_mostMindedBy_26 : decode cX2_mostMindedBy 26 = .ok (.goto (-22), 3) := by decide +kernel
theorem dX2_mostMindedBy_29 : decode cX2_mostMindedBy 29 = .ok (.iload_n 2, 1) := by decide +kernel
theorem dX2_mostMindedBy_30 : decode cX2_mostMindedBy 30 = .ok (.ireturn, 1) := by decide +kernel
set_option maxRecDepth 20000 in
theorem ggX2_voteBy_X2_turned : GoodIn wsX2_voteBy wsX2_turned := goodIn_r _ [6, 7, 43, 44, 45, 46, 47, 48, 49, 50, 51, 52, 53, 54, 55, 56, 57, 58, 59, 60] (by decide +kernel) (by decide +kernel)
set_option maxRecDepth 20000 in
theorem gX2_voteBy_X2_turned : GoodIn wsX2_voteBy (wsV RX2 116 RX2 yX2_turned wsX2_turned) := goodIn_app (goodIn_of _ (by decide +kernel)) ggX2_voteBy_X2_turned
set_option maxRecDepth 20000 in
theorem ggX2_voteBy_X2_mindedBy : GoodIn wsX2_voteBy wsX2_mindedBy := goodIn_r _ [11, 12, 13, 14, 15, 5, 16, 17, 18, 19, 20, 21, 22, 23, 24, 25, 7, 26, 27, 28, 29, 30, 31, 32, 33, 34, 35, 36, 37, 38, 39, 40, 41, 42, 43, 44, 45, 46, 47, 48, 49, 50, 51, 52, 53, 54, 55, 56, 57, 58, 59, 60] (by decide +kernel) (by decide +kernel)
set_option maxRecDepth 20000 in
theorem gX2_voteBy_X2_mindedBy : GoodIn wsX2_voteBy (wsV RX2 113 RX2 yX2_mindedBy wsX2_mindedBy) := goodIn_app (goodIn_of _ (by decide +kernel)) ggX2_voteBy_X2_mindedBy
theorem dX2_voteBy_0 : decode cX2_voteBy 0 = .ok (.iconst 0, 1) := by decide +kernel
theorem dX2_voteBy_1 : decode cX2_voteBy 1 = .ok (.istore 4, 2) := by decide +kernel
theorem dX2_voteBy_3 : decode cX2_voteBy 3 = .ok (.ldc 84, 2) := by decide +kernel
theorem dX2_voteBy_5 : decode cX2_voteBy 5 = .ok (.istore 5, 2) := by decide +kernel
theorem dX2_voteBy_7 : decode cX2_voteBy 7 = .ok (.iconst 0, 1) := by decide +kernel
theorem dX2_voteBy_8 : decode cX2_voteBy 8 = .ok (.istore 6, 2) := by decide +kernel
theorem dX2_voteBy_10 : decode cX2_voteBy 10 = .ok (.iload 6, 2) := by decide +kernel
theorem dX2_voteBy_12 : decode cX2_voteBy 12 = .ok (.iconst 4, 1) := by decide +kernel
theorem dX2_voteBy_13 : decode cX2_voteBy 13 = .ok (.if_icmp .ge 39, 3) := by decide +kernel
theorem dX2_voteBy_16 : decode cX2_voteBy 16 = .ok (.aload_n 0, 1) := by decide +kernel
theorem dX2_voteBy_17 : decode cX2_voteBy 17 = .ok (.aload_n 0, 1) := by decide +kernel
theorem dX2_voteBy_18 : decode cX2_voteBy 18 = .ok (.iload_n 1, 1) := by decide +kernel
theorem dX2_voteBy_19 : decode cX2_voteBy 19 = .ok (.iload_n 3, 1) := by decide +kernel
theorem dX2_voteBy_20 : decode cX2_voteBy 20 = .ok (.iload 6, 2) := by decide +kernel
theorem dX2_voteBy_22 : decode cX2_voteBy 22 = .ok (.invokevirtual 116, 3) := by decide +kernel
theorem dX2_voteBy_25 : decode cX2_voteBy 25 = .ok (.iload_n 2, 1) := by decide +kernel
theorem dX2_voteBy_26 : decode cX2_voteBy 26 = .ok (.invokevirtual 113, 3) := by decide +kernel
theorem dX2_voteBy_29 : decode cX2_voteBy 29 = .ok (.istore 7, 2) := by decide +kernel
theorem dX2_voteBy_31 : decode cX2_voteBy 31 = .ok (.iload 7, 2) := by decide +kernel
theorem dX2_voteBy_33 : decode cX2_voteBy 33 = .ok (.iload 5, 2) := by decide +kernel
theorem dX2_voteBy_35 : decode cX2_voteBy 35 = .ok (.if_icmp .ge 11, 3) := by decide +kernel
theorem dX2_voteBy_38 : decode cX2_voteBy 38 = .ok (.iload 7, 2) := by decide +kernel
theorem dX2_voteBy_40 : decode cX2_voteBy 40 = .ok (.istore 5, 2) := by decide +kernel
theorem dX2_voteBy_42 : decode cX2_voteBy 42 = .ok (.iload 6, 2) := by decide +kernel
theorem dX2_voteBy_44 : decode cX2_voteBy 44 = .ok (.istore 4, 2) := by decide +kernel
theorem dX2_voteBy_46 : decode cX2_voteBy 46 = .ok (.iinc 6 1, 3) := by decide +kernel
theorem dX2_voteBy_49 : decode cX2_voteBy 49 = .ok (.goto (-39), 3) := by decide +kernel
theorem dX2_voteBy_52 : decode cX2_voteBy 52 = .ok (.iload 4, 2) := by decide +kernel
theorem dX2_voteBy_54 : decode cX2_voteBy 54 = .ok (.ireturn, 1) := by decide +kernel
set_option maxRecDepth 20000 in
theorem ggX2_castVotes_X2_voteBy : GoodIn wsX2_castVotes wsX2_voteBy := goodIn_r _ [7, 8, 9, 10, 11, 6, 12, 13, 14, 15, 16, 17, 18, 19, 20, 21, 22, 23, 24, 25, 26, 27, 28, 29, 30, 31, 32, 33, 34, 35, 36, 37, 38, 39, 40, 41, 42, 43, 44, 45, 46, 47, 48, 51, 52, 53, 54, 55, 56, 57, 58, 59, 60, 61, 62, 63, 64, 65, 66, 67, 68] (by decide +kernel) (by decide +kernel)
set_option maxRecDepth 20000 in
theorem gX2_castVotes_X2_voteBy : GoodIn wsX2_castVotes (wsV RX2 120 RX2 yX2_voteBy wsX2_voteBy) := goodIn_app (goodIn_of _ (by decide +kernel)) ggX2_castVotes_X2_voteBy
set_option maxRecDepth 20000 in
theorem ggX2_castVotes_X3_write : GoodIn wsX2_castVotes wsX3_write := goodIn_r _ [50] (by decide +kernel) (by decide +kernel)
set_option maxRecDepth 20000 in
theorem gX2_castVotes_X3_write_n72 : GoodIn wsX2_castVotes (wsX3_write) := ggX2_castVotes_X3_write
theorem dX2_castVotes_0 : decode cX2_castVotes 0 = .ok (.iconst 0, 1) := by decide +kernel
theorem dX2_castVotes_1 : decode cX2_castVotes 1 = .ok (.istore_n 3, 1) := by decide +kernel
theorem dX2_castVotes_2 : decode cX2_castVotes 2 = .ok (.iload_n 3, 1) := by decide +kernel
theorem dX2_castVotes_3 : decode cX2_castVotes 3 = .ok (.aload_n 0, 1) := by decide +kernel
theorem dX2_castVotes_4 : decode cX2_castVotes 4 = .ok (.getfield 56, 3) := by decide +kernel
theorem dX2_castVotes_7 : decode cX2_castVotes 7 = .ok (.if_icmp .ge 24, 3) := by decide +kernel
theorem dX2_castVotes_10 : decode cX2_castVotes 10 = .ok (.aload_n 0, 1) := by decide +kernel
theorem dX2_castVotes_11 : decode cX2_castVotes 11 = .ok (.getfield 36, 3) := by decide +kernel
theorem dX2_castVotes_14 : decode cX2_castVotes 14 = .ok (.iload_n 3, 1) := by decide +kernel
theorem dX2_castVotes_15 : decode cX2_castVotes 15 = .ok (.aload_n 0, 1) := by decide +kernel
theorem dX2_castVotes_16 : decode cX2_castVotes 16 = .ok (.iload_n 1, 1) := by decide +kernel
theorem dX2_castVotes_17 : decode cX2_castVotes 17 = .ok (.iload_n 3, 1) := by decide +kernel
theorem dX2_castVotes_18 : decode cX2_castVotes 18 = .ok (.iload_n 2, 1) := by decide +kernel
theorem dX2_castVotes_19 : decode cX2_castVotes 19 = .ok (.invokevirtual 120, 3) := by decide +kernel
theorem dX2_castVotes_22 : decode cX2_castVotes 22 = .ok (.invokestatic 72, 3) := by decide +kernel
theorem dX2_castVotes_25 : decode cX2_castVotes 25 = .ok (.iinc 3 1, 3) := by decide +kernel
theorem dX2_castVotes_28 : decode cX2_castVotes 28 = .ok (.goto (-26), 3) := by decide +kernel
theorem dX2_castVotes_31 : decode cX2_castVotes 31 = .ok (.return_, 1) := by decide +kernel
set_option maxRecDepth 20000 in
theorem ggX2_winner_X3_read : GoodIn wsX2_winner wsX3_read := goodIn_r _ [5] (by decide +kernel) (by decide +kernel)
set_option maxRecDepth 20000 in
theorem gX2_winner_X3_read_n88 : GoodIn wsX2_winner (wsX3_read) := ggX2_winner_X3_read
theorem dX2_winner_0 : decode cX2_winner 0 = .ok (.iconst 0, 1) := by decide +kernel
theorem dX2_winner_1 : decode cX2_winner 1 = .ok (.istore_n 3, 1) := by decide +kernel
theorem dX2_winner_2 : decode cX2_winner 2 = .ok (.iconst 0, 1) := by decide +kernel
theorem dX2_winner_3 : decode cX2_winner 3 = .ok (.istore 4, 2) := by decide +kernel
theorem dX2_winner_5 : decode cX2_winner 5 = .ok (.iconst 0, 1) := by decide +kernel
theorem dX2_winner_6 : decode cX2_winner 6 = .ok (.istore 5, 2) := by decide +kernel
theorem dX2_winner_8 : decode cX2_winner 8 = .ok (.iload 5, 2) := by decide +kernel
theorem dX2_winner_10 : decode cX2_winner 10 = .ok (.iconst 4, 1) := by decide +kernel
theorem dX2_winner_11 : decode cX2_winner 11 = .ok (.if_icmp .ge 94, 3) := by decide +kernel
theorem dX2_winner_14 : decode cX2_winner 14 = .ok (.iconst 0, 1) := by decide +kernel
theorem dX2_winner_15 : decode cX2_winner 15 = .ok (.istore 6, 2) := by decide +kernel
theorem dX2_winner_17 : decode cX2_winner 17 = .ok (.iconst 0, 1) := by decide +kernel
theorem dX2_winner_18 : decode cX2_winner 18 = .ok (.istore 7, 2) := by decide +kernel
theorem dX2_winner_20 : decode cX2_winner 20 = .ok (.iload 7, 2) := by decide +kernel
theorem dX2_winner_22 : decode cX2_winner 22 = .ok (.aload_n 0, 1) := by decide +kernel
theorem dX2_winner_23 : decode cX2_winner 23 = .ok (.getfield 56, 3) := by decide +kernel
theorem dX2_winner_26 : decode cX2_winner 26 = .ok (.if_icmp .ge 59, 3) := by decide +kernel
theorem dX2_winner_29 : decode cX2_winner 29 = .ok (.iload_n 1, 1) := by decide +kernel
theorem dX2_winner_30 : decode cX2_winner 30 = .ok (.iload 7, 2) := by decide +kernel
theorem dX2_winner_32 : decode cX2_winner 32 = .ok (.ishr, 1) := by decide +kernel
theorem dX2_winner_33 : decode cX2_winner 33 = .ok (.iconst 1, 1) := by decide +kernel
theorem dX2_winner_34 : decode cX2_winner 34 = .ok (.iand, 1) := by decide +kernel
theorem dX2_winner_35 : decode cX2_winner 35 = .ok (.iconst 1, 1) := by decide +kernel
theorem dX2_winner_36 : decode cX2_winner 36 = .ok (.if_icmp .ne 7, 3) := by decide +kernel
theorem dX2_winner_39 : decode cX2_winner 39 = .ok (.iconst 1, 1) := by decide +kernel
theorem dX2_winner_40 : decode cX2_winner 40 = .ok (.goto 4, 3) := by decide +kernel
theorem dX2_winner_43 : decode cX2_winner 43 = .ok (.iconst 0, 1) := by decide +kernel
theorem dX2_winner_44 : decode cX2_winner 44 = .ok (.istore 8, 2) := by decide +kernel
theorem dX2_winner_46 : decode cX2_winner 46 = .ok (.iload 6, 2) := by decide +kernel
theorem dX2_winner_48 : decode cX2_winner 48 = .ok (.iload 8, 2) := by decide +kernel
theorem dX2_winner_50 : decode cX2_winner 50 = .ok (.ifCond .eq 7, 3) := by decide +kernel
theorem dX2_winner_53 : decode cX2_winner 53 = .ok (.iload_n 2, 1) := by decide +kernel
theorem dX2_winner_54 : decode cX2_winner 54 = .ok (.goto 12, 3) := by decide +kernel
theorem dX2_winner_57 : decode cX2_winner 57 = .ok (.aload_n 0, 1) := by decide +kernel
theorem dX2_winner_58 : decode cX2_winner 58 = .ok (.getfield 36, 3) := by decide +kernel
theorem dX2_winner_61 : decode cX2_winner 61 = .ok (.iload 7, 2) := by decide +kernel
theorem dX2_winner_63 : decode cX2_winner 63 = .ok (.invokestatic 88, 3) := by decide +kernel
theorem dX2_winner_66 : decode cX2_winner 66 = .ok (.iload 5, 2) := by decide +kernel
theorem dX2_winner_68 : decode cX2_winner 68 = .ok (.if_icmp .ne 7, 3) := by decide +kernel
theorem dX2_winner_71 : decode cX2_winner 71 = .ok (.iconst 1, 1) := by decide +kernel
theorem dX2_winner_72 : decode cX2_winner 72 = .ok (.goto 4, 3) := by decide +kernel
theorem dX2_winner_75 : decode cX2_winner 75 = .ok (.iconst 0, 1) := by decide +kernel
theorem dX2_winner_76 : decode cX2_winner 76 = .ok (.iadd, 1) := by decide +kernel
theorem dX2_winner_77 : decode cX2_winner 77 = .ok (.istore 6, 2) := by decide +kernel
theorem dX2_winner_79 : decode cX2_winner 79 = .ok (.iinc 7 1, 3) := by decide +kernel
theorem dX2_winner_82 : decode cX2_winner 82 = .ok (.goto (-62), 3) := by decide +kernel
theorem dX2_winner_85 : decode cX2_winner 85 = .ok (.iload 6, 2) := by decide +kernel
theorem dX2_winner_87 : decode cX2_winner 87 = .ok (.iload 4, 2) := by decide +kernel
theorem dX2_winner_89 : decode cX2_winner 89 = .ok (.if_icmp .le 10, 3) := by decide +kernel
theorem dX2_winner_92 : decode cX2_winner 92 = .ok (.iload 6, 2) := by decide +kernel
theorem dX2_winner_94 : decode cX2_winner 94 = .ok (.istore 4, 2) := by decide +kernel
theorem dX2_winner_96 : decode cX2_winner 96 = .ok (.iload 5, 2) := by decide +kernel
theorem dX2_winner_98 : decode cX2_winner 98 = .ok (.istore_n 3, 1) := by decide +kernel
theorem dX2_winner_99 : decode cX2_winner 99 = .ok (.iinc 5 1, 3) := by decide +kernel
theorem dX2_winner_102 : decode cX2_winner 102 = .ok (.goto (-94), 3) := by decide +kernel
theorem dX2_winner_105 : decode cX2_winner 105 = .ok (.iload_n 3, 1) := by decide +kernel
theorem dX2_winner_106 : decode cX2_winner 106 = .ok (.ireturn, 1) := by decide +kernel
set_option maxRecDepth 20000 in
theorem ggX2_ballotBy_X2_castVotes : GoodIn wsX2_ballotBy wsX2_castVotes := goodIn_r _ [5, 6, 7, 8, 9, 10, 4, 11, 12, 13, 14, 15, 16, 17, 18, 19, 20, 21, 22, 23, 24, 25, 26, 27, 28, 29, 30, 31, 32, 33, 34, 35, 36, 37, 38, 39, 40, 41, 42, 43, 44, 45, 46, 47, 48, 49, 50, 51, 52, 53, 54, 59, 60, 61, 62, 63, 64, 65, 66, 67, 68, 69, 70, 71, 72, 73, 74, 75, 76] (by decide +kernel) (by decide +kernel)
set_option maxRecDepth 20000 in
theorem gX2_ballotBy_X2_castVotes : GoodIn wsX2_ballotBy (wsV RX2 123 RX2 yX2_castVotes wsX2_castVotes) := goodIn_app (goodIn_of _ (by decide +kernel)) ggX2_ballotBy_X2_castVotes
set_option maxRecDepth 20000 in
theorem ggX2_ballotBy_X2_winner : GoodIn wsX2_ballotBy wsX2_winner := goodIn_r _ [58, 6, 7, 29, 30, 31, 59, 60, 61, 62, 63, 64, 65, 66, 67, 68, 69, 70, 71, 72, 73, 74, 75, 76] (by decide +kernel) (by decide +kernel)
set_option maxRecDepth 20000 in
theorem gX2_ballotBy_X2_winner : GoodIn wsX2_ballotBy (wsV RX2 126 RX2 yX2_winner wsX2_winner) := goodIn_app (goodIn_of _ (by decide +kernel)) ggX2_ballotBy_X2_winner
theorem dX2_ballotBy_0 : decode cX2_ballotBy 0 = .ok (.aload_n 0, 1) := by decide +kernel
theorem dX2_ballotBy_1 : decode cX2_ballotBy 1 = .ok (.iload_n 1, 1) := by decide +kernel
theorem dX2_ballotBy_2 : decode cX2_ballotBy 2 = .ok (.iload_n 2, 1) := by decide +kernel
theorem dX2_ballotBy_3 : decode cX2_ballotBy 3 = .ok (.invokevirtual 123, 3) := by decide +kernel
theorem dX2_ballotBy_6 : decode cX2_ballotBy 6 = .ok (.aload_n 0, 1) := by decide +kernel
theorem dX2_ballotBy_7 : decode cX2_ballotBy 7 = .ok (.iconst 0, 1) := by decide +kernel
theorem dX2_ballotBy_8 : decode cX2_ballotBy 8 = .ok (.iconst 0, 1) := by decide +kernel
theorem dX2_ballotBy_9 : decode cX2_ballotBy 9 = .ok (.invokevirtual 126, 3) := by decide +kernel
theorem dX2_ballotBy_12 : decode cX2_ballotBy 12 = .ok (.ireturn, 1) := by decide +kernel
set_option maxRecDepth 20000 in
theorem ggX2_fewestBribed_X2_castVotes : GoodIn wsX2_fewestBribed wsX2_castVotes := goodIn_r _ [7, 2, 8, 9, 10, 11, 6, 12, 13, 14, 15, 16, 17, 18, 19, 20, 21, 22, 23, 24, 25, 26, 27, 28, 29, 30, 31, 32, 33, 34, 35, 36, 37, 38, 39, 40, 41, 42, 43, 44, 45, 46, 47, 48, 49, 50, 51, 52, 53, 54, 55, 67, 68, 69, 70, 71, 72, 73, 74, 75, 76, 77, 78, 79, 80, 81, 82, 83, 84] (by decide +kernel) (by decide +kernel)
set_option maxRecDepth 20000 in
theorem gX2_fewestBribed_X2_castVotes : GoodIn wsX2_fewestBribed (wsV RX2 123 RX2 yX2_castVotes wsX2_castVotes) := goodIn_app (goodIn_of _ (by decide +kernel)) ggX2_fewestBribed_X2_castVotes
set_option maxRecDepth 20000 in
theorem ggX2_fewestBribed_J6_bitCount_0f7a4 : GoodIn wsX2_fewestBribed wsJ6_bitCount_0f7a4 := goodIn_r _ [59, 60, 61, 62] (by decide +kernel) (by decide +kernel)
set_option maxRecDepth 20000 in
theorem gX2_fewestBribed_J6_bitCount_0f7a4 : GoodIn wsX2_fewestBribed (va_wsS RX2 129 yJ6_bitCount_0f7a4 wsJ6_bitCount_0f7a4) := goodIn_app (goodIn_of _ (by decide +kernel)) ggX2_fewestBribed_J6_bitCount_0f7a4
set_option maxRecDepth 20000 in
theorem ggX2_fewestBribed_X2_winner : GoodIn wsX2_fewestBribed wsX2_winner := goodIn_r _ [66, 2, 8, 30, 31, 32, 67, 68, 69, 70, 71, 72, 73, 74, 75, 76, 77, 78, 79, 80, 81, 82, 83, 84] (by decide +kernel) (by decide +kernel)
set_option maxRecDepth 20000 in
theorem gX2_fewestBribed_X2_winner : GoodIn wsX2_fewestBribed (wsV RX2 126 RX2 yX2_winner wsX2_winner) := goodIn_app (goodIn_of _ (by decide +kernel)) ggX2_fewestBribed_X2_winner
theorem dX2_fewestBribed_0 : decode cX2_fewestBribed 0 = .ok (.aload_n 0, 1) := by decide +kernel
theorem dX2_fewestBribed_1 : decode cX2_fewestBribed 1 = .ok (.aload_n 0, 1) := by decide +kernel
theorem dX2_fewestBribed_2 : decode cX2_fewestBribed 2 = .ok (.getfield 62, 3) := by decide +kernel
theorem dX2_fewestBribed_5 : decode cX2_fewestBribed 5 = .ok (.iload_n 1, 1) := by decide +kernel
theorem dX2_fewestBribed_6 : decode cX2_fewestBribed 6 = .ok (.invokevirtual 123, 3) := by decide +kernel
theorem dX2_fewestBribed_9 : decode cX2_fewestBribed 9 = .ok (.bipush (-9), 2) := by decide +kernel
theorem dX2_fewestBribed_11 : decode cX2_fewestBribed 11 = .ok (.istore_n 3, 1) := by decide +kernel
theorem dX2_fewestBribed_12 : decode cX2_fewestBribed 12 = .ok (.bipush 7, 2) := by decide +kernel
theorem dX2_fewestBribed_14 : decode cX2_fewestBribed 14 = .ok (.istore 4, 2) := by decide +kernel
theorem dX2_fewestBribed_16 : decode cX2_fewestBribed 16 = .ok (.iconst 0, 1) := by decide +kernel
theorem dX2_fewestBribed_17 : decode cX2_fewestBribed 17 = .ok (.istore 5, 2) := by decide +kernel
theorem dX2_fewestBribed_19 : decode cX2_fewestBribed 19 = .ok (.iload 5, 2) := by decide +kernel
theorem dX2_fewestBribed_21 : decode cX2_fewestBribed 21 = .ok (.iconst 1, 1) := by decide +kernel
theorem dX2_fewestBribed_22 : decode cX2_fewestBribed 22 = .ok (.aload_n 0, 1) := by decide +kernel
theorem dX2_fewestBribed_23 : decode cX2_fewestBribed 23 = .ok (.getfield 56, 3) := by decide +kernel
theorem dX2_fewestBribed_26 : decode cX2_fewestBribed 26 = .ok (.ishl, 1) := by decide +kernel
theorem dX2_fewestBribed_27 : decode cX2_fewestBribed 27 = .ok (.if_icmp .ge 41, 3) := by decide +kernel
theorem dX2_fewestBribed_30 : decode cX2_fewestBribed 30 = .ok (.iload 5, 2) := by decide +kernel
theorem dX2_fewestBribed_32 : decode cX2_fewestBribed 32 = .ok (.invokestatic 129, 3) := by decide +kernel
theorem dX2_fewestBribed_35 : decode cX2_fewestBribed 35 = .ok (.istore 6, 2) := by decide +kernel
theorem dX2_fewestBribed_37 : decode cX2_fewestBribed 37 = .ok (.iload 6, 2) := by decide +kernel
theorem dX2_fewestBribed_39 : decode cX2_fewestBribed 39 = .ok (.iload 4, 2) := by decide +kernel
theorem dX2_fewestBribed_41 : decode cX2_fewestBribed 41 = .ok (.if_icmp .ge 21, 3) := by decide +kernel
theorem dX2_fewestBribed_44 : decode cX2_fewestBribed 44 = .ok (.aload_n 0, 1) := by decide +kernel
theorem dX2_fewestBribed_45 : decode cX2_fewestBribed 45 = .ok (.iload 5, 2) := by decide +kernel
theorem dX2_fewestBribed_47 : decode cX2_fewestBribed 47 = .ok (.iload_n 2, 1) := by decide +kernel
theorem dX2_fewestBribed_48 : decode cX2_fewestBribed 48 = .ok (.invokevirtual 126, 3) := by decide +kernel
theorem dX2_fewestBribed_51 : decode cX2_fewestBribed 51 = .ok (.iload_n 2, 1) := by decide +kernel
theorem dX2_fewestBribed_52 : decode cX2_fewestBribed 52 = .ok (.if_icmp .ne 10, 3) := by decide +kernel
theorem dX2_fewestBribed_55 : decode cX2_fewestBribed 55 = .ok (.iload 5, 2) := by decide +kernel
theorem dX2_fewestBribed_57 : decode cX2_fewestBribed 57 = .ok (.istore_n 3, 1) := by decide +kernel
theorem dX2_fewestBribed_58 : decode cX2_fewestBribed 58 = .ok (.iload 6, 2) := by decide +kernel
theorem dX2_fewestBribed_60 : decode cX2_fewestBribed 60 = .ok (.istore 4, 2) := by decide +kernel
theorem dX2_fewestBribed_62 : decode cX2_fewestBribed 62 = .ok (.iinc 5 1, 3) := by decide +kernel
theorem dX2_fewestBribed_65 : decode cX2_fewestBribed 65 = .ok (.goto (-46), 3) := by decide +kernel
theorem dX2_fewestBribed_68 : decode cX2_fewestBribed 68 = .ok (.iload_n 3, 1) := by decide +kernel
theorem dX2_fewestBribed_69 : decode cX2_fewestBribed 69 = .ok (.ireturn, 1) := by decide +kernel
set_option maxRecDepth 20000 in
theorem ggX2_yearAfter_X2_castVotes : GoodIn wsX2_yearAfter wsX2_castVotes := goodIn_r _ [6, 7, 8, 9, 10, 11, 5, 12, 13, 14, 15, 16, 17, 1, 18, 19, 20, 21, 22, 23, 24, 25, 26, 27, 28, 29, 30, 31, 32, 33, 34, 35, 36, 37, 38, 39, 40, 41, 42, 43, 44, 45, 46, 47, 48, 49, 50, 51, 52, 53, 54, 59, 60, 61, 62, 63, 64, 65, 66, 67, 68, 69, 70, 71, 72, 73, 74, 75, 76] (by decide +kernel) (by decide +kernel)
set_option maxRecDepth 20000 in
theorem gX2_yearAfter_X2_castVotes : GoodIn wsX2_yearAfter (wsV RX2 123 RX2 yX2_castVotes wsX2_castVotes) := goodIn_app (goodIn_of _ (by decide +kernel)) ggX2_yearAfter_X2_castVotes
set_option maxRecDepth 20000 in
theorem ggX2_yearAfter_X2_winner : GoodIn wsX2_yearAfter wsX2_winner := goodIn_r _ [58, 7, 8, 29, 30, 31, 59, 60, 61, 62, 63, 64, 65, 66, 67, 68, 69, 70, 71, 72, 73, 74, 75, 76] (by decide +kernel) (by decide +kernel)
set_option maxRecDepth 20000 in
theorem gX2_yearAfter_X2_winner : GoodIn wsX2_yearAfter (wsV RX2 126 RX2 yX2_winner wsX2_winner) := goodIn_app (goodIn_of _ (by decide +kernel)) ggX2_yearAfter_X2_winner
set_option maxRecDepth 20000 in
theorem ggX2_yearAfter_X2_turned : GoodIn wsX2_yearAfter wsX2_turned := goodIn_r _ [17, 1, 59, 60, 61, 62, 63, 64, 65, 66, 67, 68, 69, 70, 71, 72, 73, 74, 75, 76] (by decide +kernel) (by decide +kernel)
set_option maxRecDepth 20000 in
theorem gX2_yearAfter_X2_turned : GoodIn wsX2_yearAfter (wsV RX2 116 RX2 yX2_turned wsX2_turned) := goodIn_app (goodIn_of _ (by decide +kernel)) ggX2_yearAfter_X2_turned
theorem dX2_yearAfter_0 : decode cX2_yearAfter 0 = .ok (.iload_n 1, 1) := by decide +kernel
theorem dX2_yearAfter_1 : decode cX2_yearAfter 1 = .ok (.istore_n 2, 1) := by decide +kernel
theorem dX2_yearAfter_2 : decode cX2_yearAfter 2 = .ok (.iconst 0, 1) := by decide +kernel
theorem dX2_yearAfter_3 : decode cX2_yearAfter 3 = .ok (.istore_n 3, 1) := by decide +kernel
theorem dX2_yearAfter_4 : decode cX2_yearAfter 4 = .ok (.iload_n 3, 1) := by decide +kernel
theorem dX2_yearAfter_5 : decode cX2_yearAfter 5 = .ok (.aload_n 0, 1) := by decide +kernel
theorem dX2_yearAfter_6 : decode cX2_yearAfter 6 = .ok (.getfield 53, 3) := by decide +kernel
theorem dX2_yearAfter_9 : decode cX2_yearAfter 9 = .ok (.if_icmp .ge 28, 3) := by decide +kernel
theorem dX2_yearAfter_12 : decode cX2_yearAfter 12 = .ok (.aload_n 0, 1) := by decide +kernel
theorem dX2_yearAfter_13 : decode cX2_yearAfter 13 = .ok (.iload_n 2, 1) := by decide +kernel
theorem dX2_yearAfter_14 : decode cX2_yearAfter 14 = .ok (.iload_n 3, 1) := by decide +kernel
theorem dX2_yearAfter_15 : decode cX2_yearAfter 15 = .ok (.invokevirtual 123, 3) := by decide +kernel
theorem dX2_yearAfter_18 : decode cX2_yearAfter 18 = .ok (.aload_n 0, 1) := by decide +kernel
theorem dX2_yearAfter_19 : decode cX2_yearAfter 19 = .ok (.iload_n 2, 1) := by decide +kernel
theorem dX2_yearAfter_20 : decode cX2_yearAfter 20 = .ok (.iload_n 3, 1) := by decide +kernel
theorem dX2_yearAfter_21 : decode cX2_yearAfter 21 = .ok (.aload_n 0, 1) := by decide +kernel
theorem dX2_yearAfter_22 : decode cX2_yearAfter 22 = .ok (.iconst 0, 1) := by decide +kernel
theorem dX2_yearAfter_23 : decode cX2_yearAfter 23 = .ok (.iconst 0, 1) := by decide +kernel
theorem dX2_yearAfter_24 : decode cX2_yearAfter 24 = .ok (.invokevirtual 126, 3) := by decide +kernel
theorem dX2_yearAfter_27 : decode cX2_yearAfter 27 = .ok (.invokevirtual 116, 3) := by decide +kernel
theorem dX2_yearAfter_30 : decode cX2_yearAfter 30 = .ok (.istore_n 2, 1) := by decide +kernel
theorem dX2_yearAfter_31 : decode cX2_yearAfter 31 = .ok (.iinc 3 1, 3) := by decide +kernel
theorem dX2_yearAfter_34 : decode cX2_yearAfter 34 = .ok (.goto (-30), 3) := by decide +kernel
theorem dX2_yearAfter_37 : decode cX2_yearAfter 37 = .ok (.iload_n 2, 1) := by decide +kernel
theorem dX2_yearAfter_38 : decode cX2_yearAfter 38 = .ok (.ireturn, 1) := by decide +kernel
set_option maxRecDepth 20000 in
theorem ggX2_leastSetting_X2_settingsInAll : GoodIn wsX2_leastSetting wsX2_settingsInAll := goodIn_r _ [6, 7, 52, 53, 54, 55, 56, 57, 58, 59, 60, 61, 62, 63, 64, 65, 66, 67, 68, 69] (by decide +kernel) (by decide +kernel)
set_option maxRecDepth 20000 in
theorem gX2_leastSetting_X2_settingsInAll : GoodIn wsX2_leastSetting (wsV RX2 134 RX2 yX2_settingsInAll wsX2_settingsInAll) := goodIn_app (goodIn_of _ (by decide +kernel)) ggX2_leastSetting_X2_settingsInAll
set_option maxRecDepth 20000 in
theorem ggX2_leastSetting_X2_mostMindedBy : GoodIn wsX2_leastSetting wsX2_mostMindedBy := goodIn_r _ [11, 12, 13, 14, 15, 16, 17, 18, 19, 5, 20, 21, 22, 23, 24, 25, 26, 27, 28, 29, 30, 31, 32, 33, 34, 7, 35, 36, 37, 38, 39, 40, 41, 42, 43, 44, 45, 46, 47, 52, 53, 54, 55, 56, 57, 58, 59, 60, 61, 62, 63, 64, 65, 66, 67, 68, 69] (by decide +kernel) (by decide +kernel)
set_option maxRecDepth 20000 in
theorem gX2_leastSetting_X2_mostMindedBy : GoodIn wsX2_leastSetting (wsV RX2 138 RX2 yX2_mostMindedBy wsX2_mostMindedBy) := goodIn_app (goodIn_of _ (by decide +kernel)) ggX2_leastSetting_X2_mostMindedBy
set_option maxRecDepth 20000 in
theorem ggX2_leastSetting_X2_burdenBy : GoodIn wsX2_leastSetting wsX2_burdenBy := goodIn_r _ [51, 12, 17, 18, 19, 5, 20, 21, 22, 23, 24, 25, 26, 27, 28, 29, 30, 31, 32, 33, 34, 7, 35, 36, 13, 14, 15, 16, 37, 38, 39, 40, 41, 42, 43, 44, 45, 46, 47, 52, 53, 54, 55, 56, 57, 58, 59, 60, 61, 62, 63, 64, 65, 66, 67, 68, 69] (by decide +kernel) (by decide +kernel)
set_option maxRecDepth 20000 in
theorem gX2_leastSetting_X2_burdenBy : GoodIn wsX2_leastSetting (wsV RX2 141 RX2 yX2_burdenBy wsX2_burdenBy) := goodIn_app (goodIn_of _ (by decide +kernel)) ggX2_leastSetting_X2_burdenBy
theorem dX2_leastSetting_0 : decode cX2_leastSetting 0 = .ok (.iconst 0, 1) := by decide +kernel
theorem dX2_leastSetting_1 : decode cX2_leastSetting 1 = .ok (.istore_n 2, 1) := by decide +kernel
theorem dX2_leastSetting_2 : decode cX2_leastSetting 2 = .ok (.ldc 84, 2) := by decide +kernel
theorem dX2_leastSetting_4 : decode cX2_leastSetting 4 = .ok (.istore_n 3, 1) := by decide +kernel
theorem dX2_leastSetting_5 : decode cX2_leastSetting 5 = .ok (.iconst 0, 1) := by decide +kernel
theorem dX2_leastSetting_6 : decode cX2_leastSetting 6 = .ok (.istore 4, 2) := by decide +kernel
theorem dX2_leastSetting_8 : decode cX2_leastSetting 8 = .ok (.iload 4, 2) := by decide +kernel
theorem dX2_leastSetting_10 : decode cX2_leastSetting 10 = .ok (.aload_n 0, 1) := by decide +kernel
theorem dX2_leastSetting_11 : decode cX2_leastSetting 11 = .ok (.invokevirtual 134, 3) := by decide +kernel
theorem dX2_leastSetting_14 : decode cX2_leastSetting 14 = .ok (.if_icmp .ge 42, 3) := by decide +kernel
theorem dX2_leastSetting_17 : decode cX2_leastSetting 17 = .ok (.iload_n 1, 1) := by decide +kernel
theorem dX2_leastSetting_18 : decode cX2_leastSetting 18 = .ok (.ifCond .eq 12, 3) := by decide +kernel
theorem dX2_leastSetting_21 : decode cX2_leastSetting 21 = .ok (.aload_n 0, 1) := by decide +kernel
theorem dX2_leastSetting_22 : decode cX2_leastSetting 22 = .ok (.iload 4, 2) := by decide +kernel
theorem dX2_leastSetting_24 : decode cX2_leastSetting 24 = .ok (.invokevirtual 138, 3) := by decide +kernel
theorem dX2_leastSetting_27 : decode cX2_leastSetting 27 = .ok (.goto 9, 3) := by decide +kernel
theorem dX2_leastSetting_30 : decode cX2_leastSetting 30 = .ok (.aload_n 0, 1) := by decide +kernel
theorem dX2_leastSetting_31 : decode cX2_leastSetting 31 = .ok (.iload 4, 2) := by decide +kernel
theorem dX2_leastSetting_33 : decode cX2_leastSetting 33 = .ok (.invokevirtual 141, 3) := by decide +kernel
theorem dX2_leastSetting_36 : decode cX2_leastSetting 36 = .ok (.istore 5, 2) := by decide +kernel
theorem dX2_leastSetting_38 : decode cX2_leastSetting 38 = .ok (.iload 5, 2) := by decide +kernel
theorem dX2_leastSetting_40 : decode cX2_leastSetting 40 = .ok (.iload_n 3, 1) := by decide +kernel
theorem dX2_leastSetting_41 : decode cX2_leastSetting 41 = .ok (.if_icmp .ge 9, 3) := by decide +kernel
theorem dX2_leastSetting_44 : decode cX2_leastSetting 44 = .ok (.iload 5, 2) := by decide +kernel
theorem dX2_leastSetting_46 : decode cX2_leastSetting 46 = .ok (.istore_n 3, 1) := by decide +kernel
theorem dX2_leastSetting_47 : decode cX2_leastSetting 47 = .ok (.iload 4, 2) := by decide +kernel
theorem dX2_leastSetting_49 : decode cX2_leastSetting 49 = .ok (.istore_n 2, 1) := by decide +kernel
theorem dX2_leastSetting_50 : decode cX2_leastSetting 50 = .ok (.iinc 4 1, 3) := by decide +kernel
theorem dX2_leastSetting_53 : decode cX2_leastSetting 53 = .ok (.goto (-45), 3) := by decide +kernel
theorem dX2_leastSetting_56 : decode cX2_leastSetting 56 = .ok (.iload_n 2, 1) := by decide +kernel
theorem dX2_leastSetting_57 : decode cX2_leastSetting 57 = .ok (.ireturn, 1) := by decide +kernel
set_option maxRecDepth 20000 in
theorem ggX2_agreesBy_X3_read : GoodIn wsX2_agreesBy wsX3_read := goodIn_r _ [6] (by decide +kernel) (by decide +kernel)
set_option maxRecDepth 20000 in
theorem gX2_agreesBy_X3_read_n88 : GoodIn wsX2_agreesBy (wsX3_read) := ggX2_agreesBy_X3_read
set_option maxRecDepth 20000 in
theorem ggX2_agreesBy_X2_smellBy : GoodIn wsX2_agreesBy wsX2_smellBy := goodIn_r _ [11, 12, 13, 14, 15, 16, 17, 18, 19, 20, 21, 22, 23, 24, 25, 10, 26, 27, 28, 29, 4, 5, 6, 30, 31, 32, 33, 34, 35, 36, 37, 38, 39, 40, 41, 42, 43, 44, 45, 46, 47] (by decide +kernel) (by decide +kernel)
set_option maxRecDepth 20000 in
theorem gX2_agreesBy_X2_smellBy : GoodIn wsX2_agreesBy (wsV RX2 110 RX2 yX2_smellBy wsX2_smellBy) := goodIn_app (goodIn_of _ (by decide +kernel)) ggX2_agreesBy_X2_smellBy
theorem dX2_agreesBy_0 : decode cX2_agreesBy 0 = .ok (.iconst 0, 1) := by decide +kernel
theorem dX2_agreesBy_1 : decode cX2_agreesBy 1 = .ok (.istore_n 2, 1) := by decide +kernel
theorem dX2_agreesBy_2 : decode cX2_agreesBy 2 = .ok (.iload_n 2, 1) := by decide +kernel
theorem dX2_agreesBy_3 : decode cX2_agreesBy 3 = .ok (.aload_n 0, 1) := by decide +kernel
theorem dX2_agreesBy_4 : decode cX2_agreesBy 4 = .ok (.getfield 65, 3) := by decide +kernel
theorem dX2_agreesBy_7 : decode cX2_agreesBy 7 = .ok (.if_icmp .ge 35, 3) := by decide +kernel
theorem dX2_agreesBy_10 : decode cX2_agreesBy 10 = .ok (.aload_n 0, 1) := by decide +kernel
theorem dX2_agreesBy_11 : decode cX2_agreesBy 11 = .ok (.iload_n 1, 1) := by decide +kernel
theorem dX2_agreesBy_12 : decode cX2_agreesBy 12 = .ok (.aload_n 0, 1) := by decide +kernel
theorem dX2_agreesBy_13 : decode cX2_agreesBy 13 = .ok (.getfield 27, 3) := by decide +kernel
theorem dX2_agreesBy_16 : decode cX2_agreesBy 16 = .ok (.iload_n 2, 1) := by decide +kernel
theorem dX2_agreesBy_17 : decode cX2_agreesBy 17 = .ok (.invokestatic 88, 3) := by decide +kernel
theorem dX2_agreesBy_20 : decode cX2_agreesBy 20 = .ok (.invokevirtual 110, 3) := by decide +kernel
theorem dX2_agreesBy_23 : decode cX2_agreesBy 23 = .ok (.aload_n 0, 1) := by decide +kernel
theorem dX2_agreesBy_24 : decode cX2_agreesBy 24 = .ok (.getfield 30, 3) := by decide +kernel
theorem dX2_agreesBy_27 : decode cX2_agreesBy 27 = .ok (.iload_n 2, 1) := by decide +kernel
theorem dX2_agreesBy_28 : decode cX2_agreesBy 28 = .ok (.invokestatic 88, 3) := by decide +kernel
theorem dX2_agreesBy_31 : decode cX2_agreesBy 31 = .ok (.if_icmp .eq 5, 3) := by decide +kernel
theorem dX2_agreesBy_34 : decode cX2_agreesBy 34 = .ok (.iconst 0, 1) := by decide +kernel
theorem dX2_agreesBy_35 : decode cX2_agreesBy 35 = .ok (.ireturn, 1) := by decide +kernel
theorem dX2_agreesBy_36 : decode cX2_agreesBy 36 = .ok (.iinc 2 1, 3) := by decide +kernel
theorem dX2_agreesBy_39 : decode cX2_agreesBy 39 = .ok (.goto (-37), 3) := by decide +kernel
theorem dX2_agreesBy_42 : decode cX2_agreesBy 42 = .ok (.iconst 1, 1) := by decide +kernel
theorem dX2_agreesBy_43 : decode cX2_agreesBy 43 = .ok (.ireturn, 1) := by decide +kernel
set_option maxRecDepth 20000 in
theorem ggX3_init_X1_init : GoodIn wsX3_init wsX1_init := goodIn_r _ [22, 23, 2, 3, 10, 24, 25, 26, 61, 62, 63] (by decide +kernel) (by decide +kernel)
set_option maxRecDepth 20000 in
theorem gX3_init_X1_init_n19 : GoodIn wsX3_init (wsX1_init) := ggX3_init_X1_init
set_option maxRecDepth 20000 in
theorem ggX3_init_X2_init : GoodIn wsX3_init wsX2_init := goodIn_r _ [28, 29, 2, 3, 10, 30, 31, 32, 33, 34, 35, 36, 37, 38, 39, 40, 41, 42, 43, 44, 45, 46, 47, 64, 65, 66, 67, 68, 69, 70, 71, 72, 73, 74, 75, 76, 77, 78, 79, 80, 81] (by decide +kernel) (by decide +kernel)
set_option maxRecDepth 20000 in
theorem gX3_init_X2_init_n30 : GoodIn wsX3_init (wsX2_init) := ggX3_init_X2_init
set_option maxRecDepth 20000 in
theorem ggX3_init_X0_init : GoodIn wsX3_init wsX0_init := goodIn_r _ [49, 50, 2, 3, 10, 51, 52, 53, 82, 83, 84] (by decide +kernel) (by decide +kernel)
set_option maxRecDepth 20000 in
theorem gX3_init_X0_init_n45 : GoodIn wsX3_init (wsX0_init) := ggX3_init_X0_init
end
section
theorem dX3_init_0 : decode cX3_init 0 = .ok (.aload_n 0, 1) := by decide +kernel
theorem dX3_init_1 : decode cX3_init 1 = .ok (.invokespecial 3, 3) := by decide +kernel
theorem dX3_init_4 : decode cX3_init 4 = .ok (.aload_n 0, 1) := by decide +kernel
theorem dX3_init_5 : decode cX3_init 5 = .ok (.iconst 4, 1) := by decide +kernel
theorem dX3_init_6 : decode cX3_init 6 = .ok (.anewarray 11, 3) := by decide +kernel
theorem dX3_init_9 : decode cX3_init 9 = .ok (.putfield 13, 3) := by decide +kernel
theorem dX3_init_12 : decode cX3_init 12 = .ok (.aload_n 0, 1) := by decide +kernel
theorem dX3_init_13 : decode cX3_init 13 = .ok (.new 17, 3) := by decide +kernel
theorem dX3_init_16 : decode cX3_init 16 = .ok (.dup, 1) := by decide +kernel
theorem dX3_init_17 : decode cX3_init 17 = .ok (.invokespecial 19, 3) := by decide +kernel
theorem dX3_init_20 : decode cX3_init 20 = .ok (.putfield 20, 3) := by decide +kernel
theorem dX3_init_23 : decode cX3_init 23 = .ok (.aload_n 0, 1) := by decide +kernel
theorem dX3_init_24 : decode cX3_init 24 = .ok (.sipush 256, 3) := by decide +kernel
theorem dX3_init_27 : decode cX3_init 27 = .ok (.newarray .int, 2) := by decide +kernel
theorem dX3_init_29 : decode cX3_init 29 = .ok (.putfield 24, 3) := by decide +kernel
theorem dX3_init_32 : decode cX3_init 32 = .ok (.aload_n 0, 1) := by decide +kernel
theorem dX3_init_33 : decode cX3_init 33 = .ok (.new 28, 3) := by decide +kernel
theorem dX3_init_36 : decode cX3_init 36 = .ok (.dup, 1) := by decide +kernel
theorem dX3_init_37 : decode cX3_init 37 = .ok (.invokespecial 30, 3) := by decide +kernel
theorem dX3_init_40 : decode cX3_init 40 = .ok (.putfield 31, 3) := by decide +kernel
theorem dX3_init_43 : decode cX3_init 43 = .ok (.aload_n 0, 1) := by decide +kernel
theorem dX3_init_44 : decode cX3_init 44 = .ok (.new 28, 3) := by decide +kernel
theorem dX3_init_47 : decode cX3_init 47 = .ok (.dup, 1) := by decide +kernel
theorem dX3_init_48 : decode cX3_init 48 = .ok (.invokespecial 30, 3) := by decide +kernel
theorem dX3_init_51 : decode cX3_init 51 = .ok (.putfield 35, 3) := by decide +kernel
theorem dX3_init_54 : decode cX3_init 54 = .ok (.aload_n 0, 1) := by decide +kernel
theorem dX3_init_55 : decode cX3_init 55 = .ok (.iconst 0, 1) := by decide +kernel
theorem dX3_init_56 : decode cX3_init 56 = .ok (.putfield 38, 3) := by decide +kernel
theorem dX3_init_59 : decode cX3_init 59 = .ok (.aload_n 0, 1) := by decide +kernel
theorem dX3_init_60 : decode cX3_init 60 = .ok (.iconst 0, 1) := by decide +kernel
theorem dX3_init_61 : decode cX3_init 61 = .ok (.putfield 42, 3) := by decide +kernel
theorem dX3_init_64 : decode cX3_init 64 = .ok (.iconst 0, 1) := by decide +kernel
theorem dX3_init_65 : decode cX3_init 65 = .ok (.istore_n 1, 1) := by decide +kernel
theorem dX3_init_66 : decode cX3_init 66 = .ok (.iload_n 1, 1) := by decide +kernel
theorem dX3_init_67 : decode cX3_init 67 = .ok (.aload_n 0, 1) := by decide +kernel
theorem dX3_init_68 : decode cX3_init 68 = .ok (.getfield 13, 3) := by decide +kernel
theorem dX3_init_71 : decode cX3_init 71 = .ok (.arraylength, 1) := by decide +kernel
theorem dX3_init_72 : decode cX3_init 72 = .ok (.if_icmp .ge 22, 3) := by decide +kernel
theorem dX3_init_75 : decode cX3_init 75 = .ok (.aload_n 0, 1) := by decide +kernel
theorem dX3_init_76 : decode cX3_init 76 = .ok (.getfield 13, 3) := by decide +kernel
theorem dX3_init_79 : decode cX3_init 79 = .ok (.iload_n 1, 1) := by decide +kernel
theorem dX3_init_80 : decode cX3_init 80 = .ok (.new 11, 3) := by decide +kernel
theorem dX3_init_83 : decode cX3_init 83 = .ok (.dup, 1) := by decide +kernel
theorem dX3_init_84 : decode cX3_init 84 = .ok (.invokespecial 45, 3) := by decide +kernel
theorem dX3_init_87 : decode cX3_init 87 = .ok (.aastore, 1) := by decide +kernel
theorem dX3_init_88 : decode cX3_init 88 = .ok (.iinc 1 1, 3) := by decide +kernel
theorem dX3_init_91 : decode cX3_init 91 = .ok (.goto (-25), 3) := by decide +kernel
theorem dX3_init_94 : decode cX3_init 94 = .ok (.return_, 1) := by decide +kernel
set_option maxRecDepth 20000 in
theorem ggX3_town_X3_sheetAt : GoodIn wsX3_town wsX3_sheetAt := goodIn_r _ [11, 12, 120, 121, 122, 123, 124, 125, 126] (by decide +kernel) (by decide +kernel)
set_option maxRecDepth 20000 in
theorem gX3_town_X3_sheetAt : GoodIn wsX3_town (wsV RX3 46 RX3 yX3_sheetAt wsX3_sheetAt) := goodIn_app (goodIn_of _ (by decide +kernel)) ggX3_town_X3_sheetAt
set_option maxRecDepth 20000 in
theorem ggX3_town_X3_isUpTo : GoodIn wsX3_town wsX3_isUpTo := goodIn_r _ [15] (by decide +kernel) (by decide +kernel)
set_option maxRecDepth 20000 in
theorem gX3_town_X3_isUpTo : GoodIn wsX3_town (va_wsS RX3 50 yX3_isUpTo wsX3_isUpTo) := goodIn_app (goodIn_of _ (by decide +kernel)) ggX3_town_X3_isUpTo
set_option maxRecDepth 20000 in
theorem ggX3_town_X0_faultOfTaking : GoodIn wsX3_town wsX0_faultOfTaking := goodIn_r _ [20, 21, 22, 23, 24, 19, 25, 26, 27, 28, 29, 30, 148, 149, 150] (by decide +kernel) (by decide +kernel)
set_option maxRecDepth 20000 in
theorem gX3_town_X0_faultOfTaking : GoodIn wsX3_town (wsV RX3 54 RX0 yX0_faultOfTaking wsX0_faultOfTaking) := goodIn_app (goodIn_of _ (by decide +kernel)) ggX3_town_X0_faultOfTaking
set_option maxRecDepth 20000 in
theorem ggX3_town_X3_fail : GoodIn wsX3_town wsX3_fail := goodIn_r _ [34, 1, 120, 121, 122, 123, 124, 125, 126] (by decide +kernel) (by decide +kernel)
set_option maxRecDepth 20000 in
theorem gX3_town_X3_fail : GoodIn wsX3_town (wsV RX3 58 RX3 yX3_fail wsX3_fail) := goodIn_app (goodIn_of _ (by decide +kernel)) ggX3_town_X3_fail
set_option maxRecDepth 20000 in
theorem ggX3_town_X1_load : GoodIn wsX3_town wsX1_load := goodIn_r _ [39, 40, 41, 42, 43, 44, 10, 45, 46, 47, 127, 128, 129, 148, 149, 150] (by decide +kernel) (by decide +kernel)
set_option maxRecDepth 20000 in
theorem gX3_town_X1_load : GoodIn wsX3_town (wsV RX3 62 RX1 yX1_load wsX1_load) := goodIn_app (goodIn_of _ (by decide +kernel)) ggX3_town_X1_load
set_option maxRecDepth 20000 in
theorem ggX3_town_X1_readInto : GoodIn wsX3_town wsX1_readInto := goodIn_r _ [51, 40, 41, 52, 53, 54, 55, 56, 57, 58, 59, 60, 61, 62, 63, 64, 65, 66, 67, 68, 69, 70, 71, 72, 73, 38, 74, 75, 76, 77, 78, 42, 44, 10, 45, 79, 80, 81, 82, 83, 84, 85, 86, 87, 88, 89, 90, 91, 92, 93, 94, 95, 96, 97, 98, 99, 100, 101, 102, 103, 46, 47, 104, 105, 106, 107, 108, 109, 110, 111, 112, 113, 114, 115, 116, 117, 118, 119, 127, 128, 129, 130, 131, 132, 133, 134, 135, 136, 137, 138, 139, 140, 141, 142, 143, 144, 145, 146, 147] (by decide +kernel) (by decide +kernel)
set_option maxRecDepth 20000 in
theorem gX3_town_X1_readInto : GoodIn wsX3_town (wsV RX3 66 RX1 yX1_readInto wsX1_readInto) := goodIn_app (goodIn_of _ (by decide +kernel)) ggX3_town_X1_readInto
theorem dX3_town_0 : decode cX3_town 0 = .ok (.aload_n 0, 1) := by decide +kernel
theorem dX3_town_1 : decode cX3_town 1 = .ok (.iconst 0, 1) := by decide +kernel
theorem dX3_town_2 : decode cX3_town 2 = .ok (.putfield 42, 3) := by decide +kernel
theorem dX3_town_5 : decode cX3_town 5 = .ok (.aload_n 0, 1) := by decide +kernel
theorem dX3_town_6 : decode cX3_town 6 = .ok (.iload_n 1, 1) := by decide +kernel
theorem dX3_town_7 : decode cX3_town 7 = .ok (.invokevirtual 46, 3) := by decide +kernel
theorem dX3_town_10 : decode cX3_town 10 = .ok (.astore 5, 2) := by decide +kernel
theorem dX3_town_12 : decode cX3_town 12 = .ok (.aload 5, 2) := by decide +kernel
theorem dX3_town_14 : decode cX3_town 14 = .ok (.ifnonnull 5, 3) := by decide +kernel
theorem dX3_town_17 : decode cX3_town 17 = .ok (.iconst (-1), 1) := by decide +kernel
theorem dX3_town_18 : decode cX3_town 18 = .ok (.ireturn, 1) := by decide +kernel
theorem dX3_town_19 : decode cX3_town 19 = .ok (.iload_n 2, 1) := by decide +kernel
theorem dX3_town_20 : decode cX3_town 20 = .ok (.iconst 2, 1) := by decide +kernel
theorem dX3_town_21 : decode cX3_town 21 = .ok (.invokestatic 50, 3) := by decide +kernel
theorem dX3_town_24 : decode cX3_town 24 = .ok (.ifCond .ne 6, 3) := by decide +kernel
theorem dX3_town_27 : decode cX3_town 27 = .ok (.bipush (-2), 2) := by decide +kernel
theorem dX3_town_29 : decode cX3_town 29 = .ok (.ireturn, 1) := by decide +kernel
theorem dX3_town_30 : decode cX3_town 30 = .ok (.aload 5, 2) := by decide +kernel
theorem dX3_town_32 : decode cX3_town 32 = .ok (.iload_n 2, 1) := by decide +kernel
theorem dX3_town_33 : decode cX3_town 33 = .ok (.iload_n 3, 1) := by decide +kernel
theorem dX3_town_34 : decode cX3_town 34 = .ok (.iload 4, 2) := by decide +kernel
theorem dX3_town_36 : decode cX3_town 36 = .ok (.invokevirtual 54, 3) := by decide +kernel
theorem dX3_town_39 : decode cX3_town 39 = .ok (.istore 6, 2) := by decide +kernel
theorem dX3_town_41 : decode cX3_town 41 = .ok (.iload 6, 2) := by decide +kernel
theorem dX3_town_43 : decode cX3_town 43 = .ok (.ifCond .eq 10, 3) := by decide +kernel
theorem dX3_town_46 : decode cX3_town 46 = .ok (.aload_n 0, 1) := by decide +kernel
theorem dX3_town_47 : decode cX3_town 47 = .ok (.iload 6, 2) := by decide +kernel
theorem dX3_town_49 : decode cX3_town 49 = .ok (.invokevirtual 58, 3) := by decide +kernel
theorem dX3_town_52 : decode cX3_town 52 = .ok (.ireturn, 1) := by decide +kernel
theorem dX3_town_53 : decode cX3_town 53 = .ok (.aload_n 0, 1) := by decide +kernel
theorem dX3_town_54 : decode cX3_town 54 = .ok (.getfield 20, 3) := by decide +kernel
theorem dX3_town_57 : decode cX3_town 57 = .ok (.aload 5, 2) := by decide +kernel
theorem dX3_town_59 : decode cX3_town 59 = .ok (.iload_n 3, 1) := by decide +kernel
theorem dX3_town_60 : decode cX3_town 60 = .ok (.iload 4, 2) := by decide +kernel
theorem dX3_town_62 : decode cX3_town 62 = .ok (.invokevirtual 62, 3) := by decide +kernel
theorem dX3_town_65 : decode cX3_town 65 = .ok (.aload_n 0, 1) := by decide +kernel
theorem dX3_town_66 : decode cX3_town 66 = .ok (.getfield 20, 3) := by decide +kernel
theorem dX3_town_69 : decode cX3_town 69 = .ok (.aload_n 0, 1) := by decide +kernel
theorem dX3_town_70 : decode cX3_town 70 = .ok (.getfield 35, 3) := by decide +kernel
theorem dX3_town_73 : decode cX3_town 73 = .ok (.invokevirtual 66, 3) := by decide +kernel
theorem dX3_town_76 : decode cX3_town 76 = .ok (.ifCond .ne 14, 3) := by decide +kernel
theorem dX3_town_79 : decode cX3_town 79 = .ok (.bipush (-100), 2) := by decide +kernel
theorem dX3_town_81 : decode cX3_town 81 = .ok (.aload_n 0, 1) := by decide +kernel
theorem dX3_town_82 : decode cX3_town 82 = .ok (.getfield 20, 3) := by decide +kernel
theorem dX3_town_85 : decode cX3_town 85 = .ok (.getfield 70, 3) := by decide +kernel
theorem dX3_town_88 : decode cX3_town 88 = .ok (.isub, 1) := by decide +kernel
theorem dX3_town_89 : decode cX3_town 89 = .ok (.ireturn, 1) := by decide +kernel
theorem dX3_town_90 : decode cX3_town 90 = .ok (.aload_n 0, 1) := by decide +kernel
theorem dX3_town_91 : decode cX3_town 91 = .ok (.getfield 31, 3) := by decide +kernel
theorem dX3_town_94 : decode cX3_town 94 = .ok (.astore 7, 2) := by decide +kernel
theorem dX3_town_96 : decode cX3_town 96 = .ok (.aload_n 0, 1) := by decide +kernel
theorem dX3_town_97 : decode cX3_town 97 = .ok (.aload_n 0, 1) := by decide +kernel
theorem dX3_town_98 : decode cX3_town 98 = .ok (.getfield 35, 3) := by decide +kernel
theorem dX3_town_101 : decode cX3_town 101 = .ok (.putfield 31, 3) := by decide +kernel
theorem dX3_town_104 : decode cX3_town 104 = .ok (.aload_n 0, 1) := by decide +kernel
theorem dX3_town_105 : decode cX3_town 105 = .ok (.aload 7, 2) := by decide +kernel
theorem dX3_town_107 : decode cX3_town 107 = .ok (.putfield 35, 3) := by decide +kernel
theorem dX3_town_110 : decode cX3_town 110 = .ok (.aload_n 0, 1) := by decide +kernel
theorem dX3_town_111 : decode cX3_town 111 = .ok (.getfield 31, 3) := by decide +kernel
theorem dX3_town_114 : decode cX3_town 114 = .ok (.getfield 73, 3) := by decide +kernel
theorem dX3_town_117 : decode cX3_town 117 = .ok (.ireturn, 1) := by decide +kernel
set_option maxRecDepth 20000 in
theorem ggX3_ofWard_X2_hasWard : GoodIn wsX3_ofWard wsX2_hasWard := goodIn_r _ [9, 10, 28, 29, 30, 31, 32, 33, 34, 35, 36, 37, 38, 39, 40, 41, 42, 43, 44, 45] (by decide +kernel) (by decide +kernel)
set_option maxRecDepth 20000 in
theorem gX3_ofWard_X2_hasWard : GoodIn wsX3_ofWard (wsV RX3 76 RX2 yX2_hasWard wsX2_hasWard) := goodIn_app (goodIn_of _ (by decide +kernel)) ggX3_ofWard_X2_hasWard
set_option maxRecDepth 20000 in
theorem ggX3_ofWard_X3_read : GoodIn wsX3_ofWard wsX3_read := goodIn_r _ [14] (by decide +kernel) (by decide +kernel)
set_option maxRecDepth 20000 in
theorem gX3_ofWard_X3_read : GoodIn wsX3_ofWard (va_wsS RX3 83 yX3_read wsX3_read) := goodIn_app (goodIn_of _ (by decide +kernel)) ggX3_ofWard_X3_read
set_option maxRecDepth 20000 in
theorem ggX3_ofWard_X2_factorOf : GoodIn wsX3_ofWard wsX2_factorOf := goodIn_r _ [18, 19, 20, 12, 13, 14, 28, 29, 30, 31, 32, 33, 34, 35, 36, 37, 38, 39, 40, 41, 42, 43, 44, 45] (by decide +kernel) (by decide +kernel)
set_option maxRecDepth 20000 in
theorem gX3_ofWard_X2_factorOf : GoodIn wsX3_ofWard (wsV RX3 93 RX2 yX2_factorOf wsX2_factorOf) := goodIn_app (goodIn_of _ (by decide +kernel)) ggX3_ofWard_X2_factorOf
theorem dX3_ofWard_0 : decode cX3_ofWard 0 = .ok (.aload_n 0, 1) := by decide +kernel
theorem dX3_ofWard_1 : decode cX3_ofWard 1 = .ok (.getfield 31, 3) := by decide +kernel
theorem dX3_ofWard_4 : decode cX3_ofWard 4 = .ok (.iload_n 1, 1) := by decide +kernel
theorem dX3_ofWard_5 : decode cX3_ofWard 5 = .ok (.invokevirtual 76, 3) := by decide +kernel
theorem dX3_ofWard_8 : decode cX3_ofWard 8 = .ok (.ifCond .ne 5, 3) := by decide +kernel
theorem dX3_ofWard_11 : decode cX3_ofWard 11 = .ok (.iconst (-1), 1) := by decide +kernel
theorem dX3_ofWard_12 : decode cX3_ofWard 12 = .ok (.ireturn, 1) := by decide +kernel
theorem dX3_ofWard_13 : decode cX3_ofWard 13 = .ok (.iload_n 2, 1) := by decide +kernel
theorem dX3_ofWard_14 : decode cX3_ofWard 14 = .ok (.tableswitch 75 0 3 #[30, 42, 54, 66], 30) := by decide +kernel
theorem dX3_ofWard_44 : decode cX3_ofWard 44 = .ok (.aload_n 0, 1) := by decide +kernel
theorem dX3_ofWard_45 : decode cX3_ofWard 45 = .ok (.getfield 31, 3) := by decide +kernel
theorem dX3_ofWard_48 : decode cX3_ofWard 48 = .ok (.getfield 80, 3) := by decide +kernel
theorem dX3_ofWard_51 : decode cX3_ofWard 51 = .ok (.iload_n 1, 1) := by decide +kernel
theorem dX3_ofWard_52 : decode cX3_ofWard 52 = .ok (.invokestatic 83, 3) := by decide +kernel
theorem dX3_ofWard_55 : decode cX3_ofWard 55 = .ok (.ireturn, 1) := by decide +kernel
theorem dX3_ofWard_56 : decode cX3_ofWard 56 = .ok (.aload_n 0, 1) := by decide +kernel
theorem dX3_ofWard_57 : decode cX3_ofWard 57 = .ok (.getfield 31, 3) := by decide +kernel
theorem dX3_ofWard_60 : decode cX3_ofWard 60 = .ok (.getfield 87, 3) := by decide +kernel
theorem dX3_ofWard_63 : decode cX3_ofWard 63 = .ok (.iload_n 1, 1) := by decide +kernel
theorem dX3_ofWard_64 : decode cX3_ofWard 64 = .ok (.invokestatic 83, 3) := by decide +kernel
theorem dX3_ofWard_67 : decode cX3_ofWard 67 = .ok (.ireturn, 1) := by decide +kernel
theorem dX3_ofWard_68 : decode cX3_ofWard 68 = .ok (.aload_n 0, 1) := by decide +kernel
theorem dX3_ofWard_69 : decode cX3_ofWard 69 = .ok (.getfield 31, 3) := by decide +kernel
theorem dX3_ofWard_72 : decode cX3_ofWard 72 = .ok (.getfield 90, 3) := by decide +kernel
theorem dX3_ofWard_75 : decode cX3_ofWard 75 = .ok (.iload_n 1, 1) := by decide +kernel
theorem dX3_ofWard_76 : decode cX3_ofWard 76 = .ok (.invokestatic 83, 3) := by decide +kernel
theorem dX3_ofWard_79 : decode cX3_ofWard 79 = .ok (.ireturn, 1) := by decide +kernel
theorem dX3_ofWard_80 : decode cX3_ofWard 80 = .ok (.aload_n 0, 1) := by decide +kernel
theorem dX3_ofWard_81 : decode cX3_ofWard 81 = .ok (.getfield 31, 3) := by decide +kernel
theorem dX3_ofWard_84 : decode cX3_ofWard 84 = .ok (.iload_n 1, 1) := by decide +kernel
theorem dX3_ofWard_85 : decode cX3_ofWard 85 = .ok (.invokevirtual 93, 3) := by decide +kernel
theorem dX3_ofWard_88 : decode cX3_ofWard 88 = .ok (.ireturn, 1) := by decide +kernel
theorem dX3_ofWard_89 : decode cX3_ofWard 89 = .ok (.bipush (-2), 2) := by decide +kernel
theorem dX3_ofWard_91 : decode cX3_ofWard 91 = .ok (.ireturn, 1) := by decide +kernel
set_option maxRecDepth 20000 in
theorem ggX3_ofWork_X2_hasWork : GoodIn wsX3_ofWork wsX2_hasWork := goodIn_r _ [9, 10, 26, 27, 28, 29, 30, 31, 32, 33, 34, 35, 36, 37, 38, 39, 40, 41, 42, 43] (by decide +kernel) (by decide +kernel)
set_option maxRecDepth 20000 in
theorem gX3_ofWork_X2_hasWork : GoodIn wsX3_ofWork (wsV RX3 96 RX2 yX2_hasWork wsX2_hasWork) := goodIn_app (goodIn_of _ (by decide +kernel)) ggX3_ofWork_X2_hasWork
set_option maxRecDepth 20000 in
theorem ggX3_ofWork_X3_read : GoodIn wsX3_ofWork wsX3_read := goodIn_r _ [14] (by decide +kernel) (by decide +kernel)
set_option maxRecDepth 20000 in
theorem gX3_ofWork_X3_read : GoodIn wsX3_ofWork (va_wsS RX3 83 yX3_read wsX3_read) := goodIn_app (goodIn_of _ (by decide +kernel)) ggX3_ofWork_X3_read
set_option maxRecDepth 20000 in
theorem ggX3_ofWork_X2_vaneIn : GoodIn wsX3_ofWork wsX2_vaneIn := goodIn_r _ [18, 10, 26, 27, 28, 29, 30, 31, 32, 33, 34, 35, 36, 37, 38, 39, 40, 41, 42, 43] (by decide +kernel) (by decide +kernel)
set_option maxRecDepth 20000 in
theorem gX3_ofWork_X2_vaneIn : GoodIn wsX3_ofWork (wsV RX3 108 RX2 yX2_vaneIn wsX2_vaneIn) := goodIn_app (goodIn_of _ (by decide +kernel)) ggX3_ofWork_X2_vaneIn
theorem dX3_ofWork_0 : decode cX3_ofWork 0 = .ok (.aload_n 0, 1) := by decide +kernel
theorem dX3_ofWork_1 : decode cX3_ofWork 1 = .ok (.getfield 31, 3) := by decide +kernel
theorem dX3_ofWork_4 : decode cX3_ofWork 4 = .ok (.iload_n 1, 1) := by decide +kernel
theorem dX3_ofWork_5 : decode cX3_ofWork 5 = .ok (.invokevirtual 96, 3) := by decide +kernel
theorem dX3_ofWork_8 : decode cX3_ofWork 8 = .ok (.ifCond .ne 5, 3) := by decide +kernel
theorem dX3_ofWork_11 : decode cX3_ofWork 11 = .ok (.iconst (-1), 1) := by decide +kernel
theorem dX3_ofWork_12 : decode cX3_ofWork 12 = .ok (.ireturn, 1) := by decide +kernel
theorem dX3_ofWork_13 : decode cX3_ofWork 13 = .ok (.iload_n 2, 1) := by decide +kernel
theorem dX3_ofWork_14 : decode cX3_ofWork 14 = .ok (.tableswitch 66 0 2 #[26, 38, 50], 26) := by decide +kernel
theorem dX3_ofWork_40 : decode cX3_ofWork 40 = .ok (.aload_n 0, 1) := by decide +kernel
theorem dX3_ofWork_41 : decode cX3_ofWork 41 = .ok (.getfield 31, 3) := by decide +kernel
theorem dX3_ofWork_44 : decode cX3_ofWork 44 = .ok (.getfield 99, 3) := by decide +kernel
theorem dX3_ofWork_47 : decode cX3_ofWork 47 = .ok (.iload_n 1, 1) := by decide +kernel
theorem dX3_ofWork_48 : decode cX3_ofWork 48 = .ok (.invokestatic 83, 3) := by decide +kernel
theorem dX3_ofWork_51 : decode cX3_ofWork 51 = .ok (.ireturn, 1) := by decide +kernel
theorem dX3_ofWork_52 : decode cX3_ofWork 52 = .ok (.aload_n 0, 1) := by decide +kernel
theorem dX3_ofWork_53 : decode cX3_ofWork 53 = .ok (.getfield 31, 3) := by decide +kernel
theorem dX3_ofWork_56 : decode cX3_ofWork 56 = .ok (.getfield 102, 3) := by decide +kernel
theorem dX3_ofWork_59 : decode cX3_ofWork 59 = .ok (.iload_n 1, 1) := by decide +kernel
theorem dX3_ofWork_60 : decode cX3_ofWork 60 = .ok (.invokestatic 83, 3) := by decide +kernel
theorem dX3_ofWork_63 : decode cX3_ofWork 63 = .ok (.ireturn, 1) := by decide +kernel
theorem dX3_ofWork_64 : decode cX3_ofWork 64 = .ok (.aload_n 0, 1) := by decide +kernel
theorem dX3_ofWork_65 : decode cX3_ofWork 65 = .ok (.getfield 31, 3) := by decide +kernel
theorem dX3_ofWork_68 : decode cX3_ofWork 68 = .ok (.aload_n 0, 1) := by decide +kernel
theorem dX3_ofWork_69 : decode cX3_ofWork 69 = .ok (.getfield 31, 3) := by decide +kernel
theorem dX3_ofWork_72 : decode cX3_ofWork 72 = .ok (.getfield 105, 3) := by decide +kernel
theorem dX3_ofWork_75 : decode cX3_ofWork 75 = .ok (.iload_n 1, 1) := by decide +kernel
theorem dX3_ofWork_76 : decode cX3_ofWork 76 = .ok (.invokevirtual 108, 3) := by decide +kernel
theorem dX3_ofWork_79 : decode cX3_ofWork 79 = .ok (.ireturn, 1) := by decide +kernel
theorem dX3_ofWork_80 : decode cX3_ofWork 80 = .ok (.bipush (-2), 2) := by decide +kernel
theorem dX3_ofWork_82 : decode cX3_ofWork 82 = .ok (.ireturn, 1) := by decide +kernel
set_option maxRecDepth 20000 in
theorem ggX3_law_X3_isUpTo : GoodIn wsX3_law wsX3_isUpTo := goodIn_r _ [7] (by decide +kernel) (by decide +kernel)
set_option maxRecDepth 20000 in
theorem gX3_law_X3_isUpTo : GoodIn wsX3_law (va_wsS RX3 50 yX3_isUpTo wsX3_isUpTo) := goodIn_app (goodIn_of _ (by decide +kernel)) ggX3_law_X3_isUpTo
theorem dX3_law_0 : decode cX3_law 0 = .ok (.iload_n 1, 1) := by decide +kernel
theorem dX3_law_1 : decode cX3_law 1 = .ok (.iconst 2, 1) := by decide +kernel
theorem dX3_law_2 : decode cX3_law 2 = .ok (.invokestatic 50, 3) := by decide +kernel
theorem dX3_law_5 : decode cX3_law 5 = .ok (.ifCond .ne 6, 3) := by decide +kernel
theorem dX3_law_8 : decode cX3_law 8 = .ok (.bipush (-2), 2) := by decide +kernel
theorem dX3_law_10 : decode cX3_law 10 = .ok (.ireturn, 1) := by decide +kernel
theorem dX3_law_11 : decode cX3_law 11 = .ok (.aload_n 0, 1) := by decide +kernel
theorem dX3_law_12 : decode cX3_law 12 = .ok (.getfield 31, 3) := by decide +kernel
theorem dX3_law_15 : decode cX3_law 15 = .ok (.getfield 112, 3) := by decide +kernel
theorem dX3_law_18 : decode cX3_law 18 = .ok (.ifCond .ne 6, 3) := by decide +kernel
theorem dX3_law_21 : decode cX3_law 21 = .ok (.bipush (-3), 2) := by decide +kernel
theorem dX3_law_23 : decode cX3_law 23 = .ok (.ireturn, 1) := by decide +kernel
theorem dX3_law_24 : decode cX3_law 24 = .ok (.aload_n 0, 1) := by decide +kernel
theorem dX3_law_25 : decode cX3_law 25 = .ok (.getfield 31, 3) := by decide +kernel
theorem dX3_law_28 : decode cX3_law 28 = .ok (.getfield 116, 3) := by decide +kernel
theorem dX3_law_31 : decode cX3_law 31 = .ok (.istore_n 2, 1) := by decide +kernel
theorem dX3_law_32 : decode cX3_law 32 = .ok (.aload_n 0, 1) := by decide +kernel
theorem dX3_law_33 : decode cX3_law 33 = .ok (.getfield 31, 3) := by decide +kernel
theorem dX3_law_36 : decode cX3_law 36 = .ok (.iload_n 1, 1) := by decide +kernel
theorem dX3_law_37 : decode cX3_law 37 = .ok (.putfield 116, 3) := by decide +kernel
theorem dX3_law_40 : decode cX3_law 40 = .ok (.iload_n 2, 1) := by decide +kernel
theorem dX3_law_41 : decode cX3_law 41 = .ok (.ireturn, 1) := by decide +kernel
set_option maxRecDepth 20000 in
theorem ggX3_turn_X2_hasWork : GoodIn wsX3_turn wsX2_hasWork := goodIn_r _ [7, 8, 28, 29, 30, 31, 32, 33, 34, 35, 36, 37, 38, 39, 40, 41, 42, 43, 44, 45] (by decide +kernel) (by decide +kernel)
set_option maxRecDepth 20000 in
theorem gX3_turn_X2_hasWork : GoodIn wsX3_turn (wsV RX3 96 RX2 yX2_hasWork wsX2_hasWork) := goodIn_app (goodIn_of _ (by decide +kernel)) ggX3_turn_X2_hasWork
set_option maxRecDepth 20000 in
theorem ggX3_turn_X3_isUpTo : GoodIn wsX3_turn wsX3_isUpTo := goodIn_r _ [12] (by decide +kernel) (by decide +kernel)
set_option maxRecDepth 20000 in
theorem gX3_turn_X3_isUpTo : GoodIn wsX3_turn (va_wsS RX3 50 yX3_isUpTo wsX3_isUpTo) := goodIn_app (goodIn_of _ (by decide +kernel)) ggX3_turn_X3_isUpTo
set_option maxRecDepth 20000 in
theorem ggX3_turn_X2_vaneIn : GoodIn wsX3_turn wsX2_vaneIn := goodIn_r _ [16, 8, 28, 29, 30, 31, 32, 33, 34, 35, 36, 37, 38, 39, 40, 41, 42, 43, 44, 45] (by decide +kernel) (by decide +kernel)
set_option maxRecDepth 20000 in
theorem gX3_turn_X2_vaneIn : GoodIn wsX3_turn (wsV RX3 108 RX2 yX2_vaneIn wsX2_vaneIn) := goodIn_app (goodIn_of _ (by decide +kernel)) ggX3_turn_X2_vaneIn
set_option maxRecDepth 20000 in
theorem ggX3_turn_X2_turned : GoodIn wsX3_turn wsX2_turned := goodIn_r _ [20, 8, 28, 29, 30, 31, 32, 33, 34, 35, 36, 37, 38, 39, 40, 41, 42, 43, 44, 45] (by decide +kernel) (by decide +kernel)
set_option maxRecDepth 20000 in
theorem gX3_turn_X2_turned : GoodIn wsX3_turn (wsV RX3 119 RX2 yX2_turned wsX2_turned) := goodIn_app (goodIn_of _ (by decide +kernel)) ggX3_turn_X2_turned
theorem dX3_turn_0 : decode cX3_turn 0 = .ok (.aload_n 0, 1) := by decide +kernel
theorem dX3_turn_1 : decode cX3_turn 1 = .ok (.getfield 31, 3) := by decide +kernel
theorem dX3_turn_4 : decode cX3_turn 4 = .ok (.iload_n 1, 1) := by decide +kernel
theorem dX3_turn_5 : decode cX3_turn 5 = .ok (.invokevirtual 96, 3) := by decide +kernel
theorem dX3_turn_8 : decode cX3_turn 8 = .ok (.ifCond .ne 5, 3) := by decide +kernel
theorem dX3_turn_11 : decode cX3_turn 11 = .ok (.iconst (-1), 1) := by decide +kernel
theorem dX3_turn_12 : decode cX3_turn 12 = .ok (.ireturn, 1) := by decide +kernel
theorem dX3_turn_13 : decode cX3_turn 13 = .ok (.iload_n 2, 1) := by decide +kernel
theorem dX3_turn_14 : decode cX3_turn 14 = .ok (.iconst 3, 1) := by decide +kernel
theorem dX3_turn_15 : decode cX3_turn 15 = .ok (.invokestatic 50, 3) := by decide +kernel
theorem dX3_turn_18 : decode cX3_turn 18 = .ok (.ifCond .ne 6, 3) := by decide +kernel
theorem dX3_turn_21 : decode cX3_turn 21 = .ok (.bipush (-2), 2) := by decide +kernel
theorem dX3_turn_23 : decode cX3_turn 23 = .ok (.ireturn, 1) := by decide +kernel
theorem dX3_turn_24 : decode cX3_turn 24 = .ok (.aload_n 0, 1) := by decide +kernel
theorem dX3_turn_25 : decode cX3_turn 25 = .ok (.getfield 31, 3) := by decide +kernel
theorem dX3_turn_28 : decode cX3_turn 28 = .ok (.aload_n 0, 1) := by decide +kernel
theorem dX3_turn_29 : decode cX3_turn 29 = .ok (.getfield 31, 3) := by decide +kernel
theorem dX3_turn_32 : decode cX3_turn 32 = .ok (.getfield 105, 3) := by decide +kernel
theorem dX3_turn_35 : decode cX3_turn 35 = .ok (.iload_n 1, 1) := by decide +kernel
theorem dX3_turn_36 : decode cX3_turn 36 = .ok (.invokevirtual 108, 3) := by decide +kernel
theorem dX3_turn_39 : decode cX3_turn 39 = .ok (.istore_n 3, 1) := by decide +kernel
theorem dX3_turn_40 : decode cX3_turn 40 = .ok (.aload_n 0, 1) := by decide +kernel
theorem dX3_turn_41 : decode cX3_turn 41 = .ok (.getfield 31, 3) := by decide +kernel
theorem dX3_turn_44 : decode cX3_turn 44 = .ok (.aload_n 0, 1) := by decide +kernel
theorem dX3_turn_45 : decode cX3_turn 45 = .ok (.getfield 31, 3) := by decide +kernel
theorem dX3_turn_48 : decode cX3_turn 48 = .ok (.aload_n 0, 1) := by decide +kernel
theorem dX3_turn_49 : decode cX3_turn 49 = .ok (.getfield 31, 3) := by decide +kernel
theorem dX3_turn_52 : decode cX3_turn 52 = .ok (.getfield 105, 3) := by decide +kernel
theorem dX3_turn_55 : decode cX3_turn 55 = .ok (.iload_n 1, 1) := by decide +kernel
theorem dX3_turn_56 : decode cX3_turn 56 = .ok (.iload_n 2, 1) := by decide +kernel
theorem dX3_turn_57 : decode cX3_turn 57 = .ok (.invokevirtual 119, 3) := by decide +kernel
theorem dX3_turn_60 : decode cX3_turn 60 = .ok (.putfield 105, 3) := by decide +kernel
theorem dX3_turn_63 : decode cX3_turn 63 = .ok (.iload_n 3, 1) := by decide +kernel
theorem dX3_turn_64 : decode cX3_turn 64 = .ok (.ireturn, 1) := by decide +kernel
set_option maxRecDepth 20000 in
theorem ggX3_smell_X2_hasCell : GoodIn wsX3_smell wsX2_hasCell := goodIn_r _ [7, 8, 41, 42, 43, 44, 45, 46, 47, 48, 49, 50, 51, 52, 53, 54, 55, 56, 57, 58] (by decide +kernel) (by decide +kernel)
set_option maxRecDepth 20000 in
theorem gX3_smell_X2_hasCell : GoodIn wsX3_smell (wsV RX3 122 RX2 yX2_hasCell wsX2_hasCell) := goodIn_app (goodIn_of _ (by decide +kernel)) ggX3_smell_X2_hasCell
set_option maxRecDepth 20000 in
theorem ggX3_smell_X2_smellBy : GoodIn wsX3_smell wsX2_smellBy := goodIn_r _ [12, 13, 14, 15, 16, 17, 18, 19, 20, 21, 22, 23, 24, 25, 26, 6, 27, 28, 29, 30, 31, 32, 33, 41, 42, 43, 44, 45, 46, 47, 48, 49, 50, 51, 52, 53, 54, 55, 56, 57, 58] (by decide +kernel) (by decide +kernel)
set_option maxRecDepth 20000 in
theorem gX3_smell_X2_smellBy : GoodIn wsX3_smell (wsV RX3 125 RX2 yX2_smellBy wsX2_smellBy) := goodIn_app (goodIn_of _ (by decide +kernel)) ggX3_smell_X2_smellBy
theorem dX3_smell_0 : decode cX3_smell 0 = .ok (.aload_n 0, 1) := by decide +kernel
theorem dX3_smell_1 : decode cX3_smell 1 = .ok (.getfield 31, 3) := by decide +kernel
theorem dX3_smell_4 : decode cX3_smell 4 = .ok (.iload_n 1, 1) := by decide +kernel
theorem dX3_smell_5 : decode cX3_smell 5 = .ok (.invokevirtual 122, 3) := by decide +kernel
theorem dX3_smell_8 : decode cX3_smell 8 = .ok (.ifCond .eq 21, 3) := by decide +kernel
theorem dX3_smell_11 : decode cX3_smell 11 = .ok (.aload_n 0, 1) := by decide +kernel
theorem dX3_smell_12 : decode cX3_smell 12 = .ok (.getfield 31, 3) := by decide +kernel
theorem dX3_smell_15 : decode cX3_smell 15 = .ok (.aload_n 0, 1) := by decide +kernel
theorem dX3_smell_16 : decode cX3_smell 16 = .ok (.getfield 31, 3) := by decide +kernel
theorem dX3_smell_19 : decode cX3_smell 19 = .ok (.getfield 105, 3) := by decide +kernel
theorem dX3_smell_22 : decode cX3_smell 22 = .ok (.iload_n 1, 1) := by decide +kernel
theorem dX3_smell_23 : decode cX3_smell 23 = .ok (.invokevirtual 125, 3) := by decide +kernel
theorem dX3_smell_26 : decode cX3_smell 26 = .ok (.goto 4, 3) := by decide +kernel
theorem dX3_smell_29 : decode cX3_smell 29 = .ok (.iconst (-1), 1) := by decide +kernel
theorem dX3_smell_30 : decode cX3_smell 30 = .ok (.ireturn, 1) := by decide +kernel
set_option maxRecDepth 20000 in
theorem ggX3_minds_X2_hasWard : GoodIn wsX3_minds wsX2_hasWard := goodIn_r _ [7, 8, 52, 53, 54, 55, 56, 57, 58, 59, 60, 61, 62, 63, 64, 65, 66, 67, 68, 69] (by decide +kernel) (by decide +kernel)
set_option maxRecDepth 20000 in
theorem gX3_minds_X2_hasWard : GoodIn wsX3_minds (wsV RX3 76 RX2 yX2_hasWard wsX2_hasWard) := goodIn_app (goodIn_of _ (by decide +kernel)) ggX3_minds_X2_hasWard
set_option maxRecDepth 20000 in
theorem ggX3_minds_X2_mindedBy : GoodIn wsX3_minds wsX2_mindedBy := goodIn_r _ [12, 13, 14, 15, 16, 6, 17, 18, 19, 20, 21, 22, 23, 24, 25, 26, 27, 28, 29, 30, 31, 32, 33, 34, 35, 36, 37, 38, 39, 40, 41, 42, 43, 44, 52, 53, 54, 55, 56, 57, 58, 59, 60, 61, 62, 63, 64, 65, 66, 67, 68, 69] (by decide +kernel) (by decide +kernel)
set_option maxRecDepth 20000 in
theorem gX3_minds_X2_mindedBy : GoodIn wsX3_minds (wsV RX3 128 RX2 yX2_mindedBy wsX2_mindedBy) := goodIn_app (goodIn_of _ (by decide +kernel)) ggX3_minds_X2_mindedBy
theorem dX3_minds_0 : decode cX3_minds 0 = .ok (.aload_n 0, 1) := by decide +kernel
theorem dX3_minds_1 : decode cX3_minds 1 = .ok (.getfield 31, 3) := by decide +kernel
theorem dX3_minds_4 : decode cX3_minds 4 = .ok (.iload_n 1, 1) := by decide +kernel
theorem dX3_minds_5 : decode cX3_minds 5 = .ok (.invokevirtual 76, 3) := by decide +kernel
theorem dX3_minds_8 : decode cX3_minds 8 = .ok (.ifCond .eq 21, 3) := by decide +kernel
theorem dX3_minds_11 : decode cX3_minds 11 = .ok (.aload_n 0, 1) := by decide +kernel
theorem dX3_minds_12 : decode cX3_minds 12 = .ok (.getfield 31, 3) := by decide +kernel
theorem dX3_minds_15 : decode cX3_minds 15 = .ok (.aload_n 0, 1) := by decide +kernel
theorem dX3_minds_16 : decode cX3_minds 16 = .ok (.getfield 31, 3) := by decide +kernel
theorem dX3_minds_19 : decode cX3_minds 19 = .ok (.getfield 105, 3) := by decide +kernel
theorem dX3_minds_22 : decode cX3_minds 22 = .ok (.iload_n 1, 1) := by decide +kernel
theorem dX3_minds_23 : decode cX3_minds 23 = .ok (.invokevirtual 128, 3) := by decide +kernel
theorem dX3_minds_26 : decode cX3_minds 26 = .ok (.goto 4, 3) := by decide +kernel
theorem dX3_minds_29 : decode cX3_minds 29 = .ok (.iconst (-1), 1) := by decide +kernel
theorem dX3_minds_30 : decode cX3_minds 30 = .ok (.ireturn, 1) := by decide +kernel
set_option maxRecDepth 20000 in
theorem ggX3_burden_X2_burdenBy : GoodIn wsX3_burden wsX2_burdenBy := goodIn_r _ [8, 9, 10, 11, 12, 7, 13, 14, 15, 16, 17, 18, 19, 20, 21, 22, 23, 24, 25, 26, 27, 28, 29, 30, 31, 32, 33, 34, 35, 36, 37, 38, 39, 40, 41, 42, 43, 44, 45, 53, 54, 55, 56, 57, 58, 59, 60, 61, 62, 63, 64, 65, 66, 67, 68, 69, 70] (by decide +kernel) (by decide +kernel)
set_option maxRecDepth 20000 in
theorem gX3_burden_X2_burdenBy : GoodIn wsX3_burden (wsV RX3 131 RX2 yX2_burdenBy wsX2_burdenBy) := goodIn_app (goodIn_of _ (by decide +kernel)) ggX3_burden_X2_burdenBy
theorem dX3_burden_0 : decode cX3_burden 0 = .ok (.aload_n 0, 1) := by decide +kernel
theorem dX3_burden_1 : decode cX3_burden 1 = .ok (.getfield 31, 3) := by decide +kernel
theorem dX3_burden_4 : decode cX3_burden 4 = .ok (.getfield 112, 3) := by decide +kernel
theorem dX3_burden_7 : decode cX3_burden 7 = .ok (.ifCond .eq 20, 3) := by decide +kernel
theorem dX3_burden_10 : decode cX3_burden 10 = .ok (.aload_n 0, 1) := by decide +kernel
theorem dX3_burden_11 : decode cX3_burden 11 = .ok (.getfield 31, 3) := by decide +kernel
theorem dX3_burden_14 : decode cX3_burden 14 = .ok (.aload_n 0, 1) := by decide +kernel
theorem dX3_burden_15 : decode cX3_burden 15 = .ok (.getfield 31, 3) := by decide +kernel
theorem dX3_burden_18 : decode cX3_burden 18 = .ok (.getfield 105, 3) := by decide +kernel
theorem dX3_burden_21 : decode cX3_burden 21 = .ok (.invokevirtual 131, 3) := by decide +kernel
theorem dX3_burden_24 : decode cX3_burden 24 = .ok (.goto 5, 3) := by decide +kernel
theorem dX3_burden_27 : decode cX3_burden 27 = .ok (.bipush (-3), 2) := by decide +kernel
theorem dX3_burden_29 : decode cX3_burden 29 = .ok (.ireturn, 1) := by decide +kernel
set_option maxRecDepth 20000 in
theorem ggX3_told_X3_sheetAt : GoodIn wsX3_told wsX3_sheetAt := goodIn_r _ [10, 11, 80, 81, 82, 83, 84, 85, 86] (by decide +kernel) (by decide +kernel)
set_option maxRecDepth 20000 in
theorem gX3_told_X3_sheetAt : GoodIn wsX3_told (wsV RX3 46 RX3 yX3_sheetAt wsX3_sheetAt) := goodIn_app (goodIn_of _ (by decide +kernel)) ggX3_told_X3_sheetAt
set_option maxRecDepth 20000 in
theorem ggX3_told_X3_isUpTo : GoodIn wsX3_told wsX3_isUpTo := goodIn_r _ [14] (by decide +kernel) (by decide +kernel)
set_option maxRecDepth 20000 in
theorem gX3_told_X3_isUpTo : GoodIn wsX3_told (va_wsS RX3 50 yX3_isUpTo wsX3_isUpTo) := goodIn_app (goodIn_of _ (by decide +kernel)) ggX3_told_X3_isUpTo
set_option maxRecDepth 20000 in
theorem ggX3_told_X0_faultOfTaking : GoodIn wsX3_told wsX0_faultOfTaking := goodIn_r _ [19, 20, 21, 22, 23, 18, 24, 25, 26, 27, 28, 29, 105, 106, 107] (by decide +kernel) (by decide +kernel)
set_option maxRecDepth 20000 in
theorem gX3_told_X0_faultOfTaking : GoodIn wsX3_told (wsV RX3 54 RX0 yX0_faultOfTaking wsX0_faultOfTaking) := goodIn_app (goodIn_of _ (by decide +kernel)) ggX3_told_X0_faultOfTaking
set_option maxRecDepth 20000 in
theorem ggX3_told_X3_fail : GoodIn wsX3_told wsX3_fail := goodIn_r _ [33, 1, 80, 81, 82, 83, 84, 85, 86] (by decide +kernel) (by decide +kernel)
set_option maxRecDepth 20000 in
theorem gX3_told_X3_fail : GoodIn wsX3_told (wsV RX3 58 RX3 yX3_fail wsX3_fail) := goodIn_app (goodIn_of _ (by decide +kernel)) ggX3_told_X3_fail
set_option maxRecDepth 20000 in
theorem ggX3_told_X3_read : GoodIn wsX3_told wsX3_read := goodIn_r _ [36] (by decide +kernel) (by decide +kernel)
set_option maxRecDepth 20000 in
theorem gX3_told_X3_read : GoodIn wsX3_told (va_wsS RX3 83 yX3_read wsX3_read) := goodIn_app (goodIn_of _ (by decide +kernel)) ggX3_told_X3_read
set_option maxRecDepth 20000 in
theorem ggX3_told_X2_turned : GoodIn wsX3_told wsX2_turned := goodIn_r _ [41, 42, 87, 88, 89, 90, 91, 92, 93, 94, 95, 96, 97, 98, 99, 100, 101, 102, 103, 104] (by decide +kernel) (by decide +kernel)
set_option maxRecDepth 20000 in
theorem gX3_told_X2_turned : GoodIn wsX3_told (wsV RX3 119 RX2 yX2_turned wsX2_turned) := goodIn_app (goodIn_of _ (by decide +kernel)) ggX3_told_X2_turned
set_option maxRecDepth 20000 in
theorem ggX3_told_X2_burdenBy : GoodIn wsX3_told wsX2_burdenBy := goodIn_r _ [46, 47, 48, 49, 50, 40, 51, 52, 53, 54, 55, 56, 57, 58, 35, 9, 36, 59, 60, 61, 62, 42, 63, 64, 65, 66, 67, 68, 69, 70, 71, 72, 73, 74, 75, 76, 77, 78, 79, 87, 88, 89, 90, 91, 92, 93, 94, 95, 96, 97, 98, 99, 100, 101, 102, 103, 104] (by decide +kernel) (by decide +kernel)
set_option maxRecDepth 20000 in
theorem gX3_told_X2_burdenBy : GoodIn wsX3_told (wsV RX3 131 RX2 yX2_burdenBy wsX2_burdenBy) := goodIn_app (goodIn_of _ (by decide +kernel)) ggX3_told_X2_burdenBy
theorem dX3_told_0 : decode cX3_told 0 = .ok (.aload_n 0, 1) := by decide +kernel
theorem dX3_told_1 : decode cX3_told 1 = .ok (.iconst 0, 1) := by decide +kernel
theorem dX3_told_2 : decode cX3_told 2 = .ok (.putfield 42, 3) := by decide +kernel
theorem dX3_told_5 : decode cX3_told 5 = .ok (.aload_n 0, 1) := by decide +kernel
theorem dX3_told_6 : decode cX3_told 6 = .ok (.iload_n 1, 1) := by decide +kernel
theorem dX3_told_7 : decode cX3_told 7 = .ok (.invokevirtual 46, 3) := by decide +kernel
theorem dX3_told_10 : decode cX3_told 10 = .ok (.astore 5, 2) := by decide +kernel
theorem dX3_told_12 : decode cX3_told 12 = .ok (.aload 5, 2) := by decide +kernel
theorem dX3_told_14 : decode cX3_told 14 = .ok (.ifnonnull 5, 3) := by decide +kernel
theorem dX3_told_17 : decode cX3_told 17 = .ok (.iconst (-1), 1) := by decide +kernel
theorem dX3_told_18 : decode cX3_told 18 = .ok (.ireturn, 1) := by decide +kernel
theorem dX3_told_19 : decode cX3_told 19 = .ok (.iload_n 2, 1) := by decide +kernel
theorem dX3_told_20 : decode cX3_told 20 = .ok (.iconst 2, 1) := by decide +kernel
theorem dX3_told_21 : decode cX3_told 21 = .ok (.invokestatic 50, 3) := by decide +kernel
theorem dX3_told_24 : decode cX3_told 24 = .ok (.ifCond .ne 6, 3) := by decide +kernel
theorem dX3_told_27 : decode cX3_told 27 = .ok (.bipush (-2), 2) := by decide +kernel
theorem dX3_told_29 : decode cX3_told 29 = .ok (.ireturn, 1) := by decide +kernel
theorem dX3_told_30 : decode cX3_told 30 = .ok (.aload_n 0, 1) := by decide +kernel
theorem dX3_told_31 : decode cX3_told 31 = .ok (.getfield 31, 3) := by decide +kernel
theorem dX3_told_34 : decode cX3_told 34 = .ok (.getfield 112, 3) := by decide +kernel
theorem dX3_told_37 : decode cX3_told 37 = .ok (.ifCond .ne 6, 3) := by decide +kernel
theorem dX3_told_40 : decode cX3_told 40 = .ok (.bipush (-3), 2) := by decide +kernel
theorem dX3_told_42 : decode cX3_told 42 = .ok (.ireturn, 1) := by decide +kernel
theorem dX3_told_43 : decode cX3_told 43 = .ok (.aload 5, 2) := by decide +kernel
theorem dX3_told_45 : decode cX3_told 45 = .ok (.iload_n 2, 1) := by decide +kernel
theorem dX3_told_46 : decode cX3_told 46 = .ok (.iload_n 3, 1) := by decide +kernel
theorem dX3_told_47 : decode cX3_told 47 = .ok (.iload 4, 2) := by decide +kernel
theorem dX3_told_49 : decode cX3_told 49 = .ok (.invokevirtual 54, 3) := by decide +kernel
theorem dX3_told_52 : decode cX3_told 52 = .ok (.istore 6, 2) := by decide +kernel
theorem dX3_told_54 : decode cX3_told 54 = .ok (.iload 6, 2) := by decide +kernel
theorem dX3_told_56 : decode cX3_told 56 = .ok (.ifCond .eq 10, 3) := by decide +kernel
theorem dX3_told_59 : decode cX3_told 59 = .ok (.aload_n 0, 1) := by decide +kernel
theorem dX3_told_60 : decode cX3_told 60 = .ok (.iload 6, 2) := by decide +kernel
theorem dX3_told_62 : decode cX3_told 62 = .ok (.invokevirtual 58, 3) := by decide +kernel
theorem dX3_told_65 : decode cX3_told 65 = .ok (.ireturn, 1) := by decide +kernel
theorem dX3_told_66 : decode cX3_told 66 = .ok (.iload 4, 2) := by decide +kernel
theorem dX3_told_68 : decode cX3_told 68 = .ok (.aload_n 0, 1) := by decide +kernel
theorem dX3_told_69 : decode cX3_told 69 = .ok (.getfield 31, 3) := by decide +kernel
theorem dX3_told_72 : decode cX3_told 72 = .ok (.getfield 134, 3) := by decide +kernel
theorem dX3_told_75 : decode cX3_told 75 = .ok (.if_icmp .eq 6, 3) := by decide +kernel
theorem dX3_told_78 : decode cX3_told 78 = .ok (.bipush (-2), 2) := by decide +kernel
theorem dX3_told_80 : decode cX3_told 80 = .ok (.ireturn, 1) := by decide +kernel
theorem dX3_told_81 : decode cX3_told 81 = .ok (.iconst 0, 1) := by decide +kernel
theorem dX3_told_82 : decode cX3_told 82 = .ok (.istore 7, 2) := by decide +kernel
theorem dX3_told_84 : decode cX3_told 84 = .ok (.iconst 0, 1) := by decide +kernel
theorem dX3_told_85 : decode cX3_told 85 = .ok (.istore 8, 2) := by decide +kernel
theorem dX3_told_87 : decode cX3_told 87 = .ok (.iload 8, 2) := by decide +kernel
theorem dX3_told_89 : decode cX3_told 89 = .ok (.iload 4, 2) := by decide +kernel
theorem dX3_told_91 : decode cX3_told 91 = .ok (.if_icmp .ge 50, 3) := by decide +kernel
theorem dX3_told_94 : decode cX3_told 94 = .ok (.aload 5, 2) := by decide +kernel
theorem dX3_told_96 : decode cX3_told 96 = .ok (.getfield 137, 3) := by decide +kernel
theorem dX3_told_99 : decode cX3_told 99 = .ok (.iload_n 3, 1) := by decide +kernel
theorem dX3_told_100 : decode cX3_told 100 = .ok (.iload 8, 2) := by decide +kernel
theorem dX3_told_102 : decode cX3_told 102 = .ok (.iadd, 1) := by decide +kernel
theorem dX3_told_103 : decode cX3_told 103 = .ok (.invokestatic 83, 3) := by decide +kernel
theorem dX3_told_106 : decode cX3_told 106 = .ok (.istore 9, 2) := by decide +kernel
theorem dX3_told_108 : decode cX3_told 108 = .ok (.iload 9, 2) := by decide +kernel
theorem dX3_told_110 : decode cX3_told 110 = .ok (.iconst 3, 1) := by decide +kernel
theorem dX3_told_111 : decode cX3_told 111 = .ok (.invokestatic 50, 3) := by decide +kernel
theorem dX3_told_114 : decode cX3_told 114 = .ok (.ifCond .ne 6, 3) := by decide +kernel
theorem dX3_told_117 : decode cX3_told 117 = .ok (.bipush (-2), 2) := by decide +kernel
theorem dX3_told_119 : decode cX3_told 119 = .ok (.ireturn, 1) := by decide +kernel
theorem dX3_told_120 : decode cX3_told 120 = .ok (.aload_n 0, 1) := by decide +kernel
theorem dX3_told_121 : decode cX3_told 121 = .ok (.getfield 31, 3) := by decide +kernel
theorem dX3_told_124 : decode cX3_told 124 = .ok (.iload 7, 2) := by decide +kernel
theorem dX3_told_126 : decode cX3_told 126 = .ok (.iload 8, 2) := by decide +kernel
theorem dX3_told_128 : decode cX3_told 128 = .ok (.iload 9, 2) := by decide +kernel
theorem dX3_told_130 : decode cX3_told 130 = .ok (.invokevirtual 119, 3) := by decide +kernel
theorem dX3_told_133 : decode cX3_told 133 = .ok (.istore 7, 2) := by decide +kernel
theorem dX3_told_135 : decode cX3_told 135 = .ok (.iinc 8 1, 3) := by decide +kernel
theorem dX3_told_138 : decode cX3_told 138 = .ok (.goto (-51), 3) := by decide +kernel
theorem dX3_told_141 : decode cX3_told 141 = .ok (.aload_n 0, 1) := by decide +kernel
theorem dX3_told_142 : decode cX3_told 142 = .ok (.getfield 31, 3) := by decide +kernel
theorem dX3_told_145 : decode cX3_told 145 = .ok (.iload 7, 2) := by decide +kernel
theorem dX3_told_147 : decode cX3_told 147 = .ok (.invokevirtual 131, 3) := by decide +kernel
theorem dX3_told_150 : decode cX3_told 150 = .ok (.ireturn, 1) := by decide +kernel
set_option maxRecDepth 20000 in
theorem ggX3_vote_X2_hasWard : GoodIn wsX3_vote wsX2_hasWard := goodIn_r _ [7, 8, 65, 66, 67, 68, 69, 70, 71, 72, 73, 74, 75, 76, 77, 78, 79, 80, 81, 82] (by decide +kernel) (by decide +kernel)
set_option maxRecDepth 20000 in
theorem gX3_vote_X2_hasWard : GoodIn wsX3_vote (wsV RX3 76 RX2 yX2_hasWard wsX2_hasWard) := goodIn_app (goodIn_of _ (by decide +kernel)) ggX3_vote_X2_hasWard
set_option maxRecDepth 20000 in
theorem ggX3_vote_X2_hasWork : GoodIn wsX3_vote wsX2_hasWork := goodIn_r _ [12, 13, 65, 66, 67, 68, 69, 70, 71, 72, 73, 74, 75, 76, 77, 78, 79, 80, 81, 82] (by decide +kernel) (by decide +kernel)
set_option maxRecDepth 20000 in
theorem gX3_vote_X2_hasWork : GoodIn wsX3_vote (wsV RX3 96 RX2 yX2_hasWork wsX2_hasWork) := goodIn_app (goodIn_of _ (by decide +kernel)) ggX3_vote_X2_hasWork
set_option maxRecDepth 20000 in
theorem ggX3_vote_X2_voteBy : GoodIn wsX3_vote wsX2_voteBy := goodIn_r _ [17, 18, 19, 20, 21, 6, 22, 13, 23, 24, 25, 26, 27, 28, 29, 30, 31, 32, 33, 34, 35, 36, 37, 38, 39, 40, 41, 42, 43, 44, 45, 46, 47, 48, 49, 50, 51, 52, 53, 54, 55, 56, 57, 65, 66, 67, 68, 69, 70, 71, 72, 73, 74, 75, 76, 77, 78, 79, 80, 81, 82] (by decide +kernel) (by decide +kernel)
set_option maxRecDepth 20000 in
theorem gX3_vote_X2_voteBy : GoodIn wsX3_vote (wsV RX3 140 RX2 yX2_voteBy wsX2_voteBy) := goodIn_app (goodIn_of _ (by decide +kernel)) ggX3_vote_X2_voteBy
theorem dX3_vote_0 : decode cX3_vote 0 = .ok (.aload_n 0, 1) := by decide +kernel
theorem dX3_vote_1 : decode cX3_vote 1 = .ok (.getfield 31, 3) := by decide +kernel
theorem dX3_vote_4 : decode cX3_vote 4 = .ok (.iload_n 1, 1) := by decide +kernel
theorem dX3_vote_5 : decode cX3_vote 5 = .ok (.invokevirtual 76, 3) := by decide +kernel
theorem dX3_vote_8 : decode cX3_vote 8 = .ok (.ifCond .eq 18, 3) := by decide +kernel
theorem dX3_vote_11 : decode cX3_vote 11 = .ok (.aload_n 0, 1) := by decide +kernel
theorem dX3_vote_12 : decode cX3_vote 12 = .ok (.getfield 31, 3) := by decide +kernel
theorem dX3_vote_15 : decode cX3_vote 15 = .ok (.iload_n 2, 1) := by decide +kernel
theorem dX3_vote_16 : decode cX3_vote 16 = .ok (.invokevirtual 96, 3) := by decide +kernel
theorem dX3_vote_19 : decode cX3_vote 19 = .ok (.ifCond .eq 7, 3) := by decide +kernel
theorem dX3_vote_22 : decode cX3_vote 22 = .ok (.iconst 1, 1) := by decide +kernel
theorem dX3_vote_23 : decode cX3_vote 23 = .ok (.goto 4, 3) := by decide +kernel
theorem dX3_vote_26 : decode cX3_vote 26 = .ok (.iconst 0, 1) := by decide +kernel
theorem dX3_vote_27 : decode cX3_vote 27 = .ok (.istore_n 3, 1) := by decide +kernel
theorem dX3_vote_28 : decode cX3_vote 28 = .ok (.iload_n 3, 1) := by decide +kernel
theorem dX3_vote_29 : decode cX3_vote 29 = .ok (.ifCond .eq 22, 3) := by decide +kernel
theorem dX3_vote_32 : decode cX3_vote 32 = .ok (.aload_n 0, 1) := by decide +kernel
theorem dX3_vote_33 : decode cX3_vote 33 = .ok (.getfield 31, 3) := by decide +kernel
theorem dX3_vote_36 : decode cX3_vote 36 = .ok (.aload_n 0, 1) := by decide +kernel
theorem dX3_vote_37 : decode cX3_vote 37 = .ok (.getfield 31, 3) := by decide +kernel
theorem dX3_vote_40 : decode cX3_vote 40 = .ok (.getfield 105, 3) := by decide +kernel
theorem dX3_vote_43 : decode cX3_vote 43 = .ok (.iload_n 1, 1) := by decide +kernel
theorem dX3_vote_44 : decode cX3_vote 44 = .ok (.iload_n 2, 1) := by decide +kernel
theorem dX3_vote_45 : decode cX3_vote 45 = .ok (.invokevirtual 140, 3) := by decide +kernel
theorem dX3_vote_48 : decode cX3_vote 48 = .ok (.goto 4, 3) := by decide +kernel
theorem dX3_vote_51 : decode cX3_vote 51 = .ok (.iconst (-1), 1) := by decide +kernel
theorem dX3_vote_52 : decode cX3_vote 52 = .ok (.ireturn, 1) := by decide +kernel
set_option maxRecDepth 20000 in
theorem ggX3_ballot_X2_hasWork : GoodIn wsX3_ballot wsX2_hasWork := goodIn_r _ [7, 8, 76, 77, 78, 79, 80, 81, 82, 83, 84, 85, 86, 87, 88, 89, 90, 91, 92, 93] (by decide +kernel) (by decide +kernel)
set_option maxRecDepth 20000 in
theorem gX3_ballot_X2_hasWork : GoodIn wsX3_ballot (wsV RX3 96 RX2 yX2_hasWork wsX2_hasWork) := goodIn_app (goodIn_of _ (by decide +kernel)) ggX3_ballot_X2_hasWork
set_option maxRecDepth 20000 in
theorem ggX3_ballot_X2_ballotBy : GoodIn wsX3_ballot wsX2_ballotBy := goodIn_r _ [12, 13, 14, 15, 6, 16, 17, 18, 19, 20, 21, 22, 23, 24, 25, 26, 27, 8, 28, 29, 30, 31, 32, 33, 34, 35, 36, 37, 38, 39, 40, 41, 42, 43, 44, 45, 46, 47, 48, 49, 50, 51, 52, 53, 54, 55, 56, 57, 58, 59, 60, 61, 62, 63, 64, 65, 66, 67, 68, 76, 77, 78, 79, 80, 81, 82, 83, 84, 85, 86, 87, 88, 89, 90, 91, 92, 93] (by decide +kernel) (by decide +kernel)
set_option maxRecDepth 20000 in
theorem gX3_ballot_X2_ballotBy : GoodIn wsX3_ballot (wsV RX3 143 RX2 yX2_ballotBy wsX2_ballotBy) := goodIn_app (goodIn_of _ (by decide +kernel)) ggX3_ballot_X2_ballotBy
theorem dX3_ballot_0 : decode cX3_ballot 0 = .ok (.aload_n 0, 1) := by decide +kernel
theorem dX3_ballot_1 : decode cX3_ballot 1 = .ok (.getfield 31, 3) := by decide +kernel
theorem dX3_ballot_4 : decode cX3_ballot 4 = .ok (.iload_n 1, 1) := by decide +kernel
theorem dX3_ballot_5 : decode cX3_ballot 5 = .ok (.invokevirtual 96, 3) := by decide +kernel
theorem dX3_ballot_8 : decode cX3_ballot 8 = .ok (.ifCond .eq 21, 3) := by decide +kernel
theorem dX3_ballot_11 : decode cX3_ballot 11 = .ok (.aload_n 0, 1) := by decide +kernel
theorem dX3_ballot_12 : decode cX3_ballot 12 = .ok (.getfield 31, 3) := by decide +kernel
theorem dX3_ballot_15 : decode cX3_ballot 15 = .ok (.aload_n 0, 1) := by decide +kernel
theorem dX3_ballot_16 : decode cX3_ballot 16 = .ok (.getfield 31, 3) := by decide +kernel
theorem dX3_ballot_19 : decode cX3_ballot 19 = .ok (.getfield 105, 3) := by decide +kernel
theorem dX3_ballot_22 : decode cX3_ballot 22 = .ok (.iload_n 1, 1) := by decide +kernel
theorem dX3_ballot_23 : decode cX3_ballot 23 = .ok (.invokevirtual 143, 3) := by decide +kernel
theorem dX3_ballot_26 : decode cX3_ballot 26 = .ok (.goto 4, 3) := by decide +kernel
theorem dX3_ballot_29 : decode cX3_ballot 29 = .ok (.iconst (-1), 1) := by decide +kernel
theorem dX3_ballot_30 : decode cX3_ballot 30 = .ok (.ireturn, 1) := by decide +kernel
set_option maxRecDepth 20000 in
theorem ggX3_year_X2_yearAfter : GoodIn wsX3_year wsX2_yearAfter := goodIn_r _ [9, 10, 11, 12, 13, 8, 14, 15, 16, 17, 18, 19, 20, 21, 22, 23, 24, 25, 26, 27, 28, 29, 30, 31, 32, 33, 34, 35, 36, 37, 38, 39, 40, 41, 42, 43, 44, 45, 46, 47, 48, 49, 50, 51, 52, 53, 54, 55, 56, 57, 58, 59, 60, 61, 62, 63, 64, 65, 66, 75, 76, 77, 78, 79, 80, 81, 82, 83, 84, 85, 86, 87, 88, 89, 90, 91, 92] (by decide +kernel) (by decide +kernel)
set_option maxRecDepth 20000 in
theorem gX3_year_X2_yearAfter : GoodIn wsX3_year (wsV RX3 146 RX2 yX2_yearAfter wsX2_yearAfter) := goodIn_app (goodIn_of _ (by decide +kernel)) ggX3_year_X2_yearAfter
set_option maxRecDepth 20000 in
theorem ggX3_year_X2_vaneIn : GoodIn wsX3_year wsX2_vaneIn := goodIn_r _ [57, 10, 75, 76, 77, 78, 79, 80, 81, 82, 83, 84, 85, 86, 87, 88, 89, 90, 91, 92] (by decide +kernel) (by decide +kernel)
set_option maxRecDepth 20000 in
theorem gX3_year_X2_vaneIn : GoodIn wsX3_year (wsV RX3 108 RX2 yX2_vaneIn wsX2_vaneIn) := goodIn_app (goodIn_of _ (by decide +kernel)) ggX3_year_X2_vaneIn
theorem dX3_year_0 : decode cX3_year 0 = .ok (.aload_n 0, 1) := by decide +kernel
theorem dX3_year_1 : decode cX3_year 1 = .ok (.getfield 31, 3) := by decide +kernel
theorem dX3_year_4 : decode cX3_year 4 = .ok (.getfield 112, 3) := by decide +kernel
theorem dX3_year_7 : decode cX3_year 7 = .ok (.ifCond .ne 6, 3) := by decide +kernel
theorem dX3_year_10 : decode cX3_year 10 = .ok (.bipush (-3), 2) := by decide +kernel
theorem dX3_year_12 : decode cX3_year 12 = .ok (.ireturn, 1) := by decide +kernel
theorem dX3_year_13 : decode cX3_year 13 = .ok (.aload_n 0, 1) := by decide +kernel
theorem dX3_year_14 : decode cX3_year 14 = .ok (.getfield 31, 3) := by decide +kernel
theorem dX3_year_17 : decode cX3_year 17 = .ok (.getfield 105, 3) := by decide +kernel
theorem dX3_year_20 : decode cX3_year 20 = .ok (.istore_n 1, 1) := by decide +kernel
theorem dX3_year_21 : decode cX3_year 21 = .ok (.aload_n 0, 1) := by decide +kernel
theorem dX3_year_22 : decode cX3_year 22 = .ok (.getfield 31, 3) := by decide +kernel
theorem dX3_year_25 : decode cX3_year 25 = .ok (.aload_n 0, 1) := by decide +kernel
theorem dX3_year_26 : decode cX3_year 26 = .ok (.getfield 31, 3) := by decide +kernel
theorem dX3_year_29 : decode cX3_year 29 = .ok (.iload_n 1, 1) := by decide +kernel
theorem dX3_year_30 : decode cX3_year 30 = .ok (.invokevirtual 146, 3) := by decide +kernel
theorem dX3_year_33 : decode cX3_year 33 = .ok (.putfield 105, 3) := by decide +kernel
theorem dX3_year_36 : decode cX3_year 36 = .ok (.iconst 0, 1) := by decide +kernel
theorem dX3_year_37 : decode cX3_year 37 = .ok (.istore_n 2, 1) := by decide +kernel
theorem dX3_year_38 : decode cX3_year 38 = .ok (.iconst 0, 1) := by decide +kernel
theorem dX3_year_39 : decode cX3_year 39 = .ok (.istore_n 3, 1) := by decide +kernel
theorem dX3_year_40 : decode cX3_year 40 = .ok (.iload_n 3, 1) := by decide +kernel
theorem dX3_year_41 : decode cX3_year 41 = .ok (.aload_n 0, 1) := by decide +kernel
theorem dX3_year_42 : decode cX3_year 42 = .ok (.getfield 31, 3) := by decide +kernel
theorem dX3_year_45 : decode cX3_year 45 = .ok (.getfield 134, 3) := by decide +kernel
theorem dX3_year_48 : decode cX3_year 48 = .ok (.if_icmp .ge 39, 3) := by decide +kernel
theorem dX3_year_51 : decode cX3_year 51 = .ok (.aload_n 0, 1) := by decide +kernel
theorem dX3_year_52 : decode cX3_year 52 = .ok (.getfield 31, 3) := by decide +kernel
theorem dX3_year_55 : decode cX3_year 55 = .ok (.iload_n 1, 1) := by decide +kernel
theorem dX3_year_56 : decode cX3_year 56 = .ok (.iload_n 3, 1) := by decide +kernel
theorem dX3_year_57 : decode cX3_year 57 = .ok (.invokevirtual 108, 3) := by decide +kernel
theorem dX3_year_60 : decode cX3_year 60 = .ok (.aload_n 0, 1) := by decide +kernel
theorem dX3_year_61 : decode cX3_year 61 = .ok (.getfield 31, 3) := by decide +kernel
theorem dX3_year_64 : decode cX3_year 64 = .ok (.aload_n 0, 1) := by decide +kernel
theorem dX3_year_65 : decode cX3_year 65 = .ok (.getfield 31, 3) := by decide +kernel
theorem dX3_year_68 : decode cX3_year 68 = .ok (.getfield 105, 3) := by decide +kernel
theorem dX3_year_71 : decode cX3_year 71 = .ok (.iload_n 3, 1) := by decide +kernel
theorem dX3_year_72 : decode cX3_year 72 = .ok (.invokevirtual 108, 3) := by decide +kernel
theorem dX3_year_75 : decode cX3_year 75 = .ok (.if_icmp .eq 6, 3) := by decide +kernel
theorem dX3_year_78 : decode cX3_year 78 = .ok (.iinc 2 1, 3) := by decide +kernel
theorem dX3_year_81 : decode cX3_year 81 = .ok (.iinc 3 1, 3) := by decide +kernel
theorem dX3_year_84 : decode cX3_year 84 = .ok (.goto (-44), 3) := by decide +kernel
theorem dX3_year_87 : decode cX3_year 87 = .ok (.iload_n 2, 1) := by decide +kernel
theorem dX3_year_88 : decode cX3_year 88 = .ok (.ireturn, 1) := by decide +kernel
set_option maxRecDepth 20000 in
theorem ggX3_round_X3_isUpTo : GoodIn wsX3_round wsX3_isUpTo := goodIn_r _ [8] (by decide +kernel) (by decide +kernel)
set_option maxRecDepth 20000 in
theorem gX3_round_X3_isUpTo : GoodIn wsX3_round (va_wsS RX3 50 yX3_isUpTo wsX3_isUpTo) := goodIn_app (goodIn_of _ (by decide +kernel)) ggX3_round_X3_isUpTo
set_option maxRecDepth 20000 in
theorem ggX3_round_J7_fill_53178 : GoodIn wsX3_round wsJ7_fill_53178 := goodIn_r _ [12] (by decide +kernel) (by decide +kernel)
set_option maxRecDepth 20000 in
theorem gX3_round_J7_fill_53178 : GoodIn wsX3_round (va_wsS RX3 149 yJ7_fill_53178 wsJ7_fill_53178) := goodIn_app (goodIn_of _ (by decide +kernel)) ggX3_round_J7_fill_53178
set_option maxRecDepth 20000 in
theorem ggX3_round_X3_read : GoodIn wsX3_round wsX3_read := goodIn_r _ [15] (by decide +kernel) (by decide +kernel)
set_option maxRecDepth 20000 in
theorem gX3_round_X3_read : GoodIn wsX3_round (va_wsS RX3 83 yX3_read wsX3_read) := goodIn_app (goodIn_of _ (by decide +kernel)) ggX3_round_X3_read
set_option maxRecDepth 20000 in
theorem ggX3_round_X3_write : GoodIn wsX3_round wsX3_write := goodIn_r _ [18] (by decide +kernel) (by decide +kernel)
set_option maxRecDepth 20000 in
theorem gX3_round_X3_write : GoodIn wsX3_round (va_wsS RX3 155 yX3_write wsX3_write) := goodIn_app (goodIn_of _ (by decide +kernel)) ggX3_round_X3_write
set_option maxRecDepth 20000 in
theorem ggX3_round_X2_yearAfter : GoodIn wsX3_round wsX2_yearAfter := goodIn_r _ [23, 24, 25, 26, 27, 22, 28, 29, 30, 31, 32, 33, 34, 35, 36, 37, 38, 39, 40, 41, 42, 43, 44, 45, 46, 47, 48, 49, 50, 14, 7, 15, 51, 52, 53, 54, 55, 56, 57, 58, 59, 60, 61, 62, 63, 64, 65, 66, 67, 68, 69, 70, 71, 17, 18, 72, 73, 74, 75, 83, 84, 85, 86, 87, 88, 89, 90, 91, 92, 93, 94, 95, 96, 97, 98, 99, 100] (by decide +kernel) (by decide +kernel)
set_option maxRecDepth 20000 in
theorem gX3_round_X2_yearAfter : GoodIn wsX3_round (wsV RX3 146 RX2 yX2_yearAfter wsX2_yearAfter) := goodIn_app (goodIn_of _ (by decide +kernel)) ggX3_round_X2_yearAfter
theorem dX3_round_0 : decode cX3_round 0 = .ok (.iload_n 1, 1) := by decide +kernel
theorem dX3_round_1 : decode cX3_round 1 = .ok (.iconst 1, 1) := by decide +kernel
theorem dX3_round_2 : decode cX3_round 2 = .ok (.invokestatic 50, 3) := by decide +kernel
theorem dX3_round_5 : decode cX3_round 5 = .ok (.ifCond .ne 6, 3) := by decide +kernel
theorem dX3_round_8 : decode cX3_round 8 = .ok (.bipush (-2), 2) := by decide +kernel
theorem dX3_round_10 : decode cX3_round 10 = .ok (.ireturn, 1) := by decide +kernel
theorem dX3_round_11 : decode cX3_round 11 = .ok (.aload_n 0, 1) := by decide +kernel
theorem dX3_round_12 : decode cX3_round 12 = .ok (.getfield 31, 3) := by decide +kernel
theorem dX3_round_15 : decode cX3_round 15 = .ok (.getfield 112, 3) := by decide +kernel
theorem dX3_round_18 : decode cX3_round 18 = .ok (.ifCond .ne 6, 3) := by decide +kernel
theorem dX3_round_21 : decode cX3_round 21 = .ok (.bipush (-3), 2) := by decide +kernel
theorem dX3_round_23 : decode cX3_round 23 = .ok (.ireturn, 1) := by decide +kernel
theorem dX3_round_24 : decode cX3_round 24 = .ok (.aload_n 0, 1) := by decide +kernel
theorem dX3_round_25 : decode cX3_round 25 = .ok (.getfield 24, 3) := by decide +kernel
theorem dX3_round_28 : decode cX3_round 28 = .ok (.iconst (-1), 1) := by decide +kernel
theorem dX3_round_29 : decode cX3_round 29 = .ok (.invokestatic 149, 3) := by decide +kernel
theorem dX3_round_32 : decode cX3_round 32 = .ok (.aload_n 0, 1) := by decide +kernel
theorem dX3_round_33 : decode cX3_round 33 = .ok (.getfield 31, 3) := by decide +kernel
theorem dX3_round_36 : decode cX3_round 36 = .ok (.getfield 105, 3) := by decide +kernel
theorem dX3_round_39 : decode cX3_round 39 = .ok (.istore_n 2, 1) := by decide +kernel
theorem dX3_round_40 : decode cX3_round 40 = .ok (.iconst 0, 1) := by decide +kernel
theorem dX3_round_41 : decode cX3_round 41 = .ok (.istore_n 3, 1) := by decide +kernel
theorem dX3_round_42 : decode cX3_round 42 = .ok (.iload_n 3, 1) := by decide +kernel
theorem dX3_round_43 : decode cX3_round 43 = .ok (.sipush 256, 3) := by decide +kernel
theorem dX3_round_46 : decode cX3_round 46 = .ok (.if_icmp .gt 39, 3) := by decide +kernel
theorem dX3_round_49 : decode cX3_round 49 = .ok (.aload_n 0, 1) := by decide +kernel
theorem dX3_round_50 : decode cX3_round 50 = .ok (.getfield 24, 3) := by decide +kernel
theorem dX3_round_53 : decode cX3_round 53 = .ok (.iload_n 2, 1) := by decide +kernel
theorem dX3_round_54 : decode cX3_round 54 = .ok (.invokestatic 83, 3) := by decide +kernel
theorem dX3_round_57 : decode cX3_round 57 = .ok (.iconst (-1), 1) := by decide +kernel
theorem dX3_round_58 : decode cX3_round 58 = .ok (.if_icmp .ne 27, 3) := by decide +kernel
theorem dX3_round_61 : decode cX3_round 61 = .ok (.aload_n 0, 1) := by decide +kernel
theorem dX3_round_62 : decode cX3_round 62 = .ok (.getfield 24, 3) := by decide +kernel
theorem dX3_round_65 : decode cX3_round 65 = .ok (.iload_n 2, 1) := by decide +kernel
theorem dX3_round_66 : decode cX3_round 66 = .ok (.iload_n 3, 1) := by decide +kernel
theorem dX3_round_67 : decode cX3_round 67 = .ok (.invokestatic 155, 3) := by decide +kernel
theorem dX3_round_70 : decode cX3_round 70 = .ok (.aload_n 0, 1) := by decide +kernel
theorem dX3_round_71 : decode cX3_round 71 = .ok (.getfield 31, 3) := by decide +kernel
theorem dX3_round_74 : decode cX3_round 74 = .ok (.iload_n 2, 1) := by decide +kernel
theorem dX3_round_75 : decode cX3_round 75 = .ok (.invokevirtual 146, 3) := by decide +kernel
theorem dX3_round_78 : decode cX3_round 78 = .ok (.istore_n 2, 1) := by decide +kernel
theorem dX3_round_79 : decode cX3_round 79 = .ok (.iinc 3 1, 3) := by decide +kernel
theorem dX3_round_82 : decode cX3_round 82 = .ok (.goto (-40), 3) := by decide +kernel
theorem dX3_round_85 : decode cX3_round 85 = .ok (.aload_n 0, 1) := by decide +kernel
theorem dX3_round_86 : decode cX3_round 86 = .ok (.getfield 24, 3) := by decide +kernel
theorem dX3_round_89 : decode cX3_round 89 = .ok (.iload_n 2, 1) := by decide +kernel
theorem dX3_round_90 : decode cX3_round 90 = .ok (.invokestatic 83, 3) := by decide +kernel
theorem dX3_round_93 : decode cX3_round 93 = .ok (.istore 4, 2) := by decide +kernel
theorem dX3_round_95 : decode cX3_round 95 = .ok (.iload_n 1, 1) := by decide +kernel
theorem dX3_round_96 : decode cX3_round 96 = .ok (.ifCond .ne 8, 3) := by decide +kernel
theorem dX3_round_99 : decode cX3_round 99 = .ok (.iload 4, 2) := by decide +kernel
theorem dX3_round_101 : decode cX3_round 101 = .ok (.goto 7, 3) := by decide +kernel
theorem dX3_round_104 : decode cX3_round 104 = .ok (.iload_n 3, 1) := by decide +kernel
theorem dX3_round_105 : decode cX3_round 105 = .ok (.iload 4, 2) := by decide +kernel
theorem dX3_round_107 : decode cX3_round 107 = .ok (.isub, 1) := by decide +kernel
theorem dX3_round_108 : decode cX3_round 108 = .ok (.ireturn, 1) := by decide +kernel
set_option maxRecDepth 20000 in
theorem ggX3_best_X3_leastBy : GoodIn wsX3_best wsX3_leastBy := goodIn_r _ [5, 6, 7, 8, 9, 10, 11, 12, 13, 14, 15, 16, 17, 18, 19, 20, 21, 22, 23, 24, 25, 26, 27, 28, 29, 30, 31, 32, 33, 34, 35, 36, 37, 38, 39, 4, 40, 41, 42, 43, 44, 45, 46, 47, 48, 49, 50, 51, 52, 53, 54, 55, 56, 57, 58, 59, 60, 61, 62, 63, 64, 65, 66, 67, 68, 69, 70, 71, 72, 73, 74, 75, 76, 77, 78, 79, 80, 81, 82, 83, 84, 85, 86, 87, 88, 89, 90, 91, 92, 93, 94, 95, 96, 97] (by decide +kernel) (by decide +kernel)
set_option maxRecDepth 20000 in
theorem gX3_best_X3_leastBy : GoodIn wsX3_best (wsV RX3 159 RX3 yX3_leastBy wsX3_leastBy) := goodIn_app (goodIn_of _ (by decide +kernel)) ggX3_best_X3_leastBy
theorem dX3_best_0 : decode cX3_best 0 = .ok (.aload_n 0, 1) := by decide +kernel
theorem dX3_best_1 : decode cX3_best 1 = .ok (.iload_n 1, 1) := by decide +kernel
theorem dX3_best_2 : decode cX3_best 2 = .ok (.iconst 0, 1) := by decide +kernel
theorem dX3_best_3 : decode cX3_best 3 = .ok (.invokevirtual 159, 3) := by decide +kernel
theorem dX3_best_6 : decode cX3_best 6 = .ok (.ireturn, 1) := by decide +kernel
set_option maxRecDepth 20000 in
theorem ggX3_calm_X3_leastBy : GoodIn wsX3_calm wsX3_leastBy := goodIn_r _ [5, 6, 7, 8, 9, 10, 11, 12, 13, 14, 15, 16, 17, 18, 19, 20, 21, 22, 23, 24, 25, 26, 27, 28, 29, 30, 31, 32, 33, 34, 35, 36, 37, 38, 39, 4, 40, 41, 42, 43, 44, 45, 46, 47, 48, 49, 50, 51, 52, 53, 54, 55, 56, 57, 58, 59, 60, 61, 62, 63, 64, 65, 66, 67, 68, 69, 70, 71, 72, 73, 74, 75, 76, 77, 78, 79, 80, 81, 82, 83, 84, 85, 86, 87, 88, 89, 90, 91, 92, 93, 94, 95, 96, 97] (by decide +kernel) (by decide +kernel)
set_option maxRecDepth 20000 in
theorem gX3_calm_X3_leastBy : GoodIn wsX3_calm (wsV RX3 159 RX3 yX3_leastBy wsX3_leastBy) := goodIn_app (goodIn_of _ (by decide +kernel)) ggX3_calm_X3_leastBy
theorem dX3_calm_0 : decode cX3_calm 0 = .ok (.aload_n 0, 1) := by decide +kernel
theorem dX3_calm_1 : decode cX3_calm 1 = .ok (.iload_n 1, 1) := by decide +kernel
theorem dX3_calm_2 : decode cX3_calm 2 = .ok (.iconst 1, 1) := by decide +kernel
theorem dX3_calm_3 : decode cX3_calm 3 = .ok (.invokevirtual 159, 3) := by decide +kernel
theorem dX3_calm_6 : decode cX3_calm 6 = .ok (.ireturn, 1) := by decide +kernel
set_option maxRecDepth 20000 in
theorem ggX3_bribe_X2_hasWork : GoodIn wsX3_bribe wsX2_hasWork := goodIn_r _ [6, 7, 86, 87, 88, 89, 90, 91, 92, 93, 94, 95, 96, 97, 98, 99, 100, 101, 102, 103] (by decide +kernel) (by decide +kernel)
set_option maxRecDepth 20000 in
theorem gX3_bribe_X2_hasWork : GoodIn wsX3_bribe (wsV RX3 96 RX2 yX2_hasWork wsX2_hasWork) := goodIn_app (goodIn_of _ (by decide +kernel)) ggX3_bribe_X2_hasWork
set_option maxRecDepth 20000 in
theorem ggX3_bribe_X3_isUpTo : GoodIn wsX3_bribe wsX3_isUpTo := goodIn_r _ [11] (by decide +kernel) (by decide +kernel)
set_option maxRecDepth 20000 in
theorem gX3_bribe_X3_isUpTo : GoodIn wsX3_bribe (va_wsS RX3 50 yX3_isUpTo wsX3_isUpTo) := goodIn_app (goodIn_of _ (by decide +kernel)) ggX3_bribe_X3_isUpTo
set_option maxRecDepth 20000 in
theorem ggX3_bribe_X2_fewestBribed : GoodIn wsX3_bribe wsX2_fewestBribed := goodIn_r _ [15, 16, 17, 18, 19, 20, 5, 21, 22, 23, 24, 25, 26, 27, 28, 29, 30, 31, 7, 32, 33, 34, 35, 36, 37, 38, 39, 40, 41, 42, 43, 10, 44, 45, 46, 47, 48, 49, 50, 51, 52, 53, 54, 55, 56, 57, 58, 59, 60, 61, 62, 63, 64, 65, 66, 67, 68, 69, 70, 71, 72, 73, 74, 75, 76, 77, 78, 86, 87, 88, 89, 90, 91, 92, 93, 94, 95, 96, 97, 98, 99, 100, 101, 102, 103] (by decide +kernel) (by decide +kernel)
set_option maxRecDepth 20000 in
theorem gX3_bribe_X2_fewestBribed : GoodIn wsX3_bribe (wsV RX3 163 RX2 yX2_fewestBribed wsX2_fewestBribed) := goodIn_app (goodIn_of _ (by decide +kernel)) ggX3_bribe_X2_fewestBribed
theorem dX3_bribe_0 : decode cX3_bribe 0 = .ok (.aload_n 0, 1) := by decide +kernel
theorem dX3_bribe_1 : decode cX3_bribe 1 = .ok (.getfield 31, 3) := by decide +kernel
theorem dX3_bribe_4 : decode cX3_bribe 4 = .ok (.iload_n 1, 1) := by decide +kernel
theorem dX3_bribe_5 : decode cX3_bribe 5 = .ok (.invokevirtual 96, 3) := by decide +kernel
theorem dX3_bribe_8 : decode cX3_bribe 8 = .ok (.ifCond .ne 5, 3) := by decide +kernel
theorem dX3_bribe_11 : decode cX3_bribe 11 = .ok (.iconst (-1), 1) := by decide +kernel
theorem dX3_bribe_12 : decode cX3_bribe 12 = .ok (.ireturn, 1) := by decide +kernel
theorem dX3_bribe_13 : decode cX3_bribe 13 = .ok (.iload_n 2, 1) := by decide +kernel
theorem dX3_bribe_14 : decode cX3_bribe 14 = .ok (.iconst 3, 1) := by decide +kernel
theorem dX3_bribe_15 : decode cX3_bribe 15 = .ok (.invokestatic 50, 3) := by decide +kernel
theorem dX3_bribe_18 : decode cX3_bribe 18 = .ok (.ifCond .eq 15, 3) := by decide +kernel
theorem dX3_bribe_21 : decode cX3_bribe 21 = .ok (.aload_n 0, 1) := by decide +kernel
theorem dX3_bribe_22 : decode cX3_bribe 22 = .ok (.getfield 31, 3) := by decide +kernel
theorem dX3_bribe_25 : decode cX3_bribe 25 = .ok (.iload_n 1, 1) := by decide +kernel
theorem dX3_bribe_26 : decode cX3_bribe 26 = .ok (.iload_n 2, 1) := by decide +kernel
theorem dX3_bribe_27 : decode cX3_bribe 27 = .ok (.invokevirtual 163, 3) := by decide +kernel
theorem dX3_bribe_30 : decode cX3_bribe 30 = .ok (.goto 5, 3) := by decide +kernel
theorem dX3_bribe_33 : decode cX3_bribe 33 = .ok (.bipush (-2), 2) := by decide +kernel
theorem dX3_bribe_35 : decode cX3_bribe 35 = .ok (.ireturn, 1) := by decide +kernel
set_option maxRecDepth 20000 in
theorem ggX3_reading_X2_hasCell : GoodIn wsX3_reading wsX2_hasCell := goodIn_r _ [9, 10, 25, 26, 27, 28, 29, 30, 31, 32, 33, 34, 35, 36, 37, 38, 39, 40, 41, 42] (by decide +kernel) (by decide +kernel)
set_option maxRecDepth 20000 in
theorem gX3_reading_X2_hasCell : GoodIn wsX3_reading (wsV RX3 122 RX2 yX2_hasCell wsX2_hasCell) := goodIn_app (goodIn_of _ (by decide +kernel)) ggX3_reading_X2_hasCell
set_option maxRecDepth 20000 in
theorem ggX3_reading_X3_isUpTo : GoodIn wsX3_reading wsX3_isUpTo := goodIn_r _ [14] (by decide +kernel) (by decide +kernel)
set_option maxRecDepth 20000 in
theorem gX3_reading_X3_isUpTo : GoodIn wsX3_reading (va_wsS RX3 50 yX3_isUpTo wsX3_isUpTo) := goodIn_app (goodIn_of _ (by decide +kernel)) ggX3_reading_X3_isUpTo
set_option maxRecDepth 20000 in
theorem ggX3_reading_X3_write : GoodIn wsX3_reading wsX3_write := goodIn_r _ [17] (by decide +kernel) (by decide +kernel)
set_option maxRecDepth 20000 in
theorem gX3_reading_X3_write : GoodIn wsX3_reading (va_wsS RX3 155 yX3_write wsX3_write) := goodIn_app (goodIn_of _ (by decide +kernel)) ggX3_reading_X3_write
theorem dX3_reading_0 : decode cX3_reading 0 = .ok (.aload_n 0, 1) := by decide +kernel
theorem dX3_reading_1 : decode cX3_reading 1 = .ok (.getfield 31, 3) := by decide +kernel
theorem dX3_reading_4 : decode cX3_reading 4 = .ok (.iload_n 1, 1) := by decide +kernel
theorem dX3_reading_5 : decode cX3_reading 5 = .ok (.invokevirtual 122, 3) := by decide +kernel
theorem dX3_reading_8 : decode cX3_reading 8 = .ok (.ifCond .ne 5, 3) := by decide +kernel
theorem dX3_reading_11 : decode cX3_reading 11 = .ok (.iconst (-1), 1) := by decide +kernel
theorem dX3_reading_12 : decode cX3_reading 12 = .ok (.ireturn, 1) := by decide +kernel
theorem dX3_reading_13 : decode cX3_reading 13 = .ok (.iload_n 2, 1) := by decide +kernel
theorem dX3_reading_14 : decode cX3_reading 14 = .ok (.bipush 99, 2) := by decide +kernel
theorem dX3_reading_16 : decode cX3_reading 16 = .ok (.invokestatic 50, 3) := by decide +kernel
theorem dX3_reading_19 : decode cX3_reading 19 = .ok (.ifCond .ne 6, 3) := by decide +kernel
theorem dX3_reading_22 : decode cX3_reading 22 = .ok (.bipush (-2), 2) := by decide +kernel
theorem dX3_reading_24 : decode cX3_reading 24 = .ok (.ireturn, 1) := by decide +kernel
theorem dX3_reading_25 : decode cX3_reading 25 = .ok (.aload_n 0, 1) := by decide +kernel
theorem dX3_reading_26 : decode cX3_reading 26 = .ok (.getfield 31, 3) := by decide +kernel
theorem dX3_reading_29 : decode cX3_reading 29 = .ok (.getfield 166, 3) := by decide +kernel
theorem dX3_reading_32 : decode cX3_reading 32 = .ok (.bipush 8, 2) := by decide +kernel
theorem dX3_reading_34 : decode cX3_reading 34 = .ok (.if_icmp .lt 6, 3) := by decide +kernel
theorem dX3_reading_37 : decode cX3_reading 37 = .ok (.bipush (-4), 2) := by decide +kernel
theorem dX3_reading_39 : decode cX3_reading 39 = .ok (.ireturn, 1) := by decide +kernel
theorem dX3_reading_40 : decode cX3_reading 40 = .ok (.aload_n 0, 1) := by decide +kernel
theorem dX3_reading_41 : decode cX3_reading 41 = .ok (.getfield 31, 3) := by decide +kernel
theorem dX3_reading_44 : decode cX3_reading 44 = .ok (.getfield 166, 3) := by decide +kernel
theorem dX3_reading_47 : decode cX3_reading 47 = .ok (.istore_n 3, 1) := by decide +kernel
theorem dX3_reading_48 : decode cX3_reading 48 = .ok (.aload_n 0, 1) := by decide +kernel
theorem dX3_reading_49 : decode cX3_reading 49 = .ok (.getfield 31, 3) := by decide +kernel
theorem dX3_reading_52 : decode cX3_reading 52 = .ok (.getfield 169, 3) := by decide +kernel
theorem dX3_reading_55 : decode cX3_reading 55 = .ok (.iload_n 3, 1) := by decide +kernel
theorem dX3_reading_56 : decode cX3_reading 56 = .ok (.iload_n 1, 1) := by decide +kernel
theorem dX3_reading_57 : decode cX3_reading 57 = .ok (.invokestatic 155, 3) := by decide +kernel
theorem dX3_reading_60 : decode cX3_reading 60 = .ok (.aload_n 0, 1) := by decide +kernel
theorem dX3_reading_61 : decode cX3_reading 61 = .ok (.getfield 31, 3) := by decide +kernel
theorem dX3_reading_64 : decode cX3_reading 64 = .ok (.getfield 172, 3) := by decide +kernel
theorem dX3_reading_67 : decode cX3_reading 67 = .ok (.iload_n 3, 1) := by decide +kernel
theorem dX3_reading_68 : decode cX3_reading 68 = .ok (.iload_n 2, 1) := by decide +kernel
theorem dX3_reading_69 : decode cX3_reading 69 = .ok (.invokestatic 155, 3) := by decide +kernel
theorem dX3_reading_72 : decode cX3_reading 72 = .ok (.aload_n 0, 1) := by decide +kernel
theorem dX3_reading_73 : decode cX3_reading 73 = .ok (.getfield 31, 3) := by decide +kernel
theorem dX3_reading_76 : decode cX3_reading 76 = .ok (.iload_n 3, 1) := by decide +kernel
theorem dX3_reading_77 : decode cX3_reading 77 = .ok (.iconst 1, 1) := by decide +kernel
theorem dX3_reading_78 : decode cX3_reading 78 = .ok (.iadd, 1) := by decide +kernel
theorem dX3_reading_79 : decode cX3_reading 79 = .ok (.putfield 166, 3) := by decide +kernel
theorem dX3_reading_82 : decode cX3_reading 82 = .ok (.iload_n 3, 1) := by decide +kernel
theorem dX3_reading_83 : decode cX3_reading 83 = .ok (.ireturn, 1) := by decide +kernel
set_option maxRecDepth 20000 in
theorem ggX3_back_X3_isUpTo : GoodIn wsX3_back wsX3_isUpTo := goodIn_r _ [6] (by decide +kernel) (by decide +kernel)
set_option maxRecDepth 20000 in
theorem gX3_back_X3_isUpTo : GoodIn wsX3_back (va_wsS RX3 50 yX3_isUpTo wsX3_isUpTo) := goodIn_app (goodIn_of _ (by decide +kernel)) ggX3_back_X3_isUpTo
theorem dX3_back_0 : decode cX3_back 0 = .ok (.iload_n 1, 1) := by decide +kernel
theorem dX3_back_1 : decode cX3_back 1 = .ok (.aload_n 0, 1) := by decide +kernel
theorem dX3_back_2 : decode cX3_back 2 = .ok (.getfield 31, 3) := by decide +kernel
theorem dX3_back_5 : decode cX3_back 5 = .ok (.getfield 166, 3) := by decide +kernel
theorem dX3_back_8 : decode cX3_back 8 = .ok (.invokestatic 50, 3) := by decide +kernel
theorem dX3_back_11 : decode cX3_back 11 = .ok (.ifCond .ne 6, 3) := by decide +kernel
theorem dX3_back_14 : decode cX3_back 14 = .ok (.bipush (-2), 2) := by decide +kernel
theorem dX3_back_16 : decode cX3_back 16 = .ok (.ireturn, 1) := by decide +kernel
theorem dX3_back_17 : decode cX3_back 17 = .ok (.aload_n 0, 1) := by decide +kernel
theorem dX3_back_18 : decode cX3_back 18 = .ok (.getfield 31, 3) := by decide +kernel
theorem dX3_back_21 : decode cX3_back 21 = .ok (.dup, 1) := by decide +kernel
theorem dX3_back_22 : decode cX3_back 22 = .ok (.getfield 166, 3) := by decide +kernel
theorem dX3_back_25 : decode cX3_back 25 = .ok (.iload_n 1, 1) := by decide +kernel
theorem dX3_back_26 : decode cX3_back 26 = .ok (.isub, 1) := by decide +kernel
theorem dX3_back_27 : decode cX3_back 27 = .ok (.putfield 166, 3) := by decide +kernel
theorem dX3_back_30 : decode cX3_back 30 = .ok (.aload_n 0, 1) := by decide +kernel
theorem dX3_back_31 : decode cX3_back 31 = .ok (.getfield 31, 3) := by decide +kernel
theorem dX3_back_34 : decode cX3_back 34 = .ok (.getfield 166, 3) := by decide +kernel
theorem dX3_back_37 : decode cX3_back 37 = .ok (.ireturn, 1) := by decide +kernel
set_option maxRecDepth 20000 in
theorem ggX3_settings_X2_settingsInAll : GoodIn wsX3_settings wsX2_settingsInAll := goodIn_r _ [7, 8, 56, 57, 58, 59, 60, 61, 62, 63, 64, 65, 66, 67, 68, 69, 70, 71, 72, 73] (by decide +kernel) (by decide +kernel)
set_option maxRecDepth 20000 in
theorem gX3_settings_X2_settingsInAll : GoodIn wsX3_settings (wsV RX3 175 RX2 yX2_settingsInAll wsX2_settingsInAll) := goodIn_app (goodIn_of _ (by decide +kernel)) ggX3_settings_X2_settingsInAll
set_option maxRecDepth 20000 in
theorem ggX3_settings_X2_agreesBy : GoodIn wsX3_settings wsX2_agreesBy := goodIn_r _ [12, 13, 14, 15, 16, 17, 18, 19, 20, 21, 6, 22, 8, 23, 24, 25, 26, 27, 28, 29, 30, 31, 32, 33, 34, 35, 36, 37, 38, 39, 56, 57, 58, 59, 60, 61, 62, 63, 64, 65, 66, 67, 68, 69, 70, 71, 72, 73] (by decide +kernel) (by decide +kernel)
set_option maxRecDepth 20000 in
theorem gX3_settings_X2_agreesBy : GoodIn wsX3_settings (wsV RX3 179 RX2 yX2_agreesBy wsX2_agreesBy) := goodIn_app (goodIn_of _ (by decide +kernel)) ggX3_settings_X2_agreesBy
set_option maxRecDepth 20000 in
theorem ggX3_settings_X3_vaneOrNone : GoodIn wsX3_settings wsX3_vaneOrNone := goodIn_r _ [43, 1, 44, 45, 46, 6, 47, 8, 48, 34, 35, 36, 49, 50, 51, 52, 53, 54, 55, 56, 57, 58, 59, 60, 61, 62, 63, 64, 65, 66, 67, 68, 69, 70, 71, 72, 73] (by decide +kernel) (by decide +kernel)
set_option maxRecDepth 20000 in
theorem gX3_settings_X3_vaneOrNone : GoodIn wsX3_settings (wsV RX3 182 RX3 yX3_vaneOrNone wsX3_vaneOrNone) := goodIn_app (goodIn_of _ (by decide +kernel)) ggX3_settings_X3_vaneOrNone
theorem dX3_settings_0 : decode cX3_settings 0 = .ok (.iload_n 1, 1) := by decide +kernel
theorem dX3_settings_1 : decode cX3_settings 1 = .ok (.iconst (-1), 1) := by decide +kernel
theorem dX3_settings_2 : decode cX3_settings 2 = .ok (.if_icmp .ge 5, 3) := by decide +kernel
theorem dX3_settings_5 : decode cX3_settings 5 = .ok (.iconst (-1), 1) := by decide +kernel
theorem dX3_settings_6 : decode cX3_settings 6 = .ok (.ireturn, 1) := by decide +kernel
theorem dX3_settings_7 : decode cX3_settings 7 = .ok (.aload_n 0, 1) := by decide +kernel
theorem dX3_settings_8 : decode cX3_settings 8 = .ok (.getfield 31, 3) := by decide +kernel
theorem dX3_settings_11 : decode cX3_settings 11 = .ok (.getfield 112, 3) := by decide +kernel
theorem dX3_settings_14 : decode cX3_settings 14 = .ok (.ifCond .ne 6, 3) := by decide +kernel
theorem dX3_settings_17 : decode cX3_settings 17 = .ok (.bipush (-3), 2) := by decide +kernel
theorem dX3_settings_19 : decode cX3_settings 19 = .ok (.ireturn, 1) := by decide +kernel
theorem dX3_settings_20 : decode cX3_settings 20 = .ok (.bipush (-9), 2) := by decide +kernel
theorem dX3_settings_22 : decode cX3_settings 22 = .ok (.istore_n 2, 1) := by decide +kernel
theorem dX3_settings_23 : decode cX3_settings 23 = .ok (.iconst 0, 1) := by decide +kernel
theorem dX3_settings_24 : decode cX3_settings 24 = .ok (.istore_n 3, 1) := by decide +kernel
theorem dX3_settings_25 : decode cX3_settings 25 = .ok (.iconst 0, 1) := by decide +kernel
theorem dX3_settings_26 : decode cX3_settings 26 = .ok (.istore 4, 2) := by decide +kernel
theorem dX3_settings_28 : decode cX3_settings 28 = .ok (.iload 4, 2) := by decide +kernel
theorem dX3_settings_30 : decode cX3_settings 30 = .ok (.aload_n 0, 1) := by decide +kernel
theorem dX3_settings_31 : decode cX3_settings 31 = .ok (.getfield 31, 3) := by decide +kernel
theorem dX3_settings_34 : decode cX3_settings 34 = .ok (.invokevirtual 175, 3) := by decide +kernel
theorem dX3_settings_37 : decode cX3_settings 37 = .ok (.if_icmp .ge 35, 3) := by decide +kernel
theorem dX3_settings_40 : decode cX3_settings 40 = .ok (.aload_n 0, 1) := by decide +kernel
theorem dX3_settings_41 : decode cX3_settings 41 = .ok (.getfield 31, 3) := by decide +kernel
theorem dX3_settings_44 : decode cX3_settings 44 = .ok (.iload 4, 2) := by decide +kernel
theorem dX3_settings_46 : decode cX3_settings 46 = .ok (.invokevirtual 179, 3) := by decide +kernel
theorem dX3_settings_49 : decode cX3_settings 49 = .ok (.ifCond .eq 17, 3) := by decide +kernel
theorem dX3_settings_52 : decode cX3_settings 52 = .ok (.iload_n 3, 1) := by decide +kernel
theorem dX3_settings_53 : decode cX3_settings 53 = .ok (.ifCond .ne 8, 3) := by decide +kernel
theorem dX3_settings_56 : decode cX3_settings 56 = .ok (.iload 4, 2) := by decide +kernel
theorem dX3_settings_58 : decode cX3_settings 58 = .ok (.goto 4, 3) := by decide +kernel
theorem dX3_settings_61 : decode cX3_settings 61 = .ok (.iload_n 2, 1) := by decide +kernel
theorem dX3_settings_62 : decode cX3_settings 62 = .ok (.istore_n 2, 1) := by decide +kernel
theorem dX3_settings_63 : decode cX3_settings 63 = .ok (.iinc 3 1, 3) := by decide +kernel
theorem dX3_settings_66 : decode cX3_settings 66 = .ok (.iinc 4 1, 3) := by decide +kernel
theorem dX3_settings_69 : decode cX3_settings 69 = .ok (.goto (-41), 3) := by decide +kernel
theorem dX3_settings_72 : decode cX3_settings 72 = .ok (.iload_n 1, 1) := by decide +kernel
theorem dX3_settings_73 : decode cX3_settings 73 = .ok (.iconst (-1), 1) := by decide +kernel
theorem dX3_settings_74 : decode cX3_settings 74 = .ok (.if_icmp .ne 5, 3) := by decide +kernel
theorem dX3_settings_77 : decode cX3_settings 77 = .ok (.iload_n 3, 1) := by decide +kernel
theorem dX3_settings_78 : decode cX3_settings 78 = .ok (.ireturn, 1) := by decide +kernel
theorem dX3_settings_79 : decode cX3_settings 79 = .ok (.iload_n 3, 1) := by decide +kernel
theorem dX3_settings_80 : decode cX3_settings 80 = .ok (.ifCond .ne 8, 3) := by decide +kernel
theorem dX3_settings_83 : decode cX3_settings 83 = .ok (.bipush (-9), 2) := by decide +kernel
theorem dX3_settings_85 : decode cX3_settings 85 = .ok (.goto 9, 3) := by decide +kernel
theorem dX3_settings_88 : decode cX3_settings 88 = .ok (.aload_n 0, 1) := by decide +kernel
theorem dX3_settings_89 : decode cX3_settings 89 = .ok (.iload_n 2, 1) := by decide +kernel
theorem dX3_settings_90 : decode cX3_settings 90 = .ok (.iload_n 1, 1) := by decide +kernel
theorem dX3_settings_91 : decode cX3_settings 91 = .ok (.invokevirtual 182, 3) := by decide +kernel
theorem dX3_settings_94 : decode cX3_settings 94 = .ok (.ireturn, 1) := by decide +kernel
set_option maxRecDepth 20000 in
theorem ggX3_laws_X2_agreesBy : GoodIn wsX3_laws wsX2_agreesBy := goodIn_r _ [9, 10, 11, 12, 13, 14, 15, 16, 17, 18, 8, 19, 20, 21, 22, 23, 24, 25, 26, 27, 28, 29, 30, 31, 32, 33, 34, 35, 36, 37, 45, 46, 47, 48, 49, 50, 51, 52, 53, 54, 55, 56, 57, 58, 59, 60, 61, 62] (by decide +kernel) (by decide +kernel)
set_option maxRecDepth 20000 in
theorem gX3_laws_X2_agreesBy : GoodIn wsX3_laws (wsV RX3 179 RX2 yX2_agreesBy wsX2_agreesBy) := goodIn_app (goodIn_of _ (by decide +kernel)) ggX3_laws_X2_agreesBy
theorem dX3_laws_0 : decode cX3_laws 0 = .ok (.aload_n 0, 1) := by decide +kernel
theorem dX3_laws_1 : decode cX3_laws 1 = .ok (.getfield 31, 3) := by decide +kernel
theorem dX3_laws_4 : decode cX3_laws 4 = .ok (.getfield 112, 3) := by decide +kernel
theorem dX3_laws_7 : decode cX3_laws 7 = .ok (.ifCond .ne 6, 3) := by decide +kernel
theorem dX3_laws_10 : decode cX3_laws 10 = .ok (.bipush (-3), 2) := by decide +kernel
theorem dX3_laws_12 : decode cX3_laws 12 = .ok (.ireturn, 1) := by decide +kernel
theorem dX3_laws_13 : decode cX3_laws 13 = .ok (.aload_n 0, 1) := by decide +kernel
theorem dX3_laws_14 : decode cX3_laws 14 = .ok (.getfield 31, 3) := by decide +kernel
theorem dX3_laws_17 : decode cX3_laws 17 = .ok (.getfield 116, 3) := by decide +kernel
theorem dX3_laws_20 : decode cX3_laws 20 = .ok (.istore_n 1, 1) := by decide +kernel
theorem dX3_laws_21 : decode cX3_laws 21 = .ok (.iconst 0, 1) := by decide +kernel
theorem dX3_laws_22 : decode cX3_laws 22 = .ok (.istore_n 2, 1) := by decide +kernel
theorem dX3_laws_23 : decode cX3_laws 23 = .ok (.iconst 0, 1) := by decide +kernel
theorem dX3_laws_24 : decode cX3_laws 24 = .ok (.istore_n 3, 1) := by decide +kernel
theorem dX3_laws_25 : decode cX3_laws 25 = .ok (.iload_n 3, 1) := by decide +kernel
theorem dX3_laws_26 : decode cX3_laws 26 = .ok (.iconst 3, 1) := by decide +kernel
theorem dX3_laws_27 : decode cX3_laws 27 = .ok (.if_icmp .ge 40, 3) := by decide +kernel
theorem dX3_laws_30 : decode cX3_laws 30 = .ok (.aload_n 0, 1) := by decide +kernel
theorem dX3_laws_31 : decode cX3_laws 31 = .ok (.getfield 31, 3) := by decide +kernel
theorem dX3_laws_34 : decode cX3_laws 34 = .ok (.iload_n 3, 1) := by decide +kernel
theorem dX3_laws_35 : decode cX3_laws 35 = .ok (.putfield 116, 3) := by decide +kernel
theorem dX3_laws_38 : decode cX3_laws 38 = .ok (.aload_n 0, 1) := by decide +kernel
theorem dX3_laws_39 : decode cX3_laws 39 = .ok (.getfield 31, 3) := by decide +kernel
theorem dX3_laws_42 : decode cX3_laws 42 = .ok (.aload_n 0, 1) := by decide +kernel
theorem dX3_laws_43 : decode cX3_laws 43 = .ok (.getfield 31, 3) := by decide +kernel
theorem dX3_laws_46 : decode cX3_laws 46 = .ok (.getfield 105, 3) := by decide +kernel
theorem dX3_laws_49 : decode cX3_laws 49 = .ok (.invokevirtual 179, 3) := by decide +kernel
theorem dX3_laws_52 : decode cX3_laws 52 = .ok (.ifCond .eq 9, 3) := by decide +kernel
theorem dX3_laws_55 : decode cX3_laws 55 = .ok (.iload_n 2, 1) := by decide +kernel
theorem dX3_laws_56 : decode cX3_laws 56 = .ok (.iconst 1, 1) := by decide +kernel
theorem dX3_laws_57 : decode cX3_laws 57 = .ok (.iload_n 3, 1) := by decide +kernel
theorem dX3_laws_58 : decode cX3_laws 58 = .ok (.ishl, 1) := by decide +kernel
theorem dX3_laws_59 : decode cX3_laws 59 = .ok (.ior, 1) := by decide +kernel
theorem dX3_laws_60 : decode cX3_laws 60 = .ok (.istore_n 2, 1) := by decide +kernel
theorem dX3_laws_61 : decode cX3_laws 61 = .ok (.iinc 3 1, 3) := by decide +kernel
theorem dX3_laws_64 : decode cX3_laws 64 = .ok (.goto (-39), 3) := by decide +kernel
theorem dX3_laws_67 : decode cX3_laws 67 = .ok (.aload_n 0, 1) := by decide +kernel
theorem dX3_laws_68 : decode cX3_laws 68 = .ok (.getfield 31, 3) := by decide +kernel
theorem dX3_laws_71 : decode cX3_laws 71 = .ok (.iload_n 1, 1) := by decide +kernel
theorem dX3_laws_72 : decode cX3_laws 72 = .ok (.putfield 116, 3) := by decide +kernel
theorem dX3_laws_75 : decode cX3_laws 75 = .ok (.iload_n 2, 1) := by decide +kernel
theorem dX3_laws_76 : decode cX3_laws 76 = .ok (.ireturn, 1) := by decide +kernel
set_option maxRecDepth 20000 in
theorem ggX3_powers_X2_hasWork : GoodIn wsX3_powers wsX2_hasWork := goodIn_r _ [8, 9, 52, 53, 54, 55, 56, 57, 58, 59, 60, 61, 62, 63, 64, 65, 66, 67, 68, 69] (by decide +kernel) (by decide +kernel)
set_option maxRecDepth 20000 in
theorem gX3_powers_X2_hasWork : GoodIn wsX3_powers (wsV RX3 96 RX2 yX2_hasWork wsX2_hasWork) := goodIn_app (goodIn_of _ (by decide +kernel)) ggX3_powers_X2_hasWork
set_option maxRecDepth 20000 in
theorem ggX3_powers_X3_read : GoodIn wsX3_powers wsX3_read := goodIn_r _ [13] (by decide +kernel) (by decide +kernel)
set_option maxRecDepth 20000 in
theorem gX3_powers_X3_read : GoodIn wsX3_powers (va_wsS RX3 83 yX3_read wsX3_read) := goodIn_app (goodIn_of _ (by decide +kernel)) ggX3_powers_X3_read
set_option maxRecDepth 20000 in
theorem ggX3_powers_X3_write : GoodIn wsX3_powers wsX3_write := goodIn_r _ [16] (by decide +kernel) (by decide +kernel)
set_option maxRecDepth 20000 in
theorem gX3_powers_X3_write : GoodIn wsX3_powers (va_wsS RX3 155 yX3_write wsX3_write) := goodIn_app (goodIn_of _ (by decide +kernel)) ggX3_powers_X3_write
set_option maxRecDepth 20000 in
theorem ggX3_powers_X2_agreesBy : GoodIn wsX3_powers wsX2_agreesBy := goodIn_r _ [20, 21, 22, 23, 11, 12, 13, 24, 25, 26, 7, 27, 9, 28, 29, 30, 31, 32, 33, 34, 35, 36, 37, 38, 39, 40, 41, 42, 43, 44, 52, 53, 54, 55, 56, 57, 58, 59, 60, 61, 62, 63, 64, 65, 66, 67, 68, 69] (by decide +kernel) (by decide +kernel)
set_option maxRecDepth 20000 in
theorem gX3_powers_X2_agreesBy : GoodIn wsX3_powers (wsV RX3 179 RX2 yX2_agreesBy wsX2_agreesBy) := goodIn_app (goodIn_of _ (by decide +kernel)) ggX3_powers_X2_agreesBy
theorem dX3_powers_0 : decode cX3_powers 0 = .ok (.aload_n 0, 1) := by decide +kernel
theorem dX3_powers_1 : decode cX3_powers 1 = .ok (.getfield 31, 3) := by decide +kernel
theorem dX3_powers_4 : decode cX3_powers 4 = .ok (.iload_n 1, 1) := by decide +kernel
theorem dX3_powers_5 : decode cX3_powers 5 = .ok (.invokevirtual 96, 3) := by decide +kernel
theorem dX3_powers_8 : decode cX3_powers 8 = .ok (.ifCond .ne 5, 3) := by decide +kernel
theorem dX3_powers_11 : decode cX3_powers 11 = .ok (.iconst (-1), 1) := by decide +kernel
theorem dX3_powers_12 : decode cX3_powers 12 = .ok (.ireturn, 1) := by decide +kernel
theorem dX3_powers_13 : decode cX3_powers 13 = .ok (.aload_n 0, 1) := by decide +kernel
theorem dX3_powers_14 : decode cX3_powers 14 = .ok (.getfield 31, 3) := by decide +kernel
theorem dX3_powers_17 : decode cX3_powers 17 = .ok (.getfield 102, 3) := by decide +kernel
theorem dX3_powers_20 : decode cX3_powers 20 = .ok (.iload_n 1, 1) := by decide +kernel
theorem dX3_powers_21 : decode cX3_powers 21 = .ok (.invokestatic 83, 3) := by decide +kernel
theorem dX3_powers_24 : decode cX3_powers 24 = .ok (.istore_n 2, 1) := by decide +kernel
theorem dX3_powers_25 : decode cX3_powers 25 = .ok (.iconst 0, 1) := by decide +kernel
theorem dX3_powers_26 : decode cX3_powers 26 = .ok (.istore_n 3, 1) := by decide +kernel
theorem dX3_powers_27 : decode cX3_powers 27 = .ok (.iconst 1, 1) := by decide +kernel
theorem dX3_powers_28 : decode cX3_powers 28 = .ok (.istore 4, 2) := by decide +kernel
theorem dX3_powers_30 : decode cX3_powers 30 = .ok (.iload 4, 2) := by decide +kernel
theorem dX3_powers_32 : decode cX3_powers 32 = .ok (.bipush 9, 2) := by decide +kernel
theorem dX3_powers_34 : decode cX3_powers 34 = .ok (.if_icmp .gt 46, 3) := by decide +kernel
theorem dX3_powers_37 : decode cX3_powers 37 = .ok (.aload_n 0, 1) := by decide +kernel
theorem dX3_powers_38 : decode cX3_powers 38 = .ok (.getfield 31, 3) := by decide +kernel
theorem dX3_powers_41 : decode cX3_powers 41 = .ok (.getfield 102, 3) := by decide +kernel
theorem dX3_powers_44 : decode cX3_powers 44 = .ok (.iload_n 1, 1) := by decide +kernel
theorem dX3_powers_45 : decode cX3_powers 45 = .ok (.iload 4, 2) := by decide +kernel
theorem dX3_powers_47 : decode cX3_powers 47 = .ok (.invokestatic 155, 3) := by decide +kernel
theorem dX3_powers_50 : decode cX3_powers 50 = .ok (.aload_n 0, 1) := by decide +kernel
theorem dX3_powers_51 : decode cX3_powers 51 = .ok (.getfield 31, 3) := by decide +kernel
theorem dX3_powers_54 : decode cX3_powers 54 = .ok (.aload_n 0, 1) := by decide +kernel
theorem dX3_powers_55 : decode cX3_powers 55 = .ok (.getfield 31, 3) := by decide +kernel
theorem dX3_powers_58 : decode cX3_powers 58 = .ok (.getfield 105, 3) := by decide +kernel
theorem dX3_powers_61 : decode cX3_powers 61 = .ok (.invokevirtual 179, 3) := by decide +kernel
theorem dX3_powers_64 : decode cX3_powers 64 = .ok (.ifCond .eq 10, 3) := by decide +kernel
theorem dX3_powers_67 : decode cX3_powers 67 = .ok (.iload_n 3, 1) := by decide +kernel
theorem dX3_powers_68 : decode cX3_powers 68 = .ok (.iconst 1, 1) := by decide +kernel
theorem dX3_powers_69 : decode cX3_powers 69 = .ok (.iload 4, 2) := by decide +kernel
theorem dX3_powers_71 : decode cX3_powers 71 = .ok (.ishl, 1) := by decide +kernel
theorem dX3_powers_72 : decode cX3_powers 72 = .ok (.ior, 1) := by decide +kernel
theorem dX3_powers_73 : decode cX3_powers 73 = .ok (.istore_n 3, 1) := by decide +kernel
theorem dX3_powers_74 : decode cX3_powers 74 = .ok (.iinc 4 1, 3) := by decide +kernel
theorem dX3_powers_77 : decode cX3_powers 77 = .ok (.goto (-47), 3) := by decide +kernel
theorem dX3_powers_80 : decode cX3_powers 80 = .ok (.aload_n 0, 1) := by decide +kernel
theorem dX3_powers_81 : decode cX3_powers 81 = .ok (.getfield 31, 3) := by decide +kernel
theorem dX3_powers_84 : decode cX3_powers 84 = .ok (.getfield 102, 3) := by decide +kernel
theorem dX3_powers_87 : decode cX3_powers 87 = .ok (.iload_n 1, 1) := by decide +kernel
theorem dX3_powers_88 : decode cX3_powers 88 = .ok (.iload_n 2, 1) := by decide +kernel
theorem dX3_powers_89 : decode cX3_powers 89 = .ok (.invokestatic 155, 3) := by decide +kernel
theorem dX3_powers_92 : decode cX3_powers 92 = .ok (.iload_n 3, 1) := by decide +kernel
theorem dX3_powers_93 : decode cX3_powers 93 = .ok (.ireturn, 1) := by decide +kernel
set_option maxRecDepth 20000 in
theorem ggX3_odds_X2_hasCell : GoodIn wsX3_odds wsX2_hasCell := goodIn_r _ [7, 8, 48, 49, 50, 51, 52, 53, 54, 55, 56, 57, 58, 59, 60, 61, 62, 63, 64, 65] (by decide +kernel) (by decide +kernel)
set_option maxRecDepth 20000 in
theorem gX3_odds_X2_hasCell : GoodIn wsX3_odds (wsV RX3 122 RX2 yX2_hasCell wsX2_hasCell) := goodIn_app (goodIn_of _ (by decide +kernel)) ggX3_odds_X2_hasCell
set_option maxRecDepth 20000 in
theorem ggX3_odds_X3_isUpTo : GoodIn wsX3_odds wsX3_isUpTo := goodIn_r _ [12] (by decide +kernel) (by decide +kernel)
set_option maxRecDepth 20000 in
theorem gX3_odds_X3_isUpTo : GoodIn wsX3_odds (va_wsS RX3 50 yX3_isUpTo wsX3_isUpTo) := goodIn_app (goodIn_of _ (by decide +kernel)) ggX3_odds_X3_isUpTo
set_option maxRecDepth 20000 in
theorem ggX3_odds_X2_settingsInAll : GoodIn wsX3_odds wsX2_settingsInAll := goodIn_r _ [16, 17, 48, 49, 50, 51, 52, 53, 54, 55, 56, 57, 58, 59, 60, 61, 62, 63, 64, 65] (by decide +kernel) (by decide +kernel)
set_option maxRecDepth 20000 in
theorem gX3_odds_X2_settingsInAll : GoodIn wsX3_odds (wsV RX3 175 RX2 yX2_settingsInAll wsX2_settingsInAll) := goodIn_app (goodIn_of _ (by decide +kernel)) ggX3_odds_X2_settingsInAll
set_option maxRecDepth 20000 in
theorem ggX3_odds_X2_smellBy : GoodIn wsX3_odds wsX2_smellBy := goodIn_r _ [21, 17, 22, 23, 24, 25, 26, 27, 28, 29, 30, 31, 32, 33, 34, 6, 35, 36, 37, 38, 39, 11, 40, 48, 49, 50, 51, 52, 53, 54, 55, 56, 57, 58, 59, 60, 61, 62, 63, 64, 65] (by decide +kernel) (by decide +kernel)
set_option maxRecDepth 20000 in
theorem gX3_odds_X2_smellBy : GoodIn wsX3_odds (wsV RX3 125 RX2 yX2_smellBy wsX2_smellBy) := goodIn_app (goodIn_of _ (by decide +kernel)) ggX3_odds_X2_smellBy
theorem dX3_odds_0 : decode cX3_odds 0 = .ok (.aload_n 0, 1) := by decide +kernel
theorem dX3_odds_1 : decode cX3_odds 1 = .ok (.getfield 31, 3) := by decide +kernel
theorem dX3_odds_4 : decode cX3_odds 4 = .ok (.iload_n 1, 1) := by decide +kernel
theorem dX3_odds_5 : decode cX3_odds 5 = .ok (.invokevirtual 122, 3) := by decide +kernel
theorem dX3_odds_8 : decode cX3_odds 8 = .ok (.ifCond .eq 20, 3) := by decide +kernel
theorem dX3_odds_11 : decode cX3_odds 11 = .ok (.iload_n 2, 1) := by decide +kernel
theorem dX3_odds_12 : decode cX3_odds 12 = .ok (.bipush 99, 2) := by decide +kernel
theorem dX3_odds_14 : decode cX3_odds 14 = .ok (.invokestatic 50, 3) := by decide +kernel
theorem dX3_odds_17 : decode cX3_odds 17 = .ok (.ifCond .eq 11, 3) := by decide +kernel
theorem dX3_odds_20 : decode cX3_odds 20 = .ok (.iload_n 3, 1) := by decide +kernel
theorem dX3_odds_21 : decode cX3_odds 21 = .ok (.iconst 1, 1) := by decide +kernel
theorem dX3_odds_22 : decode cX3_odds 22 = .ok (.invokestatic 50, 3) := by decide +kernel
theorem dX3_odds_25 : decode cX3_odds 25 = .ok (.ifCond .ne 7, 3) := by decide +kernel
theorem dX3_odds_28 : decode cX3_odds 28 = .ok (.ldc2_w 185, 3) := by decide +kernel
theorem dX3_odds_31 : decode cX3_odds 31 = .ok (.lreturn, 1) := by decide +kernel
theorem dX3_odds_32 : decode cX3_odds 32 = .ok (.aload_n 0, 1) := by decide +kernel
theorem dX3_odds_33 : decode cX3_odds 33 = .ok (.getfield 31, 3) := by decide +kernel
theorem dX3_odds_36 : decode cX3_odds 36 = .ok (.invokevirtual 175, 3) := by decide +kernel
theorem dX3_odds_39 : decode cX3_odds 39 = .ok (.istore 4, 2) := by decide +kernel
theorem dX3_odds_41 : decode cX3_odds 41 = .ok (.iconst 0, 1) := by decide +kernel
theorem dX3_odds_42 : decode cX3_odds 42 = .ok (.istore 5, 2) := by decide +kernel
theorem dX3_odds_44 : decode cX3_odds 44 = .ok (.iconst 0, 1) := by decide +kernel
theorem dX3_odds_45 : decode cX3_odds 45 = .ok (.istore 6, 2) := by decide +kernel
theorem dX3_odds_47 : decode cX3_odds 47 = .ok (.iload 6, 2) := by decide +kernel
theorem dX3_odds_49 : decode cX3_odds 49 = .ok (.aload_n 0, 1) := by decide +kernel
theorem dX3_odds_50 : decode cX3_odds 50 = .ok (.getfield 31, 3) := by decide +kernel
theorem dX3_odds_53 : decode cX3_odds 53 = .ok (.invokevirtual 175, 3) := by decide +kernel
theorem dX3_odds_56 : decode cX3_odds 56 = .ok (.if_icmp .ge 26, 3) := by decide +kernel
theorem dX3_odds_59 : decode cX3_odds 59 = .ok (.aload_n 0, 1) := by decide +kernel
theorem dX3_odds_60 : decode cX3_odds 60 = .ok (.getfield 31, 3) := by decide +kernel
theorem dX3_odds_63 : decode cX3_odds 63 = .ok (.iload 6, 2) := by decide +kernel
theorem dX3_odds_65 : decode cX3_odds 65 = .ok (.iload_n 1, 1) := by decide +kernel
theorem dX3_odds_66 : decode cX3_odds 66 = .ok (.invokevirtual 125, 3) := by decide +kernel
theorem dX3_odds_69 : decode cX3_odds 69 = .ok (.iload_n 2, 1) := by decide +kernel
theorem dX3_odds_70 : decode cX3_odds 70 = .ok (.if_icmp .lt 6, 3) := by decide +kernel
theorem dX3_odds_73 : decode cX3_odds 73 = .ok (.iinc 5 1, 3) := by decide +kernel
theorem dX3_odds_76 : decode cX3_odds 76 = .ok (.iinc 6 1, 3) := by decide +kernel
theorem dX3_odds_79 : decode cX3_odds 79 = .ok (.goto (-32), 3) := by decide +kernel
theorem dX3_odds_82 : decode cX3_odds 82 = .ok (.iconst 0, 1) := by decide +kernel
theorem dX3_odds_83 : decode cX3_odds 83 = .ok (.istore 6, 2) := by decide +kernel
theorem dX3_odds_85 : decode cX3_odds 85 = .ok (.iload 6, 2) := by decide +kernel
theorem dX3_odds_87 : decode cX3_odds 87 = .ok (.bipush 8, 2) := by decide +kernel
theorem dX3_odds_89 : decode cX3_odds 89 = .ok (.if_icmp .ge 34, 3) := by decide +kernel
theorem dX3_odds_92 : decode cX3_odds 92 = .ok (.iload 4, 2) := by decide +kernel
theorem dX3_odds_94 : decode cX3_odds 94 = .ok (.iconst 1, 1) := by decide +kernel
theorem dX3_odds_95 : decode cX3_odds 95 = .ok (.if_icmp .le 22, 3) := by decide +kernel
theorem dX3_odds_98 : decode cX3_odds 98 = .ok (.iload 5, 2) := by decide +kernel
theorem dX3_odds_100 : decode cX3_odds 100 = .ok (.iconst 1, 1) := by decide +kernel
theorem dX3_odds_101 : decode cX3_odds 101 = .ok (.iand, 1) := by decide +kernel
theorem dX3_odds_102 : decode cX3_odds 102 = .ok (.ifCond .ne 15, 3) := by decide +kernel
theorem dX3_odds_105 : decode cX3_odds 105 = .ok (.iload 5, 2) := by decide +kernel
theorem dX3_odds_107 : decode cX3_odds 107 = .ok (.iconst 1, 1) := by decide +kernel
theorem dX3_odds_108 : decode cX3_odds 108 = .ok (.ishr, 1) := by decide +kernel
theorem dX3_odds_109 : decode cX3_odds 109 = .ok (.istore 5, 2) := by decide +kernel
theorem dX3_odds_111 : decode cX3_odds 111 = .ok (.iload 4, 2) := by decide +kernel
theorem dX3_odds_113 : decode cX3_odds 113 = .ok (.iconst 1, 1) := by decide +kernel
theorem dX3_odds_114 : decode cX3_odds 114 = .ok (.ishr, 1) := by decide +kernel
theorem dX3_odds_115 : decode cX3_odds 115 = .ok (.istore 4, 2) := by decide +kernel
theorem dX3_odds_117 : decode cX3_odds 117 = .ok (.iinc 6 1, 3) := by decide +kernel
theorem dX3_odds_120 : decode cX3_odds 120 = .ok (.goto (-35), 3) := by decide +kernel
theorem dX3_odds_123 : decode cX3_odds 123 = .ok (.iload_n 3, 1) := by decide +kernel
theorem dX3_odds_124 : decode cX3_odds 124 = .ok (.ifCond .ne 9, 3) := by decide +kernel
theorem dX3_odds_127 : decode cX3_odds 127 = .ok (.iload 5, 2) := by decide +kernel
theorem dX3_odds_129 : decode cX3_odds 129 = .ok (.i2l, 1) := by decide +kernel
theorem dX3_odds_130 : decode cX3_odds 130 = .ok (.goto 6, 3) := by decide +kernel
theorem dX3_odds_133 : decode cX3_odds 133 = .ok (.iload 4, 2) := by decide +kernel
theorem dX3_odds_135 : decode cX3_odds 135 = .ok (.i2l, 1) := by decide +kernel
theorem dX3_odds_136 : decode cX3_odds 136 = .ok (.lreturn, 1) := by decide +kernel
set_option maxRecDepth 20000 in
theorem ggX3_sheet_X3_sheetAt : GoodIn wsX3_sheet wsX3_sheetAt := goodIn_r _ [6, 7, 27, 28, 29, 30, 31, 32, 33] (by decide +kernel) (by decide +kernel)
set_option maxRecDepth 20000 in
theorem gX3_sheet_X3_sheetAt : GoodIn wsX3_sheet (wsV RX3 46 RX3 yX3_sheetAt wsX3_sheetAt) := goodIn_app (goodIn_of _ (by decide +kernel)) ggX3_sheet_X3_sheetAt
set_option maxRecDepth 20000 in
theorem ggX3_sheet_X3_isUpTo : GoodIn wsX3_sheet wsX3_isUpTo := goodIn_r _ [10] (by decide +kernel) (by decide +kernel)
set_option maxRecDepth 20000 in
theorem gX3_sheet_X3_isUpTo : GoodIn wsX3_sheet (va_wsS RX3 50 yX3_isUpTo wsX3_isUpTo) := goodIn_app (goodIn_of _ (by decide +kernel)) ggX3_sheet_X3_isUpTo
set_option maxRecDepth 20000 in
theorem ggX3_sheet_X3_fail : GoodIn wsX3_sheet wsX3_fail := goodIn_r _ [14, 1, 27, 28, 29, 30, 31, 32, 33] (by decide +kernel) (by decide +kernel)
set_option maxRecDepth 20000 in
theorem gX3_sheet_X3_fail : GoodIn wsX3_sheet (wsV RX3 58 RX3 yX3_fail wsX3_fail) := goodIn_app (goodIn_of _ (by decide +kernel)) ggX3_sheet_X3_fail
set_option maxRecDepth 20000 in
theorem ggX3_sheet_X0_renew : GoodIn wsX3_sheet wsX0_renew := goodIn_r _ [19, 20, 21, 22, 23, 24, 25, 26, 34, 35, 36] (by decide +kernel) (by decide +kernel)
set_option maxRecDepth 20000 in
theorem gX3_sheet_X0_renew : GoodIn wsX3_sheet (wsV RX3 187 RX0 yX0_renew wsX0_renew) := goodIn_app (goodIn_of _ (by decide +kernel)) ggX3_sheet_X0_renew
theorem dX3_sheet_0 : decode cX3_sheet 0 = .ok (.aload_n 0, 1) := by decide +kernel
theorem dX3_sheet_1 : decode cX3_sheet 1 = .ok (.iconst 0, 1) := by decide +kernel
theorem dX3_sheet_2 : decode cX3_sheet 2 = .ok (.putfield 42, 3) := by decide +kernel
theorem dX3_sheet_5 : decode cX3_sheet 5 = .ok (.aload_n 0, 1) := by decide +kernel
theorem dX3_sheet_6 : decode cX3_sheet 6 = .ok (.iload_n 1, 1) := by decide +kernel
theorem dX3_sheet_7 : decode cX3_sheet 7 = .ok (.invokevirtual 46, 3) := by decide +kernel
theorem dX3_sheet_10 : decode cX3_sheet 10 = .ok (.astore 4, 2) := by decide +kernel
theorem dX3_sheet_12 : decode cX3_sheet 12 = .ok (.aload 4, 2) := by decide +kernel
theorem dX3_sheet_14 : decode cX3_sheet 14 = .ok (.ifnonnull 5, 3) := by decide +kernel
theorem dX3_sheet_17 : decode cX3_sheet 17 = .ok (.iconst (-1), 1) := by decide +kernel
theorem dX3_sheet_18 : decode cX3_sheet 18 = .ok (.ireturn, 1) := by decide +kernel
theorem dX3_sheet_19 : decode cX3_sheet 19 = .ok (.iload_n 2, 1) := by decide +kernel
theorem dX3_sheet_20 : decode cX3_sheet 20 = .ok (.iconst 2, 1) := by decide +kernel
theorem dX3_sheet_21 : decode cX3_sheet 21 = .ok (.invokestatic 50, 3) := by decide +kernel
theorem dX3_sheet_24 : decode cX3_sheet 24 = .ok (.ifCond .eq 9, 3) := by decide +kernel
theorem dX3_sheet_27 : decode cX3_sheet 27 = .ok (.iload_n 3, 1) := by decide +kernel
theorem dX3_sheet_28 : decode cX3_sheet 28 = .ok (.bipush 60, 2) := by decide +kernel
theorem dX3_sheet_30 : decode cX3_sheet 30 = .ok (.if_icmp .le 6, 3) := by decide +kernel
theorem dX3_sheet_33 : decode cX3_sheet 33 = .ok (.bipush (-2), 2) := by decide +kernel
theorem dX3_sheet_35 : decode cX3_sheet 35 = .ok (.ireturn, 1) := by decide +kernel
theorem dX3_sheet_36 : decode cX3_sheet 36 = .ok (.iload_n 3, 1) := by decide +kernel
theorem dX3_sheet_37 : decode cX3_sheet 37 = .ok (.ifCond .ge 9, 3) := by decide +kernel
theorem dX3_sheet_40 : decode cX3_sheet 40 = .ok (.aload_n 0, 1) := by decide +kernel
theorem dX3_sheet_41 : decode cX3_sheet 41 = .ok (.iconst 4, 1) := by decide +kernel
theorem dX3_sheet_42 : decode cX3_sheet 42 = .ok (.invokevirtual 58, 3) := by decide +kernel
theorem dX3_sheet_45 : decode cX3_sheet 45 = .ok (.ireturn, 1) := by decide +kernel
theorem dX3_sheet_46 : decode cX3_sheet 46 = .ok (.aload 4, 2) := by decide +kernel
theorem dX3_sheet_48 : decode cX3_sheet 48 = .ok (.iload_n 2, 1) := by decide +kernel
theorem dX3_sheet_49 : decode cX3_sheet 49 = .ok (.iload_n 3, 1) := by decide +kernel
theorem dX3_sheet_50 : decode cX3_sheet 50 = .ok (.invokevirtual 187, 3) := by decide +kernel
theorem dX3_sheet_53 : decode cX3_sheet 53 = .ok (.iconst 1, 1) := by decide +kernel
theorem dX3_sheet_54 : decode cX3_sheet 54 = .ok (.ireturn, 1) := by decide +kernel
set_option maxRecDepth 20000 in
theorem ggX3_lose_X3_sheetAt : GoodIn wsX3_lose wsX3_sheetAt := goodIn_r _ [5, 6, 23, 24, 25, 26, 27, 28, 29] (by decide +kernel) (by decide +kernel)
set_option maxRecDepth 20000 in
theorem gX3_lose_X3_sheetAt : GoodIn wsX3_lose (wsV RX3 46 RX3 yX3_sheetAt wsX3_sheetAt) := goodIn_app (goodIn_of _ (by decide +kernel)) ggX3_lose_X3_sheetAt
set_option maxRecDepth 20000 in
theorem ggX3_lose_X0_hasRow : GoodIn wsX3_lose wsX0_hasRow := goodIn_r _ [11, 12, 30, 31, 32] (by decide +kernel) (by decide +kernel)
set_option maxRecDepth 20000 in
theorem gX3_lose_X0_hasRow : GoodIn wsX3_lose (wsV RX3 191 RX0 yX0_hasRow wsX0_hasRow) := goodIn_app (goodIn_of _ (by decide +kernel)) ggX3_lose_X0_hasRow
set_option maxRecDepth 20000 in
theorem ggX3_lose_X0_renew : GoodIn wsX3_lose wsX0_renew := goodIn_r _ [16, 12, 17, 18, 19, 20, 21, 22, 30, 31, 32] (by decide +kernel) (by decide +kernel)
set_option maxRecDepth 20000 in
theorem gX3_lose_X0_renew : GoodIn wsX3_lose (wsV RX3 187 RX0 yX0_renew wsX0_renew) := goodIn_app (goodIn_of _ (by decide +kernel)) ggX3_lose_X0_renew
theorem dX3_lose_0 : decode cX3_lose 0 = .ok (.aload_n 0, 1) := by decide +kernel
theorem dX3_lose_1 : decode cX3_lose 1 = .ok (.iload_n 1, 1) := by decide +kernel
theorem dX3_lose_2 : decode cX3_lose 2 = .ok (.invokevirtual 46, 3) := by decide +kernel
theorem dX3_lose_5 : decode cX3_lose 5 = .ok (.astore_n 2, 1) := by decide +kernel
theorem dX3_lose_6 : decode cX3_lose 6 = .ok (.aload_n 2, 1) := by decide +kernel
theorem dX3_lose_7 : decode cX3_lose 7 = .ok (.ifnonnull 5, 3) := by decide +kernel
theorem dX3_lose_10 : decode cX3_lose 10 = .ok (.iconst (-1), 1) := by decide +kernel
theorem dX3_lose_11 : decode cX3_lose 11 = .ok (.ireturn, 1) := by decide +kernel
theorem dX3_lose_12 : decode cX3_lose 12 = .ok (.aload_n 2, 1) := by decide +kernel
theorem dX3_lose_13 : decode cX3_lose 13 = .ok (.invokevirtual 191, 3) := by decide +kernel
theorem dX3_lose_16 : decode cX3_lose 16 = .ok (.ifCond .ne 5, 3) := by decide +kernel
theorem dX3_lose_19 : decode cX3_lose 19 = .ok (.iconst 0, 1) := by decide +kernel
theorem dX3_lose_20 : decode cX3_lose 20 = .ok (.ireturn, 1) := by decide +kernel
theorem dX3_lose_21 : decode cX3_lose 21 = .ok (.aload_n 2, 1) := by decide +kernel
theorem dX3_lose_22 : decode cX3_lose 22 = .ok (.iconst (-1), 1) := by decide +kernel
theorem dX3_lose_23 : decode cX3_lose 23 = .ok (.iconst 0, 1) := by decide +kernel
theorem dX3_lose_24 : decode cX3_lose 24 = .ok (.invokevirtual 187, 3) := by decide +kernel
theorem dX3_lose_27 : decode cX3_lose 27 = .ok (.iconst 1, 1) := by decide +kernel
theorem dX3_lose_28 : decode cX3_lose 28 = .ok (.ireturn, 1) := by decide +kernel
set_option maxRecDepth 20000 in
theorem ggX3_put_X3_sheetAt : GoodIn wsX3_put wsX3_sheetAt := goodIn_r _ [8, 9, 36, 37, 38, 39, 40, 41, 42] (by decide +kernel) (by decide +kernel)
set_option maxRecDepth 20000 in
theorem gX3_put_X3_sheetAt : GoodIn wsX3_put (wsV RX3 46 RX3 yX3_sheetAt wsX3_sheetAt) := goodIn_app (goodIn_of _ (by decide +kernel)) ggX3_put_X3_sheetAt
set_option maxRecDepth 20000 in
theorem ggX3_put_X0_faultOfTaking : GoodIn wsX3_put wsX0_faultOfTaking := goodIn_r _ [14, 15, 16, 17, 18, 13, 19, 20, 21, 22, 23, 24, 43, 44, 45] (by decide +kernel) (by decide +kernel)
set_option maxRecDepth 20000 in
theorem gX3_put_X0_faultOfTaking : GoodIn wsX3_put (wsV RX3 54 RX0 yX0_faultOfTaking wsX0_faultOfTaking) := goodIn_app (goodIn_of _ (by decide +kernel)) ggX3_put_X0_faultOfTaking
set_option maxRecDepth 20000 in
theorem ggX3_put_X3_fail : GoodIn wsX3_put wsX3_fail := goodIn_r _ [28, 1, 36, 37, 38, 39, 40, 41, 42] (by decide +kernel) (by decide +kernel)
set_option maxRecDepth 20000 in
theorem gX3_put_X3_fail : GoodIn wsX3_put (wsV RX3 58 RX3 yX3_fail wsX3_fail) := goodIn_app (goodIn_of _ (by decide +kernel)) ggX3_put_X3_fail
set_option maxRecDepth 20000 in
theorem ggX3_put_X0_cut : GoodIn wsX3_put wsX0_cut := goodIn_r _ [32, 15, 43, 44, 45] (by decide +kernel) (by decide +kernel)
set_option maxRecDepth 20000 in
theorem gX3_put_X0_cut : GoodIn wsX3_put (wsV RX3 198 RX0 yX0_cut wsX0_cut) := goodIn_app (goodIn_of _ (by decide +kernel)) ggX3_put_X0_cut
set_option maxRecDepth 20000 in
theorem ggX3_put_X3_write : GoodIn wsX3_put wsX3_write := goodIn_r _ [35] (by decide +kernel) (by decide +kernel)
set_option maxRecDepth 20000 in
theorem gX3_put_X3_write : GoodIn wsX3_put (va_wsS RX3 155 yX3_write wsX3_write) := goodIn_app (goodIn_of _ (by decide +kernel)) ggX3_put_X3_write
theorem dX3_put_0 : decode cX3_put 0 = .ok (.aload_n 0, 1) := by decide +kernel
theorem dX3_put_1 : decode cX3_put 1 = .ok (.iconst 0, 1) := by decide +kernel
theorem dX3_put_2 : decode cX3_put 2 = .ok (.putfield 42, 3) := by decide +kernel
theorem dX3_put_5 : decode cX3_put 5 = .ok (.aload_n 0, 1) := by decide +kernel
theorem dX3_put_6 : decode cX3_put 6 = .ok (.iload_n 1, 1) := by decide +kernel
theorem dX3_put_7 : decode cX3_put 7 = .ok (.invokevirtual 46, 3) := by decide +kernel
theorem dX3_put_10 : decode cX3_put 10 = .ok (.astore 4, 2) := by decide +kernel
theorem dX3_put_12 : decode cX3_put 12 = .ok (.aload 4, 2) := by decide +kernel
theorem dX3_put_14 : decode cX3_put 14 = .ok (.ifnonnull 5, 3) := by decide +kernel
theorem dX3_put_17 : decode cX3_put 17 = .ok (.iconst (-1), 1) := by decide +kernel
theorem dX3_put_18 : decode cX3_put 18 = .ok (.ireturn, 1) := by decide +kernel
theorem dX3_put_19 : decode cX3_put 19 = .ok (.aload 4, 2) := by decide +kernel
theorem dX3_put_21 : decode cX3_put 21 = .ok (.aload 4, 2) := by decide +kernel
theorem dX3_put_23 : decode cX3_put 23 = .ok (.getfield 195, 3) := by decide +kernel
theorem dX3_put_26 : decode cX3_put 26 = .ok (.iload_n 2, 1) := by decide +kernel
theorem dX3_put_27 : decode cX3_put 27 = .ok (.iconst 1, 1) := by decide +kernel
theorem dX3_put_28 : decode cX3_put 28 = .ok (.invokevirtual 54, 3) := by decide +kernel
theorem dX3_put_31 : decode cX3_put 31 = .ok (.istore 5, 2) := by decide +kernel
theorem dX3_put_33 : decode cX3_put 33 = .ok (.iload 5, 2) := by decide +kernel
theorem dX3_put_35 : decode cX3_put 35 = .ok (.ifCond .eq 10, 3) := by decide +kernel
theorem dX3_put_38 : decode cX3_put 38 = .ok (.aload_n 0, 1) := by decide +kernel
theorem dX3_put_39 : decode cX3_put 39 = .ok (.iload 5, 2) := by decide +kernel
theorem dX3_put_41 : decode cX3_put 41 = .ok (.invokevirtual 58, 3) := by decide +kernel
theorem dX3_put_44 : decode cX3_put 44 = .ok (.ireturn, 1) := by decide +kernel
theorem dX3_put_45 : decode cX3_put 45 = .ok (.aload 4, 2) := by decide +kernel
theorem dX3_put_47 : decode cX3_put 47 = .ok (.getfield 137, 3) := by decide +kernel
theorem dX3_put_50 : decode cX3_put 50 = .ok (.iload_n 2, 1) := by decide +kernel
theorem dX3_put_51 : decode cX3_put 51 = .ok (.aload 4, 2) := by decide +kernel
theorem dX3_put_53 : decode cX3_put 53 = .ok (.iload_n 3, 1) := by decide +kernel
theorem dX3_put_54 : decode cX3_put 54 = .ok (.invokevirtual 198, 3) := by decide +kernel
theorem dX3_put_57 : decode cX3_put 57 = .ok (.invokestatic 155, 3) := by decide +kernel
theorem dX3_put_60 : decode cX3_put 60 = .ok (.iconst 1, 1) := by decide +kernel
theorem dX3_put_61 : decode cX3_put 61 = .ok (.ireturn, 1) := by decide +kernel
set_option maxRecDepth 20000 in
theorem ggX3_cell_X3_sheetAt : GoodIn wsX3_cell wsX3_sheetAt := goodIn_r _ [8, 9, 31, 32, 33, 34, 35, 36, 37] (by decide +kernel) (by decide +kernel)
set_option maxRecDepth 20000 in
theorem gX3_cell_X3_sheetAt : GoodIn wsX3_cell (wsV RX3 46 RX3 yX3_sheetAt wsX3_sheetAt) := goodIn_app (goodIn_of _ (by decide +kernel)) ggX3_cell_X3_sheetAt
set_option maxRecDepth 20000 in
theorem ggX3_cell_X3_isUpTo : GoodIn wsX3_cell wsX3_isUpTo := goodIn_r _ [12] (by decide +kernel) (by decide +kernel)
set_option maxRecDepth 20000 in
theorem gX3_cell_X3_isUpTo : GoodIn wsX3_cell (va_wsS RX3 50 yX3_isUpTo wsX3_isUpTo) := goodIn_app (goodIn_of _ (by decide +kernel)) ggX3_cell_X3_isUpTo
set_option maxRecDepth 20000 in
theorem ggX3_cell_X0_faultOfTaking : GoodIn wsX3_cell wsX0_faultOfTaking := goodIn_r _ [17, 18, 19, 20, 21, 16, 22, 23, 24, 25, 26, 27, 38, 39, 40] (by decide +kernel) (by decide +kernel)
set_option maxRecDepth 20000 in
theorem gX3_cell_X0_faultOfTaking : GoodIn wsX3_cell (wsV RX3 54 RX0 yX0_faultOfTaking wsX0_faultOfTaking) := goodIn_app (goodIn_of _ (by decide +kernel)) ggX3_cell_X0_faultOfTaking
set_option maxRecDepth 20000 in
theorem ggX3_cell_X3_read : GoodIn wsX3_cell wsX3_read := goodIn_r _ [30] (by decide +kernel) (by decide +kernel)
set_option maxRecDepth 20000 in
theorem gX3_cell_X3_read : GoodIn wsX3_cell (va_wsS RX3 83 yX3_read wsX3_read) := goodIn_app (goodIn_of _ (by decide +kernel)) ggX3_cell_X3_read
theorem dX3_cell_0 : decode cX3_cell 0 = .ok (.aload_n 0, 1) := by decide +kernel
theorem dX3_cell_1 : decode cX3_cell 1 = .ok (.iconst 0, 1) := by decide +kernel
theorem dX3_cell_2 : decode cX3_cell 2 = .ok (.putfield 42, 3) := by decide +kernel
theorem dX3_cell_5 : decode cX3_cell 5 = .ok (.aload_n 0, 1) := by decide +kernel
theorem dX3_cell_6 : decode cX3_cell 6 = .ok (.iload_n 1, 1) := by decide +kernel
theorem dX3_cell_7 : decode cX3_cell 7 = .ok (.invokevirtual 46, 3) := by decide +kernel
theorem dX3_cell_10 : decode cX3_cell 10 = .ok (.astore 4, 2) := by decide +kernel
theorem dX3_cell_12 : decode cX3_cell 12 = .ok (.aload 4, 2) := by decide +kernel
theorem dX3_cell_14 : decode cX3_cell 14 = .ok (.ifnull 11, 3) := by decide +kernel
theorem dX3_cell_17 : decode cX3_cell 17 = .ok (.iload_n 3, 1) := by decide +kernel
theorem dX3_cell_18 : decode cX3_cell 18 = .ok (.iconst 2, 1) := by decide +kernel
theorem dX3_cell_19 : decode cX3_cell 19 = .ok (.invokestatic 50, 3) := by decide +kernel
theorem dX3_cell_22 : decode cX3_cell 22 = .ok (.ifCond .ne 7, 3) := by decide +kernel
theorem dX3_cell_25 : decode cX3_cell 25 = .ok (.ldc2_w 185, 3) := by decide +kernel
theorem dX3_cell_28 : decode cX3_cell 28 = .ok (.lreturn, 1) := by decide +kernel
theorem dX3_cell_29 : decode cX3_cell 29 = .ok (.aload_n 0, 1) := by decide +kernel
theorem dX3_cell_30 : decode cX3_cell 30 = .ok (.aload 4, 2) := by decide +kernel
theorem dX3_cell_32 : decode cX3_cell 32 = .ok (.iload_n 3, 1) := by decide +kernel
theorem dX3_cell_33 : decode cX3_cell 33 = .ok (.iload_n 2, 1) := by decide +kernel
theorem dX3_cell_34 : decode cX3_cell 34 = .ok (.iconst 1, 1) := by decide +kernel
theorem dX3_cell_35 : decode cX3_cell 35 = .ok (.invokevirtual 54, 3) := by decide +kernel
theorem dX3_cell_38 : decode cX3_cell 38 = .ok (.putfield 42, 3) := by decide +kernel
theorem dX3_cell_41 : decode cX3_cell 41 = .ok (.aload_n 0, 1) := by decide +kernel
theorem dX3_cell_42 : decode cX3_cell 42 = .ok (.getfield 42, 3) := by decide +kernel
theorem dX3_cell_45 : decode cX3_cell 45 = .ok (.ifCond .ne 16, 3) := by decide +kernel
theorem dX3_cell_48 : decode cX3_cell 48 = .ok (.aload 4, 2) := by decide +kernel
theorem dX3_cell_50 : decode cX3_cell 50 = .ok (.getfield 137, 3) := by decide +kernel
theorem dX3_cell_53 : decode cX3_cell 53 = .ok (.iload_n 2, 1) := by decide +kernel
theorem dX3_cell_54 : decode cX3_cell 54 = .ok (.invokestatic 83, 3) := by decide +kernel
theorem dX3_cell_57 : decode cX3_cell 57 = .ok (.i2l, 1) := by decide +kernel
theorem dX3_cell_58 : decode cX3_cell 58 = .ok (.goto 6, 3) := by decide +kernel
theorem dX3_cell_61 : decode cX3_cell 61 = .ok (.ldc2_w 185, 3) := by decide +kernel
theorem dX3_cell_64 : decode cX3_cell 64 = .ok (.lreturn, 1) := by decide +kernel
set_option maxRecDepth 20000 in
theorem ggX3_copy_X3_sheetAt : GoodIn wsX3_copy wsX3_sheetAt := goodIn_r _ [12, 13, 29, 30, 31, 32, 33, 34, 35] (by decide +kernel) (by decide +kernel)
set_option maxRecDepth 20000 in
theorem gX3_copy_X3_sheetAt : GoodIn wsX3_copy (wsV RX3 46 RX3 yX3_sheetAt wsX3_sheetAt) := goodIn_app (goodIn_of _ (by decide +kernel)) ggX3_copy_X3_sheetAt
set_option maxRecDepth 20000 in
theorem ggX3_copy_X0_hasRow : GoodIn wsX3_copy wsX0_hasRow := goodIn_r _ [18, 19, 36, 37, 38] (by decide +kernel) (by decide +kernel)
set_option maxRecDepth 20000 in
theorem gX3_copy_X0_hasRow : GoodIn wsX3_copy (wsV RX3 191 RX0 yX0_hasRow wsX0_hasRow) := goodIn_app (goodIn_of _ (by decide +kernel)) ggX3_copy_X0_hasRow
set_option maxRecDepth 20000 in
theorem ggX3_copy_X3_fail : GoodIn wsX3_copy wsX3_fail := goodIn_r _ [23, 1, 29, 30, 31, 32, 33, 34, 35] (by decide +kernel) (by decide +kernel)
set_option maxRecDepth 20000 in
theorem gX3_copy_X3_fail : GoodIn wsX3_copy (wsV RX3 58 RX3 yX3_fail wsX3_fail) := goodIn_app (goodIn_of _ (by decide +kernel)) ggX3_copy_X3_fail
set_option maxRecDepth 20000 in
theorem ggX3_copy_X0_holds : GoodIn wsX3_copy wsX0_holds := goodIn_r _ [27, 28, 36, 37, 38] (by decide +kernel) (by decide +kernel)
set_option maxRecDepth 20000 in
theorem gX3_copy_X0_holds : GoodIn wsX3_copy (wsV RX3 201 RX0 yX0_holds wsX0_holds) := goodIn_app (goodIn_of _ (by decide +kernel)) ggX3_copy_X0_holds
theorem dX3_copy_0 : decode cX3_copy 0 = .ok (.aload_n 0, 1) := by decide +kernel
theorem dX3_copy_1 : decode cX3_copy 1 = .ok (.iconst 0, 1) := by decide +kernel
theorem dX3_copy_2 : decode cX3_copy 2 = .ok (.putfield 42, 3) := by decide +kernel
theorem dX3_copy_5 : decode cX3_copy 5 = .ok (.aload_n 0, 1) := by decide +kernel
theorem dX3_copy_6 : decode cX3_copy 6 = .ok (.iload_n 1, 1) := by decide +kernel
theorem dX3_copy_7 : decode cX3_copy 7 = .ok (.invokevirtual 46, 3) := by decide +kernel
theorem dX3_copy_10 : decode cX3_copy 10 = .ok (.astore 6, 2) := by decide +kernel
theorem dX3_copy_12 : decode cX3_copy 12 = .ok (.aload_n 0, 1) := by decide +kernel
theorem dX3_copy_13 : decode cX3_copy 13 = .ok (.iload_n 3, 1) := by decide +kernel
theorem dX3_copy_14 : decode cX3_copy 14 = .ok (.invokevirtual 46, 3) := by decide +kernel
theorem dX3_copy_17 : decode cX3_copy 17 = .ok (.astore 7, 2) := by decide +kernel
theorem dX3_copy_19 : decode cX3_copy 19 = .ok (.aload 6, 2) := by decide +kernel
theorem dX3_copy_21 : decode cX3_copy 21 = .ok (.ifnull 8, 3) := by decide +kernel
theorem dX3_copy_24 : decode cX3_copy 24 = .ok (.aload 7, 2) := by decide +kernel
theorem dX3_copy_26 : decode cX3_copy 26 = .ok (.ifnonnull 5, 3) := by decide +kernel
theorem dX3_copy_29 : decode cX3_copy 29 = .ok (.iconst (-1), 1) := by decide +kernel
theorem dX3_copy_30 : decode cX3_copy 30 = .ok (.ireturn, 1) := by decide +kernel
theorem dX3_copy_31 : decode cX3_copy 31 = .ok (.aload 6, 2) := by decide +kernel
theorem dX3_copy_33 : decode cX3_copy 33 = .ok (.invokevirtual 191, 3) := by decide +kernel
theorem dX3_copy_36 : decode cX3_copy 36 = .ok (.ifCond .eq 11, 3) := by decide +kernel
theorem dX3_copy_39 : decode cX3_copy 39 = .ok (.aload 7, 2) := by decide +kernel
theorem dX3_copy_41 : decode cX3_copy 41 = .ok (.invokevirtual 191, 3) := by decide +kernel
theorem dX3_copy_44 : decode cX3_copy 44 = .ok (.ifCond .ne 9, 3) := by decide +kernel
theorem dX3_copy_47 : decode cX3_copy 47 = .ok (.aload_n 0, 1) := by decide +kernel
theorem dX3_copy_48 : decode cX3_copy 48 = .ok (.iconst 1, 1) := by decide +kernel
theorem dX3_copy_49 : decode cX3_copy 49 = .ok (.invokevirtual 58, 3) := by decide +kernel
theorem dX3_copy_52 : decode cX3_copy 52 = .ok (.ireturn, 1) := by decide +kernel
theorem dX3_copy_53 : decode cX3_copy 53 = .ok (.aload 6, 2) := by decide +kernel
theorem dX3_copy_55 : decode cX3_copy 55 = .ok (.getfield 195, 3) := by decide +kernel
theorem dX3_copy_58 : decode cX3_copy 58 = .ok (.aload 7, 2) := by decide +kernel
theorem dX3_copy_60 : decode cX3_copy 60 = .ok (.getfield 195, 3) := by decide +kernel
theorem dX3_copy_63 : decode cX3_copy 63 = .ok (.if_icmp .eq 9, 3) := by decide +kernel
theorem dX3_copy_66 : decode cX3_copy 66 = .ok (.aload_n 0, 1) := by decide +kernel
theorem dX3_copy_67 : decode cX3_copy 67 = .ok (.iconst 2, 1) := by decide +kernel
theorem dX3_copy_68 : decode cX3_copy 68 = .ok (.invokevirtual 58, 3) := by decide +kernel
theorem dX3_copy_71 : decode cX3_copy 71 = .ok (.ireturn, 1) := by decide +kernel
theorem dX3_copy_72 : decode cX3_copy 72 = .ok (.aload 6, 2) := by decide +kernel
theorem dX3_copy_74 : decode cX3_copy 74 = .ok (.iload_n 2, 1) := by decide +kernel
theorem dX3_copy_75 : decode cX3_copy 75 = .ok (.iload 5, 2) := by decide +kernel
theorem dX3_copy_77 : decode cX3_copy 77 = .ok (.invokevirtual 201, 3) := by decide +kernel
theorem dX3_copy_80 : decode cX3_copy 80 = .ok (.ifCond .eq 15, 3) := by decide +kernel
theorem dX3_copy_83 : decode cX3_copy 83 = .ok (.aload 7, 2) := by decide +kernel
theorem dX3_copy_85 : decode cX3_copy 85 = .ok (.iload 4, 2) := by decide +kernel
theorem dX3_copy_87 : decode cX3_copy 87 = .ok (.iload 5, 2) := by decide +kernel
theorem dX3_copy_89 : decode cX3_copy 89 = .ok (.invokevirtual 201, 3) := by decide +kernel
theorem dX3_copy_92 : decode cX3_copy 92 = .ok (.ifCond .ne 9, 3) := by decide +kernel
theorem dX3_copy_95 : decode cX3_copy 95 = .ok (.aload_n 0, 1) := by decide +kernel
theorem dX3_copy_96 : decode cX3_copy 96 = .ok (.iconst 3, 1) := by decide +kernel
theorem dX3_copy_97 : decode cX3_copy 97 = .ok (.invokevirtual 58, 3) := by decide +kernel
theorem dX3_copy_100 : decode cX3_copy 100 = .ok (.ireturn, 1) := by decide +kernel
theorem dX3_copy_101 : decode cX3_copy 101 = .ok (.aload 6, 2) := by decide +kernel
theorem dX3_copy_103 : decode cX3_copy 103 = .ok (.getfield 137, 3) := by decide +kernel
theorem dX3_copy_106 : decode cX3_copy 106 = .ok (.iload_n 2, 1) := by decide +kernel
theorem dX3_copy_107 : decode cX3_copy 107 = .ok (.aload 7, 2) := by decide +kernel
theorem dX3_copy_109 : decode cX3_copy 109 = .ok (.getfield 137, 3) := by decide +kernel
theorem dX3_copy_112 : decode cX3_copy 112 = .ok (.iload 4, 2) := by decide +kernel
theorem dX3_copy_114 : decode cX3_copy 114 = .ok (.iload 5, 2) := by decide +kernel
theorem dX3_copy_116 : decode cX3_copy 116 = .ok (.invokestatic 204, 3) := by decide +kernel
theorem dX3_copy_119 : decode cX3_copy 119 = .ok (.iload 5, 2) := by decide +kernel
theorem dX3_copy_121 : decode cX3_copy 121 = .ok (.ireturn, 1) := by decide +kernel
set_option maxRecDepth 20000 in
theorem ggX3_tell_X2_hasWard : GoodIn wsX3_tell wsX2_hasWard := goodIn_r _ [7, 8, 38, 39, 40, 41, 42, 43, 44, 45, 46, 47, 48, 49, 50, 51, 52, 53, 54, 55] (by decide +kernel) (by decide +kernel)
set_option maxRecDepth 20000 in
theorem gX3_tell_X2_hasWard : GoodIn wsX3_tell (wsV RX3 76 RX2 yX2_hasWard wsX2_hasWard) := goodIn_app (goodIn_of _ (by decide +kernel)) ggX3_tell_X2_hasWard
set_option maxRecDepth 20000 in
theorem ggX3_tell_X3_read : GoodIn wsX3_tell wsX3_read := goodIn_r _ [12] (by decide +kernel) (by decide +kernel)
set_option maxRecDepth 20000 in
theorem gX3_tell_X3_read : GoodIn wsX3_tell (va_wsS RX3 83 yX3_read wsX3_read) := goodIn_app (goodIn_of _ (by decide +kernel)) ggX3_tell_X3_read
set_option maxRecDepth 20000 in
theorem ggX3_tell_X3_tellFine : GoodIn wsX3_tell wsX3_tellFine := goodIn_r _ [16, 17, 18, 19, 11, 20, 21, 22, 23, 24, 25, 26, 27, 28, 29, 1, 30, 9, 10, 12, 31, 32, 33, 34, 35, 36, 37, 38, 39, 40, 41, 42, 43, 44, 45, 46, 47, 48, 49, 50, 51, 52, 53, 54, 55] (by decide +kernel) (by decide +kernel)
set_option maxRecDepth 20000 in
theorem gX3_tell_X3_tellFine : GoodIn wsX3_tell (wsV RX3 210 RX3 yX3_tellFine wsX3_tellFine) := goodIn_app (goodIn_of _ (by decide +kernel)) ggX3_tell_X3_tellFine
set_option maxRecDepth 20000 in
theorem ggX3_tell_X3_tellRich : GoodIn wsX3_tell wsX3_tellRich := goodIn_r _ [25, 17, 18, 19, 11, 20, 21, 26, 27, 28, 29, 1, 30, 9, 10, 12, 31, 32, 33, 34, 35, 36, 37, 38, 39, 40, 41, 42, 43, 44, 45, 46, 47, 48, 49, 50, 51, 52, 53, 54, 55] (by decide +kernel) (by decide +kernel)
set_option maxRecDepth 20000 in
theorem gX3_tell_X3_tellRich : GoodIn wsX3_tell (wsV RX3 213 RX3 yX3_tellRich wsX3_tellRich) := goodIn_app (goodIn_of _ (by decide +kernel)) ggX3_tell_X3_tellRich
set_option maxRecDepth 20000 in
theorem ggX3_tell_X3_tellWard : GoodIn wsX3_tell wsX3_tellWard := goodIn_r _ [29, 1, 30, 17, 18, 19, 11, 20, 21, 9, 10, 12, 31, 32, 33, 34, 35, 36, 37, 38, 39, 40, 41, 42, 43, 44, 45, 46, 47, 48, 49, 50, 51, 52, 53, 54, 55] (by decide +kernel) (by decide +kernel)
set_option maxRecDepth 20000 in
theorem gX3_tell_X3_tellWard : GoodIn wsX3_tell (wsV RX3 216 RX3 yX3_tellWard wsX3_tellWard) := goodIn_app (goodIn_of _ (by decide +kernel)) ggX3_tell_X3_tellWard
theorem dX3_tell_0 : decode cX3_tell 0 = .ok (.aload_n 0, 1) := by decide +kernel
theorem dX3_tell_1 : decode cX3_tell 1 = .ok (.getfield 31, 3) := by decide +kernel
theorem dX3_tell_4 : decode cX3_tell 4 = .ok (.iload_n 1, 1) := by decide +kernel
theorem dX3_tell_5 : decode cX3_tell 5 = .ok (.invokevirtual 76, 3) := by decide +kernel
theorem dX3_tell_8 : decode cX3_tell 8 = .ok (.ifCond .ne 5, 3) := by decide +kernel
theorem dX3_tell_11 : decode cX3_tell 11 = .ok (.iconst (-1), 1) := by decide +kernel
theorem dX3_tell_12 : decode cX3_tell 12 = .ok (.ireturn, 1) := by decide +kernel
theorem dX3_tell_13 : decode cX3_tell 13 = .ok (.aload_n 0, 1) := by decide +kernel
theorem dX3_tell_14 : decode cX3_tell 14 = .ok (.getfield 31, 3) := by decide +kernel
theorem dX3_tell_17 : decode cX3_tell 17 = .ok (.getfield 80, 3) := by decide +kernel
theorem dX3_tell_20 : decode cX3_tell 20 = .ok (.iload_n 1, 1) := by decide +kernel
theorem dX3_tell_21 : decode cX3_tell 21 = .ok (.invokestatic 83, 3) := by decide +kernel
theorem dX3_tell_24 : decode cX3_tell 24 = .ok (.lookupswitch 40 #[(1, 34), (2, 28)], 28) := by decide +kernel
theorem dX3_tell_52 : decode cX3_tell 52 = .ok (.aload_n 0, 1) := by decide +kernel
theorem dX3_tell_53 : decode cX3_tell 53 = .ok (.iload_n 1, 1) := by decide +kernel
theorem dX3_tell_54 : decode cX3_tell 54 = .ok (.invokevirtual 210, 3) := by decide +kernel
theorem dX3_tell_57 : decode cX3_tell 57 = .ok (.ireturn, 1) := by decide +kernel
theorem dX3_tell_58 : decode cX3_tell 58 = .ok (.aload_n 0, 1) := by decide +kernel
theorem dX3_tell_59 : decode cX3_tell 59 = .ok (.iload_n 1, 1) := by decide +kernel
theorem dX3_tell_60 : decode cX3_tell 60 = .ok (.invokevirtual 213, 3) := by decide +kernel
theorem dX3_tell_63 : decode cX3_tell 63 = .ok (.ireturn, 1) := by decide +kernel
theorem dX3_tell_64 : decode cX3_tell 64 = .ok (.aload_n 0, 1) := by decide +kernel
theorem dX3_tell_65 : decode cX3_tell 65 = .ok (.iload_n 1, 1) := by decide +kernel
theorem dX3_tell_66 : decode cX3_tell 66 = .ok (.invokevirtual 216, 3) := by decide +kernel
theorem dX3_tell_69 : decode cX3_tell 69 = .ok (.ireturn, 1) := by decide +kernel
set_option maxRecDepth 20000 in
theorem ggX3_woo_X2_hasWard : GoodIn wsX3_woo wsX2_hasWard := goodIn_r _ [7, 8, 25, 26, 27, 28, 29, 30, 31, 32, 33, 34, 35, 36, 37, 38, 39, 40, 41, 42] (by decide +kernel) (by decide +kernel)
set_option maxRecDepth 20000 in
theorem gX3_woo_X2_hasWard : GoodIn wsX3_woo (wsV RX3 76 RX2 yX2_hasWard wsX2_hasWard) := goodIn_app (goodIn_of _ (by decide +kernel)) ggX3_woo_X2_hasWard
set_option maxRecDepth 20000 in
theorem ggX3_woo_X3_read : GoodIn wsX3_woo wsX3_read := goodIn_r _ [12] (by decide +kernel) (by decide +kernel)
set_option maxRecDepth 20000 in
theorem gX3_woo_X3_read : GoodIn wsX3_woo (va_wsS RX3 83 yX3_read wsX3_read) := goodIn_app (goodIn_of _ (by decide +kernel)) ggX3_woo_X3_read
set_option maxRecDepth 20000 in
theorem ggX3_woo_X3_leave : GoodIn wsX3_woo wsX3_leave := goodIn_r _ [16, 17, 18, 19, 20, 21, 22, 23, 24] (by decide +kernel) (by decide +kernel)
set_option maxRecDepth 20000 in
theorem gX3_woo_X3_leave : GoodIn wsX3_woo (wsV RX3 219 RX3 yX3_leave wsX3_leave) := goodIn_app (goodIn_of _ (by decide +kernel)) ggX3_woo_X3_leave
theorem dX3_woo_0 : decode cX3_woo 0 = .ok (.aload_n 0, 1) := by decide +kernel
theorem dX3_woo_1 : decode cX3_woo 1 = .ok (.getfield 31, 3) := by decide +kernel
theorem dX3_woo_4 : decode cX3_woo 4 = .ok (.iload_n 1, 1) := by decide +kernel
theorem dX3_woo_5 : decode cX3_woo 5 = .ok (.invokevirtual 76, 3) := by decide +kernel
theorem dX3_woo_8 : decode cX3_woo 8 = .ok (.ifCond .ne 5, 3) := by decide +kernel
theorem dX3_woo_11 : decode cX3_woo 11 = .ok (.iconst (-1), 1) := by decide +kernel
theorem dX3_woo_12 : decode cX3_woo 12 = .ok (.ireturn, 1) := by decide +kernel
theorem dX3_woo_13 : decode cX3_woo 13 = .ok (.aload_n 0, 1) := by decide +kernel
theorem dX3_woo_14 : decode cX3_woo 14 = .ok (.getfield 31, 3) := by decide +kernel
theorem dX3_woo_17 : decode cX3_woo 17 = .ok (.getfield 80, 3) := by decide +kernel
theorem dX3_woo_20 : decode cX3_woo 20 = .ok (.iload_n 1, 1) := by decide +kernel
theorem dX3_woo_21 : decode cX3_woo 21 = .ok (.invokestatic 83, 3) := by decide +kernel
theorem dX3_woo_24 : decode cX3_woo 24 = .ok (.iconst 2, 1) := by decide +kernel
theorem dX3_woo_25 : decode cX3_woo 25 = .ok (.if_icmp .ne 11, 3) := by decide +kernel
theorem dX3_woo_28 : decode cX3_woo 28 = .ok (.aload_n 0, 1) := by decide +kernel
theorem dX3_woo_29 : decode cX3_woo 29 = .ok (.iconst 5, 1) := by decide +kernel
theorem dX3_woo_30 : decode cX3_woo 30 = .ok (.invokevirtual 219, 3) := by decide +kernel
theorem dX3_woo_33 : decode cX3_woo 33 = .ok (.bipush 60, 2) := by decide +kernel
theorem dX3_woo_35 : decode cX3_woo 35 = .ok (.ireturn, 1) := by decide +kernel
theorem dX3_woo_36 : decode cX3_woo 36 = .ok (.aload_n 0, 1) := by decide +kernel
theorem dX3_woo_37 : decode cX3_woo 37 = .ok (.iconst 4, 1) := by decide +kernel
theorem dX3_woo_38 : decode cX3_woo 38 = .ok (.invokevirtual 219, 3) := by decide +kernel
theorem dX3_woo_41 : decode cX3_woo 41 = .ok (.iload_n 1, 1) := by decide +kernel
theorem dX3_woo_42 : decode cX3_woo 42 = .ok (.ireturn, 1) := by decide +kernel
set_option maxRecDepth 20000 in
theorem ggX3_as_X2_hasWard : GoodIn wsX3_as wsX2_hasWard := goodIn_r _ [8, 9, 28, 29, 30, 31, 32, 33, 34, 35, 36, 37, 38, 39, 40, 41, 42, 43, 44, 45] (by decide +kernel) (by decide +kernel)
set_option maxRecDepth 20000 in
theorem gX3_as_X2_hasWard : GoodIn wsX3_as (wsV RX3 76 RX2 yX2_hasWard wsX2_hasWard) := goodIn_app (goodIn_of _ (by decide +kernel)) ggX3_as_X2_hasWard
set_option maxRecDepth 20000 in
theorem ggX3_as_X3_isUpTo : GoodIn wsX3_as wsX3_isUpTo := goodIn_r _ [13] (by decide +kernel) (by decide +kernel)
set_option maxRecDepth 20000 in
theorem gX3_as_X3_isUpTo : GoodIn wsX3_as (va_wsS RX3 50 yX3_isUpTo wsX3_isUpTo) := goodIn_app (goodIn_of _ (by decide +kernel)) ggX3_as_X3_isUpTo
set_option maxRecDepth 20000 in
theorem ggX3_as_X3_read : GoodIn wsX3_as wsX3_read := goodIn_r _ [16] (by decide +kernel) (by decide +kernel)
set_option maxRecDepth 20000 in
theorem gX3_as_X3_read : GoodIn wsX3_as (va_wsS RX3 83 yX3_read wsX3_read) := goodIn_app (goodIn_of _ (by decide +kernel)) ggX3_as_X3_read
set_option maxRecDepth 20000 in
theorem ggX3_as_X3_fail : GoodIn wsX3_as wsX3_fail := goodIn_r _ [20, 1, 21, 22, 23, 24, 25, 26, 27] (by decide +kernel) (by decide +kernel)
set_option maxRecDepth 20000 in
theorem gX3_as_X3_fail : GoodIn wsX3_as (wsV RX3 58 RX3 yX3_fail wsX3_fail) := goodIn_app (goodIn_of _ (by decide +kernel)) ggX3_as_X3_fail
theorem dX3_as_0 : decode cX3_as 0 = .ok (.aload_n 0, 1) := by decide +kernel
theorem dX3_as_1 : decode cX3_as 1 = .ok (.iconst 0, 1) := by decide +kernel
theorem dX3_as_2 : decode cX3_as 2 = .ok (.putfield 42, 3) := by decide +kernel
theorem dX3_as_5 : decode cX3_as 5 = .ok (.aload_n 0, 1) := by decide +kernel
theorem dX3_as_6 : decode cX3_as 6 = .ok (.getfield 31, 3) := by decide +kernel
theorem dX3_as_9 : decode cX3_as 9 = .ok (.iload_n 1, 1) := by decide +kernel
theorem dX3_as_10 : decode cX3_as 10 = .ok (.invokevirtual 76, 3) := by decide +kernel
theorem dX3_as_13 : decode cX3_as 13 = .ok (.ifCond .ne 5, 3) := by decide +kernel
theorem dX3_as_16 : decode cX3_as 16 = .ok (.iconst (-1), 1) := by decide +kernel
theorem dX3_as_17 : decode cX3_as 17 = .ok (.ireturn, 1) := by decide +kernel
theorem dX3_as_18 : decode cX3_as 18 = .ok (.iload_n 2, 1) := by decide +kernel
theorem dX3_as_19 : decode cX3_as 19 = .ok (.iconst 2, 1) := by decide +kernel
theorem dX3_as_20 : decode cX3_as 20 = .ok (.invokestatic 50, 3) := by decide +kernel
theorem dX3_as_23 : decode cX3_as 23 = .ok (.ifCond .ne 6, 3) := by decide +kernel
theorem dX3_as_26 : decode cX3_as 26 = .ok (.bipush (-2), 2) := by decide +kernel
theorem dX3_as_28 : decode cX3_as 28 = .ok (.ireturn, 1) := by decide +kernel
theorem dX3_as_29 : decode cX3_as 29 = .ok (.aload_n 0, 1) := by decide +kernel
theorem dX3_as_30 : decode cX3_as 30 = .ok (.getfield 31, 3) := by decide +kernel
theorem dX3_as_33 : decode cX3_as 33 = .ok (.getfield 80, 3) := by decide +kernel
theorem dX3_as_36 : decode cX3_as 36 = .ok (.iload_n 1, 1) := by decide +kernel
theorem dX3_as_37 : decode cX3_as 37 = .ok (.invokestatic 83, 3) := by decide +kernel
theorem dX3_as_40 : decode cX3_as 40 = .ok (.iload_n 2, 1) := by decide +kernel
theorem dX3_as_41 : decode cX3_as 41 = .ok (.if_icmp .lt 7, 3) := by decide +kernel
theorem dX3_as_44 : decode cX3_as 44 = .ok (.iconst 1, 1) := by decide +kernel
theorem dX3_as_45 : decode cX3_as 45 = .ok (.goto 8, 3) := by decide +kernel
theorem dX3_as_48 : decode cX3_as 48 = .ok (.aload_n 0, 1) := by decide +kernel
theorem dX3_as_49 : decode cX3_as 49 = .ok (.iconst 2, 1) := by decide +kernel
theorem dX3_as_50 : decode cX3_as 50 = .ok (.invokevirtual 58, 3) := by decide +kernel
theorem dX3_as_53 : decode cX3_as 53 = .ok (.ireturn, 1) := by decide +kernel
theorem dX3_trace_0 : decode cX3_trace 0 = .ok (.aload_n 0, 1) := by decide +kernel
theorem dX3_trace_1 : decode cX3_trace 1 = .ok (.getfield 38, 3) := by decide +kernel
theorem dX3_trace_4 : decode cX3_trace 4 = .ok (.ireturn, 1) := by decide +kernel
theorem dX3_fault_0 : decode cX3_fault 0 = .ok (.aload_n 0, 1) := by decide +kernel
theorem dX3_fault_1 : decode cX3_fault 1 = .ok (.getfield 42, 3) := by decide +kernel
theorem dX3_fault_4 : decode cX3_fault 4 = .ok (.ireturn, 1) := by decide +kernel
theorem dX3_many_0 : decode cX3_many 0 = .ok (.iload_n 1, 1) := by decide +kernel
theorem dX3_many_1 : decode cX3_many 1 = .ok (.tableswitch 75 0 4 #[35, 43, 51, 59, 67], 35) := by decide +kernel
theorem dX3_many_36 : decode cX3_many 36 = .ok (.aload_n 0, 1) := by decide +kernel
theorem dX3_many_37 : decode cX3_many 37 = .ok (.getfield 31, 3) := by decide +kernel
theorem dX3_many_40 : decode cX3_many 40 = .ok (.getfield 223, 3) := by decide +kernel
theorem dX3_many_43 : decode cX3_many 43 = .ok (.ireturn, 1) := by decide +kernel
theorem dX3_many_44 : decode cX3_many 44 = .ok (.aload_n 0, 1) := by decide +kernel
theorem dX3_many_45 : decode cX3_many 45 = .ok (.getfield 31, 3) := by decide +kernel
theorem dX3_many_48 : decode cX3_many 48 = .ok (.getfield 134, 3) := by decide +kernel
theorem dX3_many_51 : decode cX3_many 51 = .ok (.ireturn, 1) := by decide +kernel
theorem dX3_many_52 : decode cX3_many 52 = .ok (.aload_n 0, 1) := by decide +kernel
theorem dX3_many_53 : decode cX3_many 53 = .ok (.getfield 31, 3) := by decide +kernel
theorem dX3_many_56 : decode cX3_many 56 = .ok (.getfield 73, 3) := by decide +kernel
theorem dX3_many_59 : decode cX3_many 59 = .ok (.ireturn, 1) := by decide +kernel
theorem dX3_many_60 : decode cX3_many 60 = .ok (.aload_n 0, 1) := by decide +kernel
theorem dX3_many_61 : decode cX3_many 61 = .ok (.getfield 31, 3) := by decide +kernel
theorem dX3_many_64 : decode cX3_many 64 = .ok (.getfield 116, 3) := by decide +kernel
theorem dX3_many_67 : decode cX3_many 67 = .ok (.ireturn, 1) := by decide +kernel
theorem dX3_many_68 : decode cX3_many 68 = .ok (.aload_n 0, 1) := by decide +kernel
theorem dX3_many_69 : decode cX3_many 69 = .ok (.getfield 31, 3) := by decide +kernel
theorem dX3_many_72 : decode cX3_many 72 = .ok (.getfield 166, 3) := by decide +kernel
theorem dX3_many_75 : decode cX3_many 75 = .ok (.ireturn, 1) := by decide +kernel
theorem dX3_many_76 : decode cX3_many 76 = .ok (.bipush (-2), 2) := by decide +kernel
theorem dX3_many_78 : decode cX3_many 78 = .ok (.ireturn, 1) := by decide +kernel
theorem dX3_isUpTo_0 : decode cX3_isUpTo 0 = .ok (.iload_n 0, 1) := by decide +kernel
theorem dX3_isUpTo_1 : decode cX3_isUpTo 1 = .ok (.ifCond .lt 12, 3) := by decide +kernel
theorem dX3_isUpTo_4 : decode cX3_isUpTo 4 = .ok (.iload_n 0, 1) := by decide +kernel
theorem dX3_isUpTo_5 : decode cX3_isUpTo 5 = .ok (.iload_n 1, 1) := by decide +kernel
theorem dX3_isUpTo_6 : decode cX3_isUpTo 6 = .ok (.if_icmp .gt 7, 3) := by decide +kernel
theorem dX3_isUpTo_9 : decode cX3_isUpTo 9 = .ok (.iconst 1, 1) := by decide +kernel
theorem dX3_isUpTo_10 : decode cX3_isUpTo 10 = .ok (.goto 4, 3) := by decide +kernel
theorem dX3_isUpTo_13 : decode cX3_isUpTo 13 = .ok (.iconst 0, 1) := by decide +kernel
theorem dX3_isUpTo_14 : decode cX3_isUpTo 14 = .ok (.ireturn, 1) := by decide +kernel
theorem dX3_read_0 : decode cX3_read 0 = .ok (.iload_n 1, 1) := by decide +kernel
theorem dX3_read_1 : decode cX3_read 1 = .ok (.ifCond .lt 15, 3) := by decide +kernel
theorem dX3_read_4 : decode cX3_read 4 = .ok (.iload_n 1, 1) := by decide +kernel
theorem dX3_read_5 : decode cX3_read 5 = .ok (.aload_n 0, 1) := by decide +kernel
theorem dX3_read_6 : decode cX3_read 6 = .ok (.arraylength, 1) := by decide +kernel
theorem dX3_read_7 : decode cX3_read 7 = .ok (.if_icmp .ge 9, 3) := by decide +kernel
theorem dX3_read_10 : decode cX3_read 10 = .ok (.aload_n 0, 1) := by decide +kernel
theorem dX3_read_11 : decode cX3_read 11 = .ok (.iload_n 1, 1) := by decide +kernel
theorem dX3_read_12 : decode cX3_read 12 = .ok (.iaload, 1) := by decide +kernel
theorem dX3_read_13 : decode cX3_read 13 = .ok (.goto 4, 3) := by decide +kernel
theorem dX3_read_16 : decode cX3_read 16 = .ok (.iconst 0, 1) := by decide +kernel
theorem dX3_read_17 : decode cX3_read 17 = .ok (.ireturn, 1) := by decide +kernel
theorem dX3_write_0 : decode cX3_write 0 = .ok (.iload_n 1, 1) := by decide +kernel
theorem dX3_write_1 : decode cX3_write 1 = .ok (.ifCond .lt 13, 3) := by decide +kernel
theorem dX3_write_4 : decode cX3_write 4 = .ok (.iload_n 1, 1) := by decide +kernel
theorem dX3_write_5 : decode cX3_write 5 = .ok (.aload_n 0, 1) := by decide +kernel
theorem dX3_write_6 : decode cX3_write 6 = .ok (.arraylength, 1) := by decide +kernel
theorem dX3_write_7 : decode cX3_write 7 = .ok (.if_icmp .ge 7, 3) := by decide +kernel
theorem dX3_write_10 : decode cX3_write 10 = .ok (.aload_n 0, 1) := by decide +kernel
theorem dX3_write_11 : decode cX3_write 11 = .ok (.iload_n 1, 1) := by decide +kernel
theorem dX3_write_12 : decode cX3_write 12 = .ok (.iload_n 2, 1) := by decide +kernel
theorem dX3_write_13 : decode cX3_write 13 = .ok (.iastore, 1) := by decide +kernel
theorem dX3_write_14 : decode cX3_write 14 = .ok (.return_, 1) := by decide +kernel
theorem dX3_sheetAt_0 : decode cX3_sheetAt 0 = .ok (.iload_n 1, 1) := by decide +kernel
theorem dX3_sheetAt_1 : decode cX3_sheetAt 1 = .ok (.ifCond .lt 21, 3) := by decide +kernel
theorem dX3_sheetAt_4 : decode cX3_sheetAt 4 = .ok (.iload_n 1, 1) := by decide +kernel
theorem dX3_sheetAt_5 : decode cX3_sheetAt 5 = .ok (.aload_n 0, 1) := by decide +kernel
theorem dX3_sheetAt_6 : decode cX3_sheetAt 6 = .ok (.getfield 13, 3) := by decide +kernel
theorem dX3_sheetAt_9 : decode cX3_sheetAt 9 = .ok (.arraylength, 1) := by decide +kernel
theorem dX3_sheetAt_10 : decode cX3_sheetAt 10 = .ok (.if_icmp .ge 12, 3) := by decide +kernel
theorem dX3_sheetAt_13 : decode cX3_sheetAt 13 = .ok (.aload_n 0, 1) := by decide +kernel
theorem dX3_sheetAt_14 : decode cX3_sheetAt 14 = .ok (.getfield 13, 3) := by decide +kernel
theorem dX3_sheetAt_17 : decode cX3_sheetAt 17 = .ok (.iload_n 1, 1) := by decide +kernel
theorem dX3_sheetAt_18 : decode cX3_sheetAt 18 = .ok (.aaload, 1) := by decide +kernel
theorem dX3_sheetAt_19 : decode cX3_sheetAt 19 = .ok (.goto 4, 3) := by decide +kernel
theorem dX3_sheetAt_22 : decode cX3_sheetAt 22 = .ok (.aconst_null, 1) := by decide +kernel
theorem dX3_sheetAt_23 : decode cX3_sheetAt 23 = .ok (.areturn, 1) := by decide +kernel
theorem dX3_fail_0 : decode cX3_fail 0 = .ok (.aload_n 0, 1) := by decide +kernel
theorem dX3_fail_1 : decode cX3_fail 1 = .ok (.iload_n 1, 1) := by decide +kernel
theorem dX3_fail_2 : decode cX3_fail 2 = .ok (.putfield 42, 3) := by decide +kernel
theorem dX3_fail_5 : decode cX3_fail 5 = .ok (.bipush (-10), 2) := by decide +kernel
theorem dX3_fail_7 : decode cX3_fail 7 = .ok (.iload_n 1, 1) := by decide +kernel
theorem dX3_fail_8 : decode cX3_fail 8 = .ok (.isub, 1) := by decide +kernel
theorem dX3_fail_9 : decode cX3_fail 9 = .ok (.ireturn, 1) := by decide +kernel
set_option maxRecDepth 20000 in
theorem ggX3_leastBy_X2_leastSetting : GoodIn wsX3_leastBy wsX2_leastSetting := goodIn_r _ [7, 8, 9, 10, 11, 6, 12, 13, 14, 15, 16, 17, 18, 19, 20, 21, 22, 23, 24, 25, 26, 27, 28, 29, 30, 31, 32, 33, 34, 35, 36, 37, 38, 39, 40, 41, 42, 43, 44, 45, 46, 47, 48, 49, 50, 51, 52, 53, 54, 55, 56, 57, 76, 77, 78, 79, 80, 81, 82, 83, 84, 85, 86, 87, 88, 89, 90, 91, 92, 93] (by decide +kernel) (by decide +kernel)
set_option maxRecDepth 20000 in
theorem gX3_leastBy_X2_leastSetting : GoodIn wsX3_leastBy (wsV RX3 226 RX2 yX2_leastSetting wsX2_leastSetting) := goodIn_app (goodIn_of _ (by decide +kernel)) ggX3_leastBy_X2_leastSetting
set_option maxRecDepth 20000 in
theorem ggX3_leastBy_X2_mostMindedBy : GoodIn wsX3_leastBy wsX2_mostMindedBy := goodIn_r _ [17, 18, 19, 20, 21, 22, 23, 24, 25, 6, 26, 27, 28, 29, 30, 31, 32, 33, 34, 35, 36, 37, 38, 39, 40, 13, 41, 42, 43, 44, 45, 46, 47, 48, 49, 50, 51, 52, 53, 76, 77, 78, 79, 80, 81, 82, 83, 84, 85, 86, 87, 88, 89, 90, 91, 92, 93] (by decide +kernel) (by decide +kernel)
set_option maxRecDepth 20000 in
theorem gX3_leastBy_X2_mostMindedBy : GoodIn wsX3_leastBy (wsV RX3 230 RX2 yX2_mostMindedBy wsX2_mostMindedBy) := goodIn_app (goodIn_of _ (by decide +kernel)) ggX3_leastBy_X2_mostMindedBy
set_option maxRecDepth 20000 in
theorem ggX3_leastBy_X2_burdenBy : GoodIn wsX3_leastBy wsX2_burdenBy := goodIn_r _ [57, 18, 23, 24, 25, 6, 26, 27, 28, 29, 30, 31, 32, 33, 34, 35, 36, 37, 38, 39, 40, 13, 41, 42, 19, 20, 21, 22, 43, 44, 45, 46, 47, 48, 49, 50, 51, 52, 53, 76, 77, 78, 79, 80, 81, 82, 83, 84, 85, 86, 87, 88, 89, 90, 91, 92, 93] (by decide +kernel) (by decide +kernel)
set_option maxRecDepth 20000 in
theorem gX3_leastBy_X2_burdenBy : GoodIn wsX3_leastBy (wsV RX3 131 RX2 yX2_burdenBy wsX2_burdenBy) := goodIn_app (goodIn_of _ (by decide +kernel)) ggX3_leastBy_X2_burdenBy
set_option maxRecDepth 20000 in
theorem ggX3_leastBy_X3_vaneOrNone : GoodIn wsX3_leastBy wsX3_vaneOrNone := goodIn_r _ [63, 1, 64, 65, 66, 6, 67, 13, 68, 48, 49, 50, 69, 70, 71, 72, 73, 74, 75, 76, 77, 78, 79, 80, 81, 82, 83, 84, 85, 86, 87, 88, 89, 90, 91, 92, 93] (by decide +kernel) (by decide +kernel)
set_option maxRecDepth 20000 in
theorem gX3_leastBy_X3_vaneOrNone : GoodIn wsX3_leastBy (wsV RX3 182 RX3 yX3_vaneOrNone wsX3_vaneOrNone) := goodIn_app (goodIn_of _ (by decide +kernel)) ggX3_leastBy_X3_vaneOrNone
theorem dX3_leastBy_0 : decode cX3_leastBy 0 = .ok (.iload_n 1, 1) := by decide +kernel
theorem dX3_leastBy_1 : decode cX3_leastBy 1 = .ok (.iconst (-1), 1) := by decide +kernel
theorem dX3_leastBy_2 : decode cX3_leastBy 2 = .ok (.if_icmp .ge 5, 3) := by decide +kernel
theorem dX3_leastBy_5 : decode cX3_leastBy 5 = .ok (.iconst (-1), 1) := by decide +kernel
theorem dX3_leastBy_6 : decode cX3_leastBy 6 = .ok (.ireturn, 1) := by decide +kernel
theorem dX3_leastBy_7 : decode cX3_leastBy 7 = .ok (.aload_n 0, 1) := by decide +kernel
theorem dX3_leastBy_8 : decode cX3_leastBy 8 = .ok (.getfield 31, 3) := by decide +kernel
theorem dX3_leastBy_11 : decode cX3_leastBy 11 = .ok (.getfield 112, 3) := by decide +kernel
theorem dX3_leastBy_14 : decode cX3_leastBy 14 = .ok (.ifCond .ne 6, 3) := by decide +kernel
theorem dX3_leastBy_17 : decode cX3_leastBy 17 = .ok (.bipush (-3), 2) := by decide +kernel
theorem dX3_leastBy_19 : decode cX3_leastBy 19 = .ok (.ireturn, 1) := by decide +kernel
theorem dX3_leastBy_20 : decode cX3_leastBy 20 = .ok (.aload_n 0, 1) := by decide +kernel
theorem dX3_leastBy_21 : decode cX3_leastBy 21 = .ok (.getfield 31, 3) := by decide +kernel
theorem dX3_leastBy_24 : decode cX3_leastBy 24 = .ok (.iload_n 2, 1) := by decide +kernel
theorem dX3_leastBy_25 : decode cX3_leastBy 25 = .ok (.invokevirtual 226, 3) := by decide +kernel
theorem dX3_leastBy_28 : decode cX3_leastBy 28 = .ok (.istore_n 3, 1) := by decide +kernel
theorem dX3_leastBy_29 : decode cX3_leastBy 29 = .ok (.iload_n 1, 1) := by decide +kernel
theorem dX3_leastBy_30 : decode cX3_leastBy 30 = .ok (.iconst (-1), 1) := by decide +kernel
theorem dX3_leastBy_31 : decode cX3_leastBy 31 = .ok (.if_icmp .ne 27, 3) := by decide +kernel
theorem dX3_leastBy_34 : decode cX3_leastBy 34 = .ok (.iload_n 2, 1) := by decide +kernel
theorem dX3_leastBy_35 : decode cX3_leastBy 35 = .ok (.ifCond .eq 14, 3) := by decide +kernel
theorem dX3_leastBy_38 : decode cX3_leastBy 38 = .ok (.aload_n 0, 1) := by decide +kernel
theorem dX3_leastBy_39 : decode cX3_leastBy 39 = .ok (.getfield 31, 3) := by decide +kernel
theorem dX3_leastBy_42 : decode cX3_leastBy 42 = .ok (.iload_n 3, 1) := by decide +kernel
theorem dX3_leastBy_43 : decode cX3_leastBy 43 = .ok (.invokevirtual 230, 3) := by decide +kernel
theorem dX3_leastBy_46 : decode cX3_leastBy 46 = .ok (.goto 11, 3) := by decide +kernel
theorem dX3_leastBy_49 : decode cX3_leastBy 49 = .ok (.aload_n 0, 1) := by decide +kernel
theorem dX3_leastBy_50 : decode cX3_leastBy 50 = .ok (.getfield 31, 3) := by decide +kernel
theorem dX3_leastBy_53 : decode cX3_leastBy 53 = .ok (.iload_n 3, 1) := by decide +kernel
theorem dX3_leastBy_54 : decode cX3_leastBy 54 = .ok (.invokevirtual 131, 3) := by decide +kernel
theorem dX3_leastBy_57 : decode cX3_leastBy 57 = .ok (.ireturn, 1) := by decide +kernel
theorem dX3_leastBy_58 : decode cX3_leastBy 58 = .ok (.aload_n 0, 1) := by decide +kernel
theorem dX3_leastBy_59 : decode cX3_leastBy 59 = .ok (.iload_n 3, 1) := by decide +kernel
theorem dX3_leastBy_60 : decode cX3_leastBy 60 = .ok (.iload_n 1, 1) := by decide +kernel
theorem dX3_leastBy_61 : decode cX3_leastBy 61 = .ok (.invokevirtual 182, 3) := by decide +kernel
theorem dX3_leastBy_64 : decode cX3_leastBy 64 = .ok (.ireturn, 1) := by decide +kernel
set_option maxRecDepth 20000 in
theorem ggX3_vaneOrNone_X2_hasWork : GoodIn wsX3_vaneOrNone wsX2_hasWork := goodIn_r _ [6, 7, 19, 20, 21, 22, 23, 24, 25, 26, 27, 28, 29, 30, 31, 32, 33, 34, 35, 36] (by decide +kernel) (by decide +kernel)
set_option maxRecDepth 20000 in
theorem gX3_vaneOrNone_X2_hasWork : GoodIn wsX3_vaneOrNone (wsV RX3 96 RX2 yX2_hasWork wsX2_hasWork) := goodIn_app (goodIn_of _ (by decide +kernel)) ggX3_vaneOrNone_X2_hasWork
set_option maxRecDepth 20000 in
theorem ggX3_vaneOrNone_X2_vaneIn : GoodIn wsX3_vaneOrNone wsX2_vaneIn := goodIn_r _ [11, 7, 19, 20, 21, 22, 23, 24, 25, 26, 27, 28, 29, 30, 31, 32, 33, 34, 35, 36] (by decide +kernel) (by decide +kernel)
set_option maxRecDepth 20000 in
theorem gX3_vaneOrNone_X2_vaneIn : GoodIn wsX3_vaneOrNone (wsV RX3 108 RX2 yX2_vaneIn wsX2_vaneIn) := goodIn_app (goodIn_of _ (by decide +kernel)) ggX3_vaneOrNone_X2_vaneIn
theorem dX3_vaneOrNone_0 : decode cX3_vaneOrNone 0 = .ok (.aload_n 0, 1) := by decide +kernel
theorem dX3_vaneOrNone_1 : decode cX3_vaneOrNone 1 = .ok (.getfield 31, 3) := by decide +kernel
theorem dX3_vaneOrNone_4 : decode cX3_vaneOrNone 4 = .ok (.iload_n 2, 1) := by decide +kernel
theorem dX3_vaneOrNone_5 : decode cX3_vaneOrNone 5 = .ok (.invokevirtual 96, 3) := by decide +kernel
theorem dX3_vaneOrNone_8 : decode cX3_vaneOrNone 8 = .ok (.ifCond .eq 15, 3) := by decide +kernel
theorem dX3_vaneOrNone_11 : decode cX3_vaneOrNone 11 = .ok (.aload_n 0, 1) := by decide +kernel
theorem dX3_vaneOrNone_12 : decode cX3_vaneOrNone 12 = .ok (.getfield 31, 3) := by decide +kernel
theorem dX3_vaneOrNone_15 : decode cX3_vaneOrNone 15 = .ok (.iload_n 1, 1) := by decide +kernel
theorem dX3_vaneOrNone_16 : decode cX3_vaneOrNone 16 = .ok (.iload_n 2, 1) := by decide +kernel
theorem dX3_vaneOrNone_17 : decode cX3_vaneOrNone 17 = .ok (.invokevirtual 108, 3) := by decide +kernel
theorem dX3_vaneOrNone_20 : decode cX3_vaneOrNone 20 = .ok (.goto 5, 3) := by decide +kernel
theorem dX3_vaneOrNone_23 : decode cX3_vaneOrNone 23 = .ok (.bipush (-9), 2) := by decide +kernel
theorem dX3_vaneOrNone_25 : decode cX3_vaneOrNone 25 = .ok (.ireturn, 1) := by decide +kernel
theorem dX3_leave_0 : decode cX3_leave 0 = .ok (.aload_n 0, 1) := by decide +kernel
theorem dX3_leave_1 : decode cX3_leave 1 = .ok (.bipush 31, 2) := by decide +kernel
theorem dX3_leave_3 : decode cX3_leave 3 = .ok (.aload_n 0, 1) := by decide +kernel
theorem dX3_leave_4 : decode cX3_leave 4 = .ok (.getfield 38, 3) := by decide +kernel
theorem dX3_leave_7 : decode cX3_leave 7 = .ok (.imul, 1) := by decide +kernel
theorem dX3_leave_8 : decode cX3_leave 8 = .ok (.iload_n 1, 1) := by decide +kernel
theorem dX3_leave_9 : decode cX3_leave 9 = .ok (.iadd, 1) := by decide +kernel
theorem dX3_leave_10 : decode cX3_leave 10 = .ok (.putfield 38, 3) := by decide +kernel
theorem dX3_leave_13 : decode cX3_leave 13 = .ok (.return_, 1) := by decide +kernel
set_option maxRecDepth 20000 in
theorem ggX3_tellWard_X3_leave : GoodIn wsX3_tellWard wsX3_leave := goodIn_r _ [7, 8, 12, 13, 14, 15, 16, 17, 18] (by decide +kernel) (by decide +kernel)
set_option maxRecDepth 20000 in
theorem gX3_tellWard_X3_leave : GoodIn wsX3_tellWard (wsV RX3 219 RX3 yX3_leave wsX3_leave) := goodIn_app (goodIn_of _ (by decide +kernel)) ggX3_tellWard_X3_leave
set_option maxRecDepth 20000 in
theorem ggX3_tellWard_X3_read : GoodIn wsX3_tellWard wsX3_read := goodIn_r _ [11] (by decide +kernel) (by decide +kernel)
set_option maxRecDepth 20000 in
theorem gX3_tellWard_X3_read : GoodIn wsX3_tellWard (va_wsS RX3 83 yX3_read wsX3_read) := goodIn_app (goodIn_of _ (by decide +kernel)) ggX3_tellWard_X3_read
theorem dX3_tellWard_0 : decode cX3_tellWard 0 = .ok (.aload_n 0, 1) := by decide +kernel
theorem dX3_tellWard_1 : decode cX3_tellWard 1 = .ok (.iconst 1, 1) := by decide +kernel
theorem dX3_tellWard_2 : decode cX3_tellWard 2 = .ok (.invokevirtual 219, 3) := by decide +kernel
theorem dX3_tellWard_5 : decode cX3_tellWard 5 = .ok (.aload_n 0, 1) := by decide +kernel
theorem dX3_tellWard_6 : decode cX3_tellWard 6 = .ok (.getfield 31, 3) := by decide +kernel
theorem dX3_tellWard_9 : decode cX3_tellWard 9 = .ok (.getfield 87, 3) := by decide +kernel
theorem dX3_tellWard_12 : decode cX3_tellWard 12 = .ok (.iload_n 1, 1) := by decide +kernel
theorem dX3_tellWard_13 : decode cX3_tellWard 13 = .ok (.invokestatic 83, 3) := by decide +kernel
theorem dX3_tellWard_16 : decode cX3_tellWard 16 = .ok (.ireturn, 1) := by decide +kernel
set_option maxRecDepth 20000 in
theorem ggX3_tellRich_X3_leave : GoodIn wsX3_tellRich wsX3_leave := goodIn_r _ [5, 6, 16, 17, 18, 19, 20, 21, 22] (by decide +kernel) (by decide +kernel)
set_option maxRecDepth 20000 in
theorem gX3_tellRich_X3_leave : GoodIn wsX3_tellRich (wsV RX3 219 RX3 yX3_leave wsX3_leave) := goodIn_app (goodIn_of _ (by decide +kernel)) ggX3_tellRich_X3_leave
set_option maxRecDepth 20000 in
theorem ggX3_tellRich_X3_tellWard : GoodIn wsX3_tellRich wsX3_tellWard := goodIn_r _ [10, 11, 12, 1, 2, 3, 4, 5, 6, 13, 14, 15, 16, 17, 18, 19, 20, 21, 22, 23, 24, 25, 26, 27, 28, 29, 30, 31, 32, 33, 34, 35, 36, 37, 38, 39, 40] (by decide +kernel) (by decide +kernel)
set_option maxRecDepth 20000 in
theorem gX3_tellRich_X3_tellWard : GoodIn wsX3_tellRich (wsV RX3 216 RX3 yX3_tellWard wsX3_tellWard) := goodIn_app (goodIn_of _ (by decide +kernel)) ggX3_tellRich_X3_tellWard
theorem dX3_tellRich_0 : decode cX3_tellRich 0 = .ok (.aload_n 0, 1) := by decide +kernel
theorem dX3_tellRich_1 : decode cX3_tellRich 1 = .ok (.iconst 2, 1) := by decide +kernel
theorem dX3_tellRich_2 : decode cX3_tellRich 2 = .ok (.invokevirtual 219, 3) := by decide +kernel
theorem dX3_tellRich_5 : decode cX3_tellRich 5 = .ok (.aload_n 0, 1) := by decide +kernel
theorem dX3_tellRich_6 : decode cX3_tellRich 6 = .ok (.iload_n 1, 1) := by decide +kernel
theorem dX3_tellRich_7 : decode cX3_tellRich 7 = .ok (.invokevirtual 216, 3) := by decide +kernel
theorem dX3_tellRich_10 : decode cX3_tellRich 10 = .ok (.bipush 100, 2) := by decide +kernel
theorem dX3_tellRich_12 : decode cX3_tellRich 12 = .ok (.iadd, 1) := by decide +kernel
theorem dX3_tellRich_13 : decode cX3_tellRich 13 = .ok (.ireturn, 1) := by decide +kernel
set_option maxRecDepth 20000 in
theorem ggX3_tellFine_X3_leave : GoodIn wsX3_tellFine wsX3_leave := goodIn_r _ [5, 6, 20, 21, 22, 23, 24, 25, 26] (by decide +kernel) (by decide +kernel)
set_option maxRecDepth 20000 in
theorem gX3_tellFine_X3_leave : GoodIn wsX3_tellFine (wsV RX3 219 RX3 yX3_leave wsX3_leave) := goodIn_app (goodIn_of _ (by decide +kernel)) ggX3_tellFine_X3_leave
set_option maxRecDepth 20000 in
theorem ggX3_tellFine_X3_tellRich : GoodIn wsX3_tellFine wsX3_tellRich := goodIn_r _ [10, 1, 2, 3, 4, 5, 6, 11, 12, 13, 14, 15, 16, 17, 18, 19, 20, 21, 22, 23, 24, 25, 26, 27, 28, 29, 30, 31, 32, 33, 34, 35, 36, 37, 38, 39, 40, 41, 42, 43, 44] (by decide +kernel) (by decide +kernel)
set_option maxRecDepth 20000 in
theorem gX3_tellFine_X3_tellRich : GoodIn wsX3_tellFine (wsV RX3 213 RX3 yX3_tellRich wsX3_tellRich) := goodIn_app (goodIn_of _ (by decide +kernel)) ggX3_tellFine_X3_tellRich
set_option maxRecDepth 20000 in
theorem ggX3_tellFine_X3_tellWard : GoodIn wsX3_tellFine wsX3_tellWard := goodIn_r _ [14, 15, 16, 1, 2, 3, 4, 5, 6, 17, 18, 19, 20, 21, 22, 23, 24, 25, 26, 27, 28, 29, 30, 31, 32, 33, 34, 35, 36, 37, 38, 39, 40, 41, 42, 43, 44] (by decide +kernel) (by decide +kernel)
set_option maxRecDepth 20000 in
theorem gX3_tellFine_X3_tellWard : GoodIn wsX3_tellFine (wsV RX3 216 RX3 yX3_tellWard wsX3_tellWard) := goodIn_app (goodIn_of _ (by decide +kernel)) ggX3_tellFine_X3_tellWard
theorem dX3_tellFine_0 : decode cX3_tellFine 0 = .ok (.aload_n 0, 1) := by decide +kernel
theorem dX3_tellFine_1 : decode cX3_tellFine 1 = .ok (.iconst 3, 1) := by decide +kernel
theorem dX3_tellFine_2 : decode cX3_tellFine 2 = .ok (.invokevirtual 219, 3) := by decide +kernel
theorem dX3_tellFine_5 : decode cX3_tellFine 5 = .ok (.aload_n 0, 1) := by decide +kernel
theorem dX3_tellFine_6 : decode cX3_tellFine 6 = .ok (.iload_n 1, 1) := by decide +kernel
theorem dX3_tellFine_7 : decode cX3_tellFine 7 = .ok (.invokevirtual 213, 3) := by decide +kernel
theorem dX3_tellFine_10 : decode cX3_tellFine 10 = .ok (.istore_n 2, 1) := by decide +kernel
theorem dX3_tellFine_11 : decode cX3_tellFine 11 = .ok (.iload_n 2, 1) := by decide +kernel
theorem dX3_tellFine_12 : decode cX3_tellFine 12 = .ok (.aload_n 0, 1) := by decide +kernel
theorem dX3_tellFine_13 : decode cX3_tellFine 13 = .ok (.iload_n 1, 1) := by decide +kernel
theorem dX3_tellFine_14 : decode cX3_tellFine 14 = .ok (.invokevirtual 216, 3) := by decide +kernel
theorem dX3_tellFine_17 : decode cX3_tellFine 17 = .ok (.iadd, 1) := by decide +kernel
theorem dX3_tellFine_18 : decode cX3_tellFine 18 = .ok (.ireturn, 1) := by decide +kernel
end
section
theorem dX4_init_0 : decode cX4_init 0 = .ok (.aload_n 0, 1) := by decide +kernel
theorem dX4_init_1 : decode cX4_init 1 = .ok (.invokespecial 1, 3) := by decide +kernel
theorem dX4_init_4 : decode cX4_init 4 = .ok (.aload_n 0, 1) := by decide +kernel
theorem dX4_init_5 : decode cX4_init 5 = .ok (.iconst 4, 1) := by decide +kernel
theorem dX4_init_6 : decode cX4_init 6 = .ok (.newarray .int, 2) := by decide +kernel
theorem dX4_init_8 : decode cX4_init 8 = .ok (.putfield 7, 3) := by decide +kernel
theorem dX4_init_11 : decode cX4_init 11 = .ok (.aload_n 0, 1) := by decide +kernel
theorem dX4_init_12 : decode cX4_init 12 = .ok (.iconst 4, 1) := by decide +kernel
theorem dX4_init_13 : decode cX4_init 13 = .ok (.newarray .int, 2) := by decide +kernel
theorem dX4_init_15 : decode cX4_init 15 = .ok (.putfield 13, 3) := by decide +kernel
theorem dX4_init_18 : decode cX4_init 18 = .ok (.aload_n 0, 1) := by decide +kernel
theorem dX4_init_19 : decode cX4_init 19 = .ok (.iconst 4, 1) := by decide +kernel
theorem dX4_init_20 : decode cX4_init 20 = .ok (.newarray .int, 2) := by decide +kernel
theorem dX4_init_22 : decode cX4_init 22 = .ok (.putfield 16, 3) := by decide +kernel
theorem dX4_init_25 : decode cX4_init 25 = .ok (.aload_n 0, 1) := by decide +kernel
theorem dX4_init_26 : decode cX4_init 26 = .ok (.bipush 6, 2) := by decide +kernel
theorem dX4_init_28 : decode cX4_init 28 = .ok (.newarray .int, 2) := by decide +kernel
theorem dX4_init_30 : decode cX4_init 30 = .ok (.putfield 19, 3) := by decide +kernel
theorem dX4_init_33 : decode cX4_init 33 = .ok (.aload_n 0, 1) := by decide +kernel
theorem dX4_init_34 : decode cX4_init 34 = .ok (.bipush 6, 2) := by decide +kernel
theorem dX4_init_36 : decode cX4_init 36 = .ok (.newarray .int, 2) := by decide +kernel
theorem dX4_init_38 : decode cX4_init 38 = .ok (.putfield 22, 3) := by decide +kernel
theorem dX4_init_41 : decode cX4_init 41 = .ok (.aload_n 0, 1) := by decide +kernel
theorem dX4_init_42 : decode cX4_init 42 = .ok (.bipush 6, 2) := by decide +kernel
theorem dX4_init_44 : decode cX4_init 44 = .ok (.newarray .int, 2) := by decide +kernel
theorem dX4_init_46 : decode cX4_init 46 = .ok (.putfield 25, 3) := by decide +kernel
theorem dX4_init_49 : decode cX4_init 49 = .ok (.aload_n 0, 1) := by decide +kernel
theorem dX4_init_50 : decode cX4_init 50 = .ok (.iconst 4, 1) := by decide +kernel
theorem dX4_init_51 : decode cX4_init 51 = .ok (.newarray .int, 2) := by decide +kernel
theorem dX4_init_53 : decode cX4_init 53 = .ok (.putfield 28, 3) := by decide +kernel
theorem dX4_init_56 : decode cX4_init 56 = .ok (.aload_n 0, 1) := by decide +kernel
theorem dX4_init_57 : decode cX4_init 57 = .ok (.iconst 4, 1) := by decide +kernel
theorem dX4_init_58 : decode cX4_init 58 = .ok (.newarray .int, 2) := by decide +kernel
theorem dX4_init_60 : decode cX4_init 60 = .ok (.putfield 31, 3) := by decide +kernel
theorem dX4_init_63 : decode cX4_init 63 = .ok (.aload_n 0, 1) := by decide +kernel
theorem dX4_init_64 : decode cX4_init 64 = .ok (.bipush 6, 2) := by decide +kernel
theorem dX4_init_66 : decode cX4_init 66 = .ok (.newarray .int, 2) := by decide +kernel
theorem dX4_init_68 : decode cX4_init 68 = .ok (.putfield 34, 3) := by decide +kernel
theorem dX4_init_71 : decode cX4_init 71 = .ok (.aload_n 0, 1) := by decide +kernel
theorem dX4_init_72 : decode cX4_init 72 = .ok (.bipush 6, 2) := by decide +kernel
theorem dX4_init_74 : decode cX4_init 74 = .ok (.newarray .int, 2) := by decide +kernel
theorem dX4_init_76 : decode cX4_init 76 = .ok (.putfield 37, 3) := by decide +kernel
theorem dX4_init_79 : decode cX4_init 79 = .ok (.aload_n 0, 1) := by decide +kernel
theorem dX4_init_80 : decode cX4_init 80 = .ok (.bipush 6, 2) := by decide +kernel
theorem dX4_init_82 : decode cX4_init 82 = .ok (.newarray .int, 2) := by decide +kernel
theorem dX4_init_84 : decode cX4_init 84 = .ok (.putfield 40, 3) := by decide +kernel
theorem dX4_init_87 : decode cX4_init 87 = .ok (.aload_n 0, 1) := by decide +kernel
theorem dX4_init_88 : decode cX4_init 88 = .ok (.sipush 256, 3) := by decide +kernel
theorem dX4_init_91 : decode cX4_init 91 = .ok (.newarray .int, 2) := by decide +kernel
theorem dX4_init_93 : decode cX4_init 93 = .ok (.putfield 43, 3) := by decide +kernel
theorem dX4_init_96 : decode cX4_init 96 = .ok (.aload_n 0, 1) := by decide +kernel
theorem dX4_init_97 : decode cX4_init 97 = .ok (.bipush 8, 2) := by decide +kernel
theorem dX4_init_99 : decode cX4_init 99 = .ok (.newarray .int, 2) := by decide +kernel
theorem dX4_init_101 : decode cX4_init 101 = .ok (.putfield 46, 3) := by decide +kernel
theorem dX4_init_104 : decode cX4_init 104 = .ok (.aload_n 0, 1) := by decide +kernel
theorem dX4_init_105 : decode cX4_init 105 = .ok (.bipush 8, 2) := by decide +kernel
theorem dX4_init_107 : decode cX4_init 107 = .ok (.newarray .int, 2) := by decide +kernel
theorem dX4_init_109 : decode cX4_init 109 = .ok (.putfield 49, 3) := by decide +kernel
theorem dX4_init_112 : decode cX4_init 112 = .ok (.aload_n 0, 1) := by decide +kernel
theorem dX4_init_113 : decode cX4_init 113 = .ok (.iconst 4, 1) := by decide +kernel
theorem dX4_init_114 : decode cX4_init 114 = .ok (.newarray .int, 2) := by decide +kernel
theorem dX4_init_116 : decode cX4_init 116 = .ok (.putfield 52, 3) := by decide +kernel
theorem dX4_init_119 : decode cX4_init 119 = .ok (.aload_n 0, 1) := by decide +kernel
theorem dX4_init_120 : decode cX4_init 120 = .ok (.iconst 4, 1) := by decide +kernel
theorem dX4_init_121 : decode cX4_init 121 = .ok (.newarray .int, 2) := by decide +kernel
theorem dX4_init_123 : decode cX4_init 123 = .ok (.putfield 55, 3) := by decide +kernel
theorem dX4_init_126 : decode cX4_init 126 = .ok (.aload_n 0, 1) := by decide +kernel
theorem dX4_init_127 : decode cX4_init 127 = .ok (.sipush 240, 3) := by decide +kernel
theorem dX4_init_130 : decode cX4_init 130 = .ok (.newarray .int, 2) := by decide +kernel
theorem dX4_init_132 : decode cX4_init 132 = .ok (.putfield 58, 3) := by decide +kernel
theorem dX4_init_135 : decode cX4_init 135 = .ok (.aload_n 0, 1) := by decide +kernel
theorem dX4_init_136 : decode cX4_init 136 = .ok (.bipush 60, 2) := by decide +kernel
theorem dX4_init_138 : decode cX4_init 138 = .ok (.newarray .int, 2) := by decide +kernel
theorem dX4_init_140 : decode cX4_init 140 = .ok (.putfield 61, 3) := by decide +kernel
theorem dX4_init_143 : decode cX4_init 143 = .ok (.iconst 0, 1) := by decide +kernel
theorem dX4_init_144 : decode cX4_init 144 = .ok (.istore_n 1, 1) := by decide +kernel
theorem dX4_init_145 : decode cX4_init 145 = .ok (.iload_n 1, 1) := by decide +kernel
theorem dX4_init_146 : decode cX4_init 146 = .ok (.iconst 4, 1) := by decide +kernel
theorem dX4_init_147 : decode cX4_init 147 = .ok (.if_icmp .ge 16, 3) := by decide +kernel
theorem dX4_init_150 : decode cX4_init 150 = .ok (.aload_n 0, 1) := by decide +kernel
theorem dX4_init_151 : decode cX4_init 151 = .ok (.getfield 52, 3) := by decide +kernel
theorem dX4_init_154 : decode cX4_init 154 = .ok (.iload_n 1, 1) := by decide +kernel
theorem dX4_init_155 : decode cX4_init 155 = .ok (.iconst (-1), 1) := by decide +kernel
theorem dX4_init_156 : decode cX4_init 156 = .ok (.iastore, 1) := by decide +kernel
theorem dX4_init_157 : decode cX4_init 157 = .ok (.iinc 1 1, 3) := by decide +kernel
theorem dX4_init_160 : decode cX4_init 160 = .ok (.goto (-15), 3) := by decide +kernel
theorem dX4_init_163 : decode cX4_init 163 = .ok (.return_, 1) := by decide +kernel
theorem dX4_in_0 : decode cX4_in 0 = .ok (.lload_n 0, 1) := by decide +kernel
theorem dX4_in_1 : decode cX4_in 1 = .ok (.lload_n 2, 1) := by decide +kernel
theorem dX4_in_2 : decode cX4_in 2 = .ok (.lcmp, 1) := by decide +kernel
theorem dX4_in_3 : decode cX4_in 3 = .ok (.ifCond .lt 14, 3) := by decide +kernel
theorem dX4_in_6 : decode cX4_in 6 = .ok (.lload_n 0, 1) := by decide +kernel
theorem dX4_in_7 : decode cX4_in 7 = .ok (.lload 4, 2) := by decide +kernel
theorem dX4_in_9 : decode cX4_in 9 = .ok (.lcmp, 1) := by decide +kernel
theorem dX4_in_10 : decode cX4_in 10 = .ok (.ifCond .gt 7, 3) := by decide +kernel
theorem dX4_in_13 : decode cX4_in 13 = .ok (.iconst 1, 1) := by decide +kernel
theorem dX4_in_14 : decode cX4_in 14 = .ok (.goto 4, 3) := by decide +kernel
theorem dX4_in_17 : decode cX4_in 17 = .ok (.iconst 0, 1) := by decide +kernel
theorem dX4_in_18 : decode cX4_in 18 = .ok (.ireturn, 1) := by decide +kernel
theorem dX4_lost_0 : decode cX4_lost 0 = .ok (.ldc2_w 64, 3) := by decide +kernel
theorem dX4_lost_3 : decode cX4_lost 3 = .ok (.lreturn, 1) := by decide +kernel
theorem dX4_isIn_0 : decode cX4_isIn 0 = .ok (.iload_n 0, 1) := by decide +kernel
theorem dX4_isIn_1 : decode cX4_isIn 1 = .ok (.iload_n 1, 1) := by decide +kernel
theorem dX4_isIn_2 : decode cX4_isIn 2 = .ok (.ishr, 1) := by decide +kernel
theorem dX4_isIn_3 : decode cX4_isIn 3 = .ok (.iconst 1, 1) := by decide +kernel
theorem dX4_isIn_4 : decode cX4_isIn 4 = .ok (.iand, 1) := by decide +kernel
theorem dX4_isIn_5 : decode cX4_isIn 5 = .ok (.iconst 1, 1) := by decide +kernel
theorem dX4_isIn_6 : decode cX4_isIn 6 = .ok (.if_icmp .ne 7, 3) := by decide +kernel
theorem dX4_isIn_9 : decode cX4_isIn 9 = .ok (.iconst 1, 1) := by decide +kernel
theorem dX4_isIn_10 : decode cX4_isIn 10 = .ok (.goto 4, 3) := by decide +kernel
theorem dX4_isIn_13 : decode cX4_isIn 13 = .ok (.iconst 0, 1) := by decide +kernel
theorem dX4_isIn_14 : decode cX4_isIn 14 = .ok (.ireturn, 1) := by decide +kernel
theorem dX4_bits_0 : decode cX4_bits 0 = .ok (.iconst 0, 1) := by decide +kernel
theorem dX4_bits_1 : decode cX4_bits 1 = .ok (.istore_n 1, 1) := by decide +kernel
theorem dX4_bits_2 : decode cX4_bits 2 = .ok (.iload_n 0, 1) := by decide +kernel
theorem dX4_bits_3 : decode cX4_bits 3 = .ok (.istore_n 2, 1) := by decide +kernel
theorem dX4_bits_4 : decode cX4_bits 4 = .ok (.iload_n 2, 1) := by decide +kernel
theorem dX4_bits_5 : decode cX4_bits 5 = .ok (.ifCond .le 16, 3) := by decide +kernel
theorem dX4_bits_8 : decode cX4_bits 8 = .ok (.iload_n 1, 1) := by decide +kernel
theorem dX4_bits_9 : decode cX4_bits 9 = .ok (.iload_n 2, 1) := by decide +kernel
theorem dX4_bits_10 : decode cX4_bits 10 = .ok (.iconst 1, 1) := by decide +kernel
theorem dX4_bits_11 : decode cX4_bits 11 = .ok (.iand, 1) := by decide +kernel
theorem dX4_bits_12 : decode cX4_bits 12 = .ok (.iadd, 1) := by decide +kernel
theorem dX4_bits_13 : decode cX4_bits 13 = .ok (.istore_n 1, 1) := by decide +kernel
theorem dX4_bits_14 : decode cX4_bits 14 = .ok (.iload_n 2, 1) := by decide +kernel
theorem dX4_bits_15 : decode cX4_bits 15 = .ok (.iconst 1, 1) := by decide +kernel
theorem dX4_bits_16 : decode cX4_bits 16 = .ok (.ishr, 1) := by decide +kernel
theorem dX4_bits_17 : decode cX4_bits 17 = .ok (.istore_n 2, 1) := by decide +kernel
theorem dX4_bits_18 : decode cX4_bits 18 = .ok (.goto (-14), 3) := by decide +kernel
theorem dX4_bits_21 : decode cX4_bits 21 = .ok (.iload_n 1, 1) := by decide +kernel
theorem dX4_bits_22 : decode cX4_bits 22 = .ok (.ireturn, 1) := by decide +kernel
theorem dX4_share_0 : decode cX4_share 0 = .ok (.lload_n 0, 1) := by decide +kernel
theorem dX4_share_1 : decode cX4_share 1 = .ok (.lstore 5, 2) := by decide +kernel
theorem dX4_share_3 : decode cX4_share 3 = .ok (.lload_n 2, 1) := by decide +kernel
theorem dX4_share_4 : decode cX4_share 4 = .ok (.lstore 7, 2) := by decide +kernel
theorem dX4_share_6 : decode cX4_share 6 = .ok (.lload 7, 2) := by decide +kernel
theorem dX4_share_8 : decode cX4_share 8 = .ok (.lconst 0, 1) := by decide +kernel
theorem dX4_share_9 : decode cX4_share 9 = .ok (.lcmp, 1) := by decide +kernel
theorem dX4_share_10 : decode cX4_share 10 = .ok (.ifCond .eq 21, 3) := by decide +kernel
theorem dX4_share_13 : decode cX4_share 13 = .ok (.lload 5, 2) := by decide +kernel
theorem dX4_share_15 : decode cX4_share 15 = .ok (.lload 7, 2) := by decide +kernel
theorem dX4_share_17 : decode cX4_share 17 = .ok (.lrem, 1) := by decide +kernel
theorem dX4_share_18 : decode cX4_share 18 = .ok (.lstore 9, 2) := by decide +kernel
theorem dX4_share_20 : decode cX4_share 20 = .ok (.lload 7, 2) := by decide +kernel
theorem dX4_share_22 : decode cX4_share 22 = .ok (.lstore 5, 2) := by decide +kernel
theorem dX4_share_24 : decode cX4_share 24 = .ok (.lload 9, 2) := by decide +kernel
theorem dX4_share_26 : decode cX4_share 26 = .ok (.lstore 7, 2) := by decide +kernel
theorem dX4_share_28 : decode cX4_share 28 = .ok (.goto (-22), 3) := by decide +kernel
theorem dX4_share_31 : decode cX4_share 31 = .ok (.iload 4, 2) := by decide +kernel
theorem dX4_share_33 : decode cX4_share 33 = .ok (.ifCond .ne 7, 3) := by decide +kernel
theorem dX4_share_36 : decode cX4_share 36 = .ok (.lload_n 0, 1) := by decide +kernel
theorem dX4_share_37 : decode cX4_share 37 = .ok (.goto 4, 3) := by decide +kernel
theorem dX4_share_40 : decode cX4_share 40 = .ok (.lload_n 2, 1) := by decide +kernel
theorem dX4_share_41 : decode cX4_share 41 = .ok (.lload 5, 2) := by decide +kernel
theorem dX4_share_43 : decode cX4_share 43 = .ok (.ldiv, 1) := by decide +kernel
theorem dX4_share_44 : decode cX4_share 44 = .ok (.lreturn, 1) := by decide +kernel
theorem dX4_refused_0 : decode cX4_refused 0 = .ok (.aload_n 0, 1) := by decide +kernel
theorem dX4_refused_1 : decode cX4_refused 1 = .ok (.iconst 0, 1) := by decide +kernel
theorem dX4_refused_2 : decode cX4_refused 2 = .ok (.putfield 66, 3) := by decide +kernel
theorem dX4_refused_5 : decode cX4_refused 5 = .ok (.iload_n 1, 1) := by decide +kernel
theorem dX4_refused_6 : decode cX4_refused 6 = .ok (.ireturn, 1) := by decide +kernel
theorem dX4_failed_0 : decode cX4_failed 0 = .ok (.aload_n 0, 1) := by decide +kernel
theorem dX4_failed_1 : decode cX4_failed 1 = .ok (.iload_n 1, 1) := by decide +kernel
theorem dX4_failed_2 : decode cX4_failed 2 = .ok (.putfield 66, 3) := by decide +kernel
theorem dX4_failed_5 : decode cX4_failed 5 = .ok (.bipush (-10), 2) := by decide +kernel
theorem dX4_failed_7 : decode cX4_failed 7 = .ok (.iload_n 1, 1) := by decide +kernel
theorem dX4_failed_8 : decode cX4_failed 8 = .ok (.isub, 1) := by decide +kernel
theorem dX4_failed_9 : decode cX4_failed 9 = .ok (.ireturn, 1) := by decide +kernel
set_option maxRecDepth 20000 in
theorem ggX4_failedLong_X4_lost : GoodIn wsX4_failedLong wsX4_lost := goodIn_r _ [5, 6] (by decide +kernel) (by decide +kernel)
set_option maxRecDepth 20000 in
theorem gX4_failedLong_X4_lost : GoodIn wsX4_failedLong (va_wsS RX4 70 yX4_lost wsX4_lost) := goodIn_app (goodIn_of _ (by decide +kernel)) ggX4_failedLong_X4_lost
theorem dX4_failedLong_0 : decode cX4_failedLong 0 = .ok (.aload_n 0, 1) := by decide +kernel
theorem dX4_failedLong_1 : decode cX4_failedLong 1 = .ok (.iload_n 1, 1) := by decide +kernel
theorem dX4_failedLong_2 : decode cX4_failedLong 2 = .ok (.putfield 66, 3) := by decide +kernel
theorem dX4_failedLong_5 : decode cX4_failedLong 5 = .ok (.invokestatic 70, 3) := by decide +kernel
theorem dX4_failedLong_8 : decode cX4_failedLong 8 = .ok (.lreturn, 1) := by decide +kernel
set_option maxRecDepth 20000 in
theorem ggX4_noSpot_X4_in : GoodIn wsX4_noSpot wsX4_in := goodIn_r _ [6] (by decide +kernel) (by decide +kernel)
set_option maxRecDepth 20000 in
theorem gX4_noSpot_X4_in : GoodIn wsX4_noSpot (va_wsS RX4 80 yX4_in wsX4_in) := goodIn_app (goodIn_of _ (by decide +kernel)) ggX4_noSpot_X4_in
theorem dX4_noSpot_0 : decode cX4_noSpot 0 = .ok (.iload_n 1, 1) := by decide +kernel
theorem dX4_noSpot_1 : decode cX4_noSpot 1 = .ok (.i2l, 1) := by decide +kernel
theorem dX4_noSpot_2 : decode cX4_noSpot 2 = .ok (.lconst 0, 1) := by decide +kernel
theorem dX4_noSpot_3 : decode cX4_noSpot 3 = .ok (.aload_n 0, 1) := by decide +kernel
theorem dX4_noSpot_4 : decode cX4_noSpot 4 = .ok (.getfield 74, 3) := by decide +kernel
theorem dX4_noSpot_7 : decode cX4_noSpot 7 = .ok (.aload_n 0, 1) := by decide +kernel
theorem dX4_noSpot_8 : decode cX4_noSpot 8 = .ok (.getfield 77, 3) := by decide +kernel
theorem dX4_noSpot_11 : decode cX4_noSpot 11 = .ok (.imul, 1) := by decide +kernel
theorem dX4_noSpot_12 : decode cX4_noSpot 12 = .ok (.i2l, 1) := by decide +kernel
theorem dX4_noSpot_13 : decode cX4_noSpot 13 = .ok (.lconst 1, 1) := by decide +kernel
theorem dX4_noSpot_14 : decode cX4_noSpot 14 = .ok (.lsub, 1) := by decide +kernel
theorem dX4_noSpot_15 : decode cX4_noSpot 15 = .ok (.invokestatic 80, 3) := by decide +kernel
theorem dX4_noSpot_18 : decode cX4_noSpot 18 = .ok (.ifCond .ne 7, 3) := by decide +kernel
theorem dX4_noSpot_21 : decode cX4_noSpot 21 = .ok (.iconst 1, 1) := by decide +kernel
theorem dX4_noSpot_22 : decode cX4_noSpot 22 = .ok (.goto 4, 3) := by decide +kernel
theorem dX4_noSpot_25 : decode cX4_noSpot 25 = .ok (.iconst 0, 1) := by decide +kernel
theorem dX4_noSpot_26 : decode cX4_noSpot 26 = .ok (.ireturn, 1) := by decide +kernel
set_option maxRecDepth 20000 in
theorem ggX4_noWork_X4_in : GoodIn wsX4_noWork wsX4_in := goodIn_r _ [5] (by decide +kernel) (by decide +kernel)
set_option maxRecDepth 20000 in
theorem gX4_noWork_X4_in : GoodIn wsX4_noWork (va_wsS RX4 80 yX4_in wsX4_in) := goodIn_app (goodIn_of _ (by decide +kernel)) ggX4_noWork_X4_in
theorem dX4_noWork_0 : decode cX4_noWork 0 = .ok (.iload_n 1, 1) := by decide +kernel
theorem dX4_noWork_1 : decode cX4_noWork 1 = .ok (.i2l, 1) := by decide +kernel
theorem dX4_noWork_2 : decode cX4_noWork 2 = .ok (.lconst 0, 1) := by decide +kernel
theorem dX4_noWork_3 : decode cX4_noWork 3 = .ok (.aload_n 0, 1) := by decide +kernel
theorem dX4_noWork_4 : decode cX4_noWork 4 = .ok (.getfield 84, 3) := by decide +kernel
theorem dX4_noWork_7 : decode cX4_noWork 7 = .ok (.i2l, 1) := by decide +kernel
theorem dX4_noWork_8 : decode cX4_noWork 8 = .ok (.lconst 1, 1) := by decide +kernel
theorem dX4_noWork_9 : decode cX4_noWork 9 = .ok (.lsub, 1) := by decide +kernel
theorem dX4_noWork_10 : decode cX4_noWork 10 = .ok (.invokestatic 80, 3) := by decide +kernel
theorem dX4_noWork_13 : decode cX4_noWork 13 = .ok (.ifCond .ne 7, 3) := by decide +kernel
theorem dX4_noWork_16 : decode cX4_noWork 16 = .ok (.iconst 1, 1) := by decide +kernel
theorem dX4_noWork_17 : decode cX4_noWork 17 = .ok (.goto 4, 3) := by decide +kernel
theorem dX4_noWork_20 : decode cX4_noWork 20 = .ok (.iconst 0, 1) := by decide +kernel
theorem dX4_noWork_21 : decode cX4_noWork 21 = .ok (.ireturn, 1) := by decide +kernel
set_option maxRecDepth 20000 in
theorem ggX4_noWard_X4_in : GoodIn wsX4_noWard wsX4_in := goodIn_r _ [5] (by decide +kernel) (by decide +kernel)
set_option maxRecDepth 20000 in
theorem gX4_noWard_X4_in : GoodIn wsX4_noWard (va_wsS RX4 80 yX4_in wsX4_in) := goodIn_app (goodIn_of _ (by decide +kernel)) ggX4_noWard_X4_in
theorem dX4_noWard_0 : decode cX4_noWard 0 = .ok (.iload_n 1, 1) := by decide +kernel
theorem dX4_noWard_1 : decode cX4_noWard 1 = .ok (.i2l, 1) := by decide +kernel
theorem dX4_noWard_2 : decode cX4_noWard 2 = .ok (.lconst 0, 1) := by decide +kernel
theorem dX4_noWard_3 : decode cX4_noWard 3 = .ok (.aload_n 0, 1) := by decide +kernel
theorem dX4_noWard_4 : decode cX4_noWard 4 = .ok (.getfield 87, 3) := by decide +kernel
theorem dX4_noWard_7 : decode cX4_noWard 7 = .ok (.i2l, 1) := by decide +kernel
theorem dX4_noWard_8 : decode cX4_noWard 8 = .ok (.lconst 1, 1) := by decide +kernel
theorem dX4_noWard_9 : decode cX4_noWard 9 = .ok (.lsub, 1) := by decide +kernel
theorem dX4_noWard_10 : decode cX4_noWard 10 = .ok (.invokestatic 80, 3) := by decide +kernel
theorem dX4_noWard_13 : decode cX4_noWard 13 = .ok (.ifCond .ne 7, 3) := by decide +kernel
theorem dX4_noWard_16 : decode cX4_noWard 16 = .ok (.iconst 1, 1) := by decide +kernel
theorem dX4_noWard_17 : decode cX4_noWard 17 = .ok (.goto 4, 3) := by decide +kernel
theorem dX4_noWard_20 : decode cX4_noWard 20 = .ok (.iconst 0, 1) := by decide +kernel
theorem dX4_noWard_21 : decode cX4_noWard 21 = .ok (.ireturn, 1) := by decide +kernel
theorem dX4_codeAt_0 : decode cX4_codeAt 0 = .ok (.aload_n 0, 1) := by decide +kernel
theorem dX4_codeAt_1 : decode cX4_codeAt 1 = .ok (.getfield 90, 3) := by decide +kernel
theorem dX4_codeAt_4 : decode cX4_codeAt 4 = .ok (.iload_n 2, 1) := by decide +kernel
theorem dX4_codeAt_5 : decode cX4_codeAt 5 = .ok (.if_icmp .ge 17, 3) := by decide +kernel
theorem dX4_codeAt_8 : decode cX4_codeAt 8 = .ok (.aload_n 0, 1) := by decide +kernel
theorem dX4_codeAt_9 : decode cX4_codeAt 9 = .ok (.getfield 58, 3) := by decide +kernel
theorem dX4_codeAt_12 : decode cX4_codeAt 12 = .ok (.iload_n 1, 1) := by decide +kernel
theorem dX4_codeAt_13 : decode cX4_codeAt 13 = .ok (.aload_n 0, 1) := by decide +kernel
theorem dX4_codeAt_14 : decode cX4_codeAt 14 = .ok (.getfield 90, 3) := by decide +kernel
theorem dX4_codeAt_17 : decode cX4_codeAt 17 = .ok (.iadd, 1) := by decide +kernel
theorem dX4_codeAt_18 : decode cX4_codeAt 18 = .ok (.iaload, 1) := by decide +kernel
theorem dX4_codeAt_19 : decode cX4_codeAt 19 = .ok (.goto 5, 3) := by decide +kernel
theorem dX4_codeAt_22 : decode cX4_codeAt 22 = .ok (.bipush (-9), 2) := by decide +kernel
theorem dX4_codeAt_24 : decode cX4_codeAt 24 = .ok (.ireturn, 1) := by decide +kernel
set_option maxRecDepth 20000 in
theorem ggX4_figure_X4_codeAt : GoodIn wsX4_figure wsX4_codeAt := goodIn_r _ [6, 1, 7, 11, 12, 13, 14, 15, 16, 17, 18, 19, 20, 21, 22, 23, 24, 25, 26, 27, 28, 29, 30, 31, 32, 33, 34, 35, 36, 37, 38, 39, 40, 41, 42] (by decide +kernel) (by decide +kernel)
set_option maxRecDepth 20000 in
theorem gX4_figure_X4_codeAt : GoodIn wsX4_figure (wsV RX4 93 RX4 yX4_codeAt wsX4_codeAt) := goodIn_app (goodIn_of _ (by decide +kernel)) ggX4_figure_X4_codeAt
set_option maxRecDepth 20000 in
theorem ggX4_figure_X4_in : GoodIn wsX4_figure wsX4_in := goodIn_r _ [10] (by decide +kernel) (by decide +kernel)
set_option maxRecDepth 20000 in
theorem gX4_figure_X4_in : GoodIn wsX4_figure (va_wsS RX4 80 yX4_in wsX4_in) := goodIn_app (goodIn_of _ (by decide +kernel)) ggX4_figure_X4_in
theorem dX4_figure_0 : decode cX4_figure 0 = .ok (.aload_n 0, 1) := by decide +kernel
theorem dX4_figure_1 : decode cX4_figure 1 = .ok (.iload_n 1, 1) := by decide +kernel
theorem dX4_figure_2 : decode cX4_figure 2 = .ok (.iload_n 2, 1) := by decide +kernel
theorem dX4_figure_3 : decode cX4_figure 3 = .ok (.invokevirtual 93, 3) := by decide +kernel
theorem dX4_figure_6 : decode cX4_figure 6 = .ok (.bipush 48, 2) := by decide +kernel
theorem dX4_figure_8 : decode cX4_figure 8 = .ok (.isub, 1) := by decide +kernel
theorem dX4_figure_9 : decode cX4_figure 9 = .ok (.istore 5, 2) := by decide +kernel
theorem dX4_figure_11 : decode cX4_figure 11 = .ok (.iload 5, 2) := by decide +kernel
theorem dX4_figure_13 : decode cX4_figure 13 = .ok (.i2l, 1) := by decide +kernel
theorem dX4_figure_14 : decode cX4_figure 14 = .ok (.iload_n 3, 1) := by decide +kernel
theorem dX4_figure_15 : decode cX4_figure 15 = .ok (.i2l, 1) := by decide +kernel
theorem dX4_figure_16 : decode cX4_figure 16 = .ok (.iload 4, 2) := by decide +kernel
theorem dX4_figure_18 : decode cX4_figure 18 = .ok (.i2l, 1) := by decide +kernel
theorem dX4_figure_19 : decode cX4_figure 19 = .ok (.invokestatic 80, 3) := by decide +kernel
theorem dX4_figure_22 : decode cX4_figure 22 = .ok (.istore 6, 2) := by decide +kernel
theorem dX4_figure_24 : decode cX4_figure 24 = .ok (.aload_n 0, 1) := by decide +kernel
theorem dX4_figure_25 : decode cX4_figure 25 = .ok (.dup, 1) := by decide +kernel
theorem dX4_figure_26 : decode cX4_figure 26 = .ok (.getfield 90, 3) := by decide +kernel
theorem dX4_figure_29 : decode cX4_figure 29 = .ok (.iload 6, 2) := by decide +kernel
theorem dX4_figure_31 : decode cX4_figure 31 = .ok (.ifCond .eq 7, 3) := by decide +kernel
theorem dX4_figure_34 : decode cX4_figure 34 = .ok (.iconst 1, 1) := by decide +kernel
theorem dX4_figure_35 : decode cX4_figure 35 = .ok (.goto 4, 3) := by decide +kernel
theorem dX4_figure_38 : decode cX4_figure 38 = .ok (.iconst 0, 1) := by decide +kernel
theorem dX4_figure_39 : decode cX4_figure 39 = .ok (.iadd, 1) := by decide +kernel
theorem dX4_figure_40 : decode cX4_figure 40 = .ok (.putfield 90, 3) := by decide +kernel
theorem dX4_figure_43 : decode cX4_figure 43 = .ok (.iload 6, 2) := by decide +kernel
theorem dX4_figure_45 : decode cX4_figure 45 = .ok (.ifCond .eq 8, 3) := by decide +kernel
theorem dX4_figure_48 : decode cX4_figure 48 = .ok (.iload 5, 2) := by decide +kernel
theorem dX4_figure_50 : decode cX4_figure 50 = .ok (.goto 5, 3) := by decide +kernel
theorem dX4_figure_53 : decode cX4_figure 53 = .ok (.bipush (-9), 2) := by decide +kernel
theorem dX4_figure_55 : decode cX4_figure 55 = .ok (.ireturn, 1) := by decide +kernel
set_option maxRecDepth 20000 in
theorem ggX4_readsWork_X4_figure : GoodIn wsX4_readsWork wsX4_figure := goodIn_r _ [9, 2, 10, 11, 12, 8, 13, 14, 15, 16, 17, 18, 19, 20, 21, 22, 23, 24, 25, 26, 27, 28, 29, 30, 31, 32, 33, 34, 35, 36, 37, 38, 39, 40, 41, 42, 43, 44, 45, 46, 47, 48, 49] (by decide +kernel) (by decide +kernel)
set_option maxRecDepth 20000 in
theorem gX4_readsWork_X4_figure : GoodIn wsX4_readsWork (wsV RX4 100 RX4 yX4_figure wsX4_figure) := goodIn_app (goodIn_of _ (by decide +kernel)) ggX4_readsWork_X4_figure
theorem dX4_readsWork_0 : decode cX4_readsWork 0 = .ok (.aload_n 0, 1) := by decide +kernel
theorem dX4_readsWork_1 : decode cX4_readsWork 1 = .ok (.getfield 97, 3) := by decide +kernel
theorem dX4_readsWork_4 : decode cX4_readsWork 4 = .ok (.iconst 4, 1) := by decide +kernel
theorem dX4_readsWork_5 : decode cX4_readsWork 5 = .ok (.if_icmp .ne 5, 3) := by decide +kernel
theorem dX4_readsWork_8 : decode cX4_readsWork 8 = .ok (.iconst 0, 1) := by decide +kernel
theorem dX4_readsWork_9 : decode cX4_readsWork 9 = .ok (.ireturn, 1) := by decide +kernel
theorem dX4_readsWork_10 : decode cX4_readsWork 10 = .ok (.aload_n 0, 1) := by decide +kernel
theorem dX4_readsWork_11 : decode cX4_readsWork 11 = .ok (.dup, 1) := by decide +kernel
theorem dX4_readsWork_12 : decode cX4_readsWork 12 = .ok (.getfield 90, 3) := by decide +kernel
theorem dX4_readsWork_15 : decode cX4_readsWork 15 = .ok (.iconst 1, 1) := by decide +kernel
theorem dX4_readsWork_16 : decode cX4_readsWork 16 = .ok (.iadd, 1) := by decide +kernel
theorem dX4_readsWork_17 : decode cX4_readsWork 17 = .ok (.putfield 90, 3) := by decide +kernel
theorem dX4_readsWork_20 : decode cX4_readsWork 20 = .ok (.aload_n 0, 1) := by decide +kernel
theorem dX4_readsWork_21 : decode cX4_readsWork 21 = .ok (.iload_n 1, 1) := by decide +kernel
theorem dX4_readsWork_22 : decode cX4_readsWork 22 = .ok (.iload_n 2, 1) := by decide +kernel
theorem dX4_readsWork_23 : decode cX4_readsWork 23 = .ok (.iconst 1, 1) := by decide +kernel
theorem dX4_readsWork_24 : decode cX4_readsWork 24 = .ok (.bipush 9, 2) := by decide +kernel
theorem dX4_readsWork_26 : decode cX4_readsWork 26 = .ok (.invokevirtual 100, 3) := by decide +kernel
theorem dX4_readsWork_29 : decode cX4_readsWork 29 = .ok (.istore 4, 2) := by decide +kernel
theorem dX4_readsWork_31 : decode cX4_readsWork 31 = .ok (.iload 4, 2) := by decide +kernel
theorem dX4_readsWork_33 : decode cX4_readsWork 33 = .ok (.ifCond .ge 5, 3) := by decide +kernel
theorem dX4_readsWork_36 : decode cX4_readsWork 36 = .ok (.iconst 0, 1) := by decide +kernel
theorem dX4_readsWork_37 : decode cX4_readsWork 37 = .ok (.ireturn, 1) := by decide +kernel
theorem dX4_readsWork_38 : decode cX4_readsWork 38 = .ok (.aload_n 0, 1) := by decide +kernel
theorem dX4_readsWork_39 : decode cX4_readsWork 39 = .ok (.getfield 28, 3) := by decide +kernel
theorem dX4_readsWork_42 : decode cX4_readsWork 42 = .ok (.aload_n 0, 1) := by decide +kernel
theorem dX4_readsWork_43 : decode cX4_readsWork 43 = .ok (.getfield 97, 3) := by decide +kernel
theorem dX4_readsWork_46 : decode cX4_readsWork 46 = .ok (.iload_n 3, 1) := by decide +kernel
theorem dX4_readsWork_47 : decode cX4_readsWork 47 = .ok (.iastore, 1) := by decide +kernel
theorem dX4_readsWork_48 : decode cX4_readsWork 48 = .ok (.aload_n 0, 1) := by decide +kernel
theorem dX4_readsWork_49 : decode cX4_readsWork 49 = .ok (.getfield 31, 3) := by decide +kernel
theorem dX4_readsWork_52 : decode cX4_readsWork 52 = .ok (.aload_n 0, 1) := by decide +kernel
theorem dX4_readsWork_53 : decode cX4_readsWork 53 = .ok (.getfield 97, 3) := by decide +kernel
theorem dX4_readsWork_56 : decode cX4_readsWork 56 = .ok (.iload 4, 2) := by decide +kernel
theorem dX4_readsWork_58 : decode cX4_readsWork 58 = .ok (.iastore, 1) := by decide +kernel
theorem dX4_readsWork_59 : decode cX4_readsWork 59 = .ok (.aload_n 0, 1) := by decide +kernel
theorem dX4_readsWork_60 : decode cX4_readsWork 60 = .ok (.dup, 1) := by decide +kernel
theorem dX4_readsWork_61 : decode cX4_readsWork 61 = .ok (.getfield 97, 3) := by decide +kernel
theorem dX4_readsWork_64 : decode cX4_readsWork 64 = .ok (.iconst 1, 1) := by decide +kernel
theorem dX4_readsWork_65 : decode cX4_readsWork 65 = .ok (.iadd, 1) := by decide +kernel
theorem dX4_readsWork_66 : decode cX4_readsWork 66 = .ok (.putfield 97, 3) := by decide +kernel
theorem dX4_readsWork_69 : decode cX4_readsWork 69 = .ok (.iconst 1, 1) := by decide +kernel
theorem dX4_readsWork_70 : decode cX4_readsWork 70 = .ok (.ireturn, 1) := by decide +kernel
set_option maxRecDepth 20000 in
theorem ggX4_readsWard_X4_figure : GoodIn wsX4_readsWard wsX4_figure := goodIn_r _ [10, 2, 11, 12, 13, 9, 14, 15, 16, 17, 18, 19, 20, 21, 22, 23, 24, 25, 26, 27, 28, 29, 30, 31, 32, 33, 34, 35, 36, 37, 38, 39, 40, 41, 42, 43, 44, 45, 46, 47, 48, 49, 50] (by decide +kernel) (by decide +kernel)
set_option maxRecDepth 20000 in
theorem gX4_readsWard_X4_figure : GoodIn wsX4_readsWard (wsV RX4 100 RX4 yX4_figure wsX4_figure) := goodIn_app (goodIn_of _ (by decide +kernel)) ggX4_readsWard_X4_figure
theorem dX4_readsWard_0 : decode cX4_readsWard 0 = .ok (.aload_n 0, 1) := by decide +kernel
theorem dX4_readsWard_1 : decode cX4_readsWard 1 = .ok (.getfield 104, 3) := by decide +kernel
theorem dX4_readsWard_4 : decode cX4_readsWard 4 = .ok (.bipush 6, 2) := by decide +kernel
theorem dX4_readsWard_6 : decode cX4_readsWard 6 = .ok (.if_icmp .ne 5, 3) := by decide +kernel
theorem dX4_readsWard_9 : decode cX4_readsWard 9 = .ok (.iconst 0, 1) := by decide +kernel
theorem dX4_readsWard_10 : decode cX4_readsWard 10 = .ok (.ireturn, 1) := by decide +kernel
theorem dX4_readsWard_11 : decode cX4_readsWard 11 = .ok (.aload_n 0, 1) := by decide +kernel
theorem dX4_readsWard_12 : decode cX4_readsWard 12 = .ok (.dup, 1) := by decide +kernel
theorem dX4_readsWard_13 : decode cX4_readsWard 13 = .ok (.getfield 90, 3) := by decide +kernel
theorem dX4_readsWard_16 : decode cX4_readsWard 16 = .ok (.iconst 1, 1) := by decide +kernel
theorem dX4_readsWard_17 : decode cX4_readsWard 17 = .ok (.iadd, 1) := by decide +kernel
theorem dX4_readsWard_18 : decode cX4_readsWard 18 = .ok (.putfield 90, 3) := by decide +kernel
theorem dX4_readsWard_21 : decode cX4_readsWard 21 = .ok (.aload_n 0, 1) := by decide +kernel
theorem dX4_readsWard_22 : decode cX4_readsWard 22 = .ok (.iload_n 1, 1) := by decide +kernel
theorem dX4_readsWard_23 : decode cX4_readsWard 23 = .ok (.iload_n 2, 1) := by decide +kernel
theorem dX4_readsWard_24 : decode cX4_readsWard 24 = .ok (.iconst 1, 1) := by decide +kernel
theorem dX4_readsWard_25 : decode cX4_readsWard 25 = .ok (.bipush 9, 2) := by decide +kernel
theorem dX4_readsWard_27 : decode cX4_readsWard 27 = .ok (.invokevirtual 100, 3) := by decide +kernel
theorem dX4_readsWard_30 : decode cX4_readsWard 30 = .ok (.istore 5, 2) := by decide +kernel
theorem dX4_readsWard_32 : decode cX4_readsWard 32 = .ok (.iload 5, 2) := by decide +kernel
theorem dX4_readsWard_34 : decode cX4_readsWard 34 = .ok (.ifCond .ge 5, 3) := by decide +kernel
theorem dX4_readsWard_37 : decode cX4_readsWard 37 = .ok (.iconst 0, 1) := by decide +kernel
theorem dX4_readsWard_38 : decode cX4_readsWard 38 = .ok (.ireturn, 1) := by decide +kernel
theorem dX4_readsWard_39 : decode cX4_readsWard 39 = .ok (.aload_n 0, 1) := by decide +kernel
theorem dX4_readsWard_40 : decode cX4_readsWard 40 = .ok (.getfield 34, 3) := by decide +kernel
theorem dX4_readsWard_43 : decode cX4_readsWard 43 = .ok (.aload_n 0, 1) := by decide +kernel
theorem dX4_readsWard_44 : decode cX4_readsWard 44 = .ok (.getfield 104, 3) := by decide +kernel
theorem dX4_readsWard_47 : decode cX4_readsWard 47 = .ok (.iload_n 3, 1) := by decide +kernel
theorem dX4_readsWard_48 : decode cX4_readsWard 48 = .ok (.iastore, 1) := by decide +kernel
theorem dX4_readsWard_49 : decode cX4_readsWard 49 = .ok (.aload_n 0, 1) := by decide +kernel
theorem dX4_readsWard_50 : decode cX4_readsWard 50 = .ok (.getfield 37, 3) := by decide +kernel
theorem dX4_readsWard_53 : decode cX4_readsWard 53 = .ok (.aload_n 0, 1) := by decide +kernel
theorem dX4_readsWard_54 : decode cX4_readsWard 54 = .ok (.getfield 104, 3) := by decide +kernel
theorem dX4_readsWard_57 : decode cX4_readsWard 57 = .ok (.iload 4, 2) := by decide +kernel
theorem dX4_readsWard_59 : decode cX4_readsWard 59 = .ok (.iastore, 1) := by decide +kernel
theorem dX4_readsWard_60 : decode cX4_readsWard 60 = .ok (.aload_n 0, 1) := by decide +kernel
theorem dX4_readsWard_61 : decode cX4_readsWard 61 = .ok (.getfield 40, 3) := by decide +kernel
theorem dX4_readsWard_64 : decode cX4_readsWard 64 = .ok (.aload_n 0, 1) := by decide +kernel
theorem dX4_readsWard_65 : decode cX4_readsWard 65 = .ok (.getfield 104, 3) := by decide +kernel
theorem dX4_readsWard_68 : decode cX4_readsWard 68 = .ok (.iload 5, 2) := by decide +kernel
theorem dX4_readsWard_70 : decode cX4_readsWard 70 = .ok (.iastore, 1) := by decide +kernel
theorem dX4_readsWard_71 : decode cX4_readsWard 71 = .ok (.aload_n 0, 1) := by decide +kernel
theorem dX4_readsWard_72 : decode cX4_readsWard 72 = .ok (.dup, 1) := by decide +kernel
theorem dX4_readsWard_73 : decode cX4_readsWard 73 = .ok (.getfield 104, 3) := by decide +kernel
theorem dX4_readsWard_76 : decode cX4_readsWard 76 = .ok (.iconst 1, 1) := by decide +kernel
theorem dX4_readsWard_77 : decode cX4_readsWard 77 = .ok (.iadd, 1) := by decide +kernel
theorem dX4_readsWard_78 : decode cX4_readsWard 78 = .ok (.putfield 104, 3) := by decide +kernel
theorem dX4_readsWard_81 : decode cX4_readsWard 81 = .ok (.iconst 1, 1) := by decide +kernel
theorem dX4_readsWard_82 : decode cX4_readsWard 82 = .ok (.ireturn, 1) := by decide +kernel
set_option maxRecDepth 20000 in
theorem ggX4_readsSpot_X4_codeAt : GoodIn wsX4_readsSpot wsX4_codeAt := goodIn_r _ [7, 2, 8, 31, 32, 33, 34, 35, 36, 37, 38, 39, 40, 41, 42, 43, 44, 45, 46, 47, 48, 49, 50, 51, 52, 53, 54, 55, 56, 57, 58, 59, 60, 61, 62] (by decide +kernel) (by decide +kernel)
set_option maxRecDepth 20000 in
theorem gX4_readsSpot_X4_codeAt : GoodIn wsX4_readsSpot (wsV RX4 93 RX4 yX4_codeAt wsX4_codeAt) := goodIn_app (goodIn_of _ (by decide +kernel)) ggX4_readsSpot_X4_codeAt
set_option maxRecDepth 20000 in
theorem ggX4_readsSpot_X4_readsWork : GoodIn wsX4_readsSpot wsX4_readsWork := goodIn_r _ [12, 13, 2, 14, 15, 16, 17, 18, 6, 19, 3, 4, 5, 7, 8, 20, 21, 22, 31, 32, 33, 34, 35, 36, 37, 38, 39, 40, 41, 42, 43, 44, 45, 46, 47, 48, 49, 50, 51, 52, 53, 54, 55, 56, 57, 58, 59, 60, 61, 62] (by decide +kernel) (by decide +kernel)
set_option maxRecDepth 20000 in
theorem gX4_readsSpot_X4_readsWork : GoodIn wsX4_readsSpot (wsV RX4 110 RX4 yX4_readsWork wsX4_readsWork) := goodIn_app (goodIn_of _ (by decide +kernel)) ggX4_readsSpot_X4_readsWork
set_option maxRecDepth 20000 in
theorem ggX4_readsSpot_X4_readsWard : GoodIn wsX4_readsSpot wsX4_readsWard := goodIn_r _ [26, 27, 2, 28, 29, 30, 16, 17, 18, 6, 19, 3, 4, 5, 7, 8, 20, 21, 22, 31, 32, 33, 34, 35, 36, 37, 38, 39, 40, 41, 42, 43, 44, 45, 46, 47, 48, 49, 50, 51, 52, 53, 54, 55, 56, 57, 58, 59, 60, 61, 62] (by decide +kernel) (by decide +kernel)
set_option maxRecDepth 20000 in
theorem gX4_readsSpot_X4_readsWard : GoodIn wsX4_readsSpot (wsV RX4 114 RX4 yX4_readsWard wsX4_readsWard) := goodIn_app (goodIn_of _ (by decide +kernel)) ggX4_readsSpot_X4_readsWard
theorem dX4_readsSpot_0 : decode cX4_readsSpot 0 = .ok (.iload_n 3, 1) := by decide +kernel
theorem dX4_readsSpot_1 : decode cX4_readsSpot 1 = .ok (.aload_n 0, 1) := by decide +kernel
theorem dX4_readsSpot_2 : decode cX4_readsSpot 2 = .ok (.getfield 107, 3) := by decide +kernel
theorem dX4_readsSpot_5 : decode cX4_readsSpot 5 = .ok (.irem, 1) := by decide +kernel
theorem dX4_readsSpot_6 : decode cX4_readsSpot 6 = .ok (.ifCond .ne 26, 3) := by decide +kernel
theorem dX4_readsSpot_9 : decode cX4_readsSpot 9 = .ok (.aload_n 0, 1) := by decide +kernel
theorem dX4_readsSpot_10 : decode cX4_readsSpot 10 = .ok (.iload_n 1, 1) := by decide +kernel
theorem dX4_readsSpot_11 : decode cX4_readsSpot 11 = .ok (.iload_n 2, 1) := by decide +kernel
theorem dX4_readsSpot_12 : decode cX4_readsSpot 12 = .ok (.invokevirtual 93, 3) := by decide +kernel
theorem dX4_readsSpot_15 : decode cX4_readsSpot 15 = .ok (.bipush 59, 2) := by decide +kernel
theorem dX4_readsSpot_17 : decode cX4_readsSpot 17 = .ok (.if_icmp .eq 5, 3) := by decide +kernel
theorem dX4_readsSpot_20 : decode cX4_readsSpot 20 = .ok (.iconst 0, 1) := by decide +kernel
theorem dX4_readsSpot_21 : decode cX4_readsSpot 21 = .ok (.ireturn, 1) := by decide +kernel
theorem dX4_readsSpot_22 : decode cX4_readsSpot 22 = .ok (.aload_n 0, 1) := by decide +kernel
theorem dX4_readsSpot_23 : decode cX4_readsSpot 23 = .ok (.dup, 1) := by decide +kernel
theorem dX4_readsSpot_24 : decode cX4_readsSpot 24 = .ok (.getfield 90, 3) := by decide +kernel
theorem dX4_readsSpot_27 : decode cX4_readsSpot 27 = .ok (.iconst 1, 1) := by decide +kernel
theorem dX4_readsSpot_28 : decode cX4_readsSpot 28 = .ok (.iadd, 1) := by decide +kernel
theorem dX4_readsSpot_29 : decode cX4_readsSpot 29 = .ok (.putfield 90, 3) := by decide +kernel
theorem dX4_readsSpot_32 : decode cX4_readsSpot 32 = .ok (.aload_n 0, 1) := by decide +kernel
theorem dX4_readsSpot_33 : decode cX4_readsSpot 33 = .ok (.iload_n 1, 1) := by decide +kernel
theorem dX4_readsSpot_34 : decode cX4_readsSpot 34 = .ok (.iload_n 2, 1) := by decide +kernel
theorem dX4_readsSpot_35 : decode cX4_readsSpot 35 = .ok (.invokevirtual 93, 3) := by decide +kernel
theorem dX4_readsSpot_38 : decode cX4_readsSpot 38 = .ok (.lookupswitch 97 #[(46, 50), (102, 88), (114, 79), (119, 70), (120, 62)], 50) := by decide +kernel
theorem dX4_readsSpot_88 : decode cX4_readsSpot 88 = .ok (.aload_n 0, 1) := by decide +kernel
theorem dX4_readsSpot_89 : decode cX4_readsSpot 89 = .ok (.dup, 1) := by decide +kernel
theorem dX4_readsSpot_90 : decode cX4_readsSpot 90 = .ok (.getfield 90, 3) := by decide +kernel
theorem dX4_readsSpot_93 : decode cX4_readsSpot 93 = .ok (.iconst 1, 1) := by decide +kernel
theorem dX4_readsSpot_94 : decode cX4_readsSpot 94 = .ok (.iadd, 1) := by decide +kernel
theorem dX4_readsSpot_95 : decode cX4_readsSpot 95 = .ok (.putfield 90, 3) := by decide +kernel
theorem dX4_readsSpot_98 : decode cX4_readsSpot 98 = .ok (.iconst 1, 1) := by decide +kernel
theorem dX4_readsSpot_99 : decode cX4_readsSpot 99 = .ok (.ireturn, 1) := by decide +kernel
theorem dX4_readsSpot_100 : decode cX4_readsSpot 100 = .ok (.aload_n 0, 1) := by decide +kernel
theorem dX4_readsSpot_101 : decode cX4_readsSpot 101 = .ok (.iload_n 1, 1) := by decide +kernel
theorem dX4_readsSpot_102 : decode cX4_readsSpot 102 = .ok (.iload_n 2, 1) := by decide +kernel
theorem dX4_readsSpot_103 : decode cX4_readsSpot 103 = .ok (.iload_n 3, 1) := by decide +kernel
theorem dX4_readsSpot_104 : decode cX4_readsSpot 104 = .ok (.invokevirtual 110, 3) := by decide +kernel
theorem dX4_readsSpot_107 : decode cX4_readsSpot 107 = .ok (.ireturn, 1) := by decide +kernel
theorem dX4_readsSpot_108 : decode cX4_readsSpot 108 = .ok (.aload_n 0, 1) := by decide +kernel
theorem dX4_readsSpot_109 : decode cX4_readsSpot 109 = .ok (.iload_n 1, 1) := by decide +kernel
theorem dX4_readsSpot_110 : decode cX4_readsSpot 110 = .ok (.iload_n 2, 1) := by decide +kernel
theorem dX4_readsSpot_111 : decode cX4_readsSpot 111 = .ok (.iload_n 3, 1) := by decide +kernel
theorem dX4_readsSpot_112 : decode cX4_readsSpot 112 = .ok (.iconst 0, 1) := by decide +kernel
theorem dX4_readsSpot_113 : decode cX4_readsSpot 113 = .ok (.invokevirtual 114, 3) := by decide +kernel
theorem dX4_readsSpot_116 : decode cX4_readsSpot 116 = .ok (.ireturn, 1) := by decide +kernel
theorem dX4_readsSpot_117 : decode cX4_readsSpot 117 = .ok (.aload_n 0, 1) := by decide +kernel
theorem dX4_readsSpot_118 : decode cX4_readsSpot 118 = .ok (.iload_n 1, 1) := by decide +kernel
theorem dX4_readsSpot_119 : decode cX4_readsSpot 119 = .ok (.iload_n 2, 1) := by decide +kernel
theorem dX4_readsSpot_120 : decode cX4_readsSpot 120 = .ok (.iload_n 3, 1) := by decide +kernel
theorem dX4_readsSpot_121 : decode cX4_readsSpot 121 = .ok (.iconst 1, 1) := by decide +kernel
theorem dX4_readsSpot_122 : decode cX4_readsSpot 122 = .ok (.invokevirtual 114, 3) := by decide +kernel
theorem dX4_readsSpot_125 : decode cX4_readsSpot 125 = .ok (.ireturn, 1) := by decide +kernel
theorem dX4_readsSpot_126 : decode cX4_readsSpot 126 = .ok (.aload_n 0, 1) := by decide +kernel
theorem dX4_readsSpot_127 : decode cX4_readsSpot 127 = .ok (.iload_n 1, 1) := by decide +kernel
theorem dX4_readsSpot_128 : decode cX4_readsSpot 128 = .ok (.iload_n 2, 1) := by decide +kernel
theorem dX4_readsSpot_129 : decode cX4_readsSpot 129 = .ok (.iload_n 3, 1) := by decide +kernel
theorem dX4_readsSpot_130 : decode cX4_readsSpot 130 = .ok (.iconst 2, 1) := by decide +kernel
theorem dX4_readsSpot_131 : decode cX4_readsSpot 131 = .ok (.invokevirtual 114, 3) := by decide +kernel
theorem dX4_readsSpot_134 : decode cX4_readsSpot 134 = .ok (.ireturn, 1) := by decide +kernel
theorem dX4_readsSpot_135 : decode cX4_readsSpot 135 = .ok (.iconst 0, 1) := by decide +kernel
theorem dX4_readsSpot_136 : decode cX4_readsSpot 136 = .ok (.ireturn, 1) := by decide +kernel
set_option maxRecDepth 20000 in
theorem ggX4_readsTown_X4_codeAt : GoodIn wsX4_readsTown wsX4_codeAt := goodIn_r _ [10, 1, 11, 36, 37, 38, 39, 40, 41, 42, 43, 44, 45, 46, 47, 48, 49, 50, 51, 52, 53, 54, 55, 56, 57, 58, 59, 60, 61, 62, 63, 64, 65, 66, 67] (by decide +kernel) (by decide +kernel)
set_option maxRecDepth 20000 in
theorem gX4_readsTown_X4_codeAt : GoodIn wsX4_readsTown (wsV RX4 93 RX4 yX4_codeAt wsX4_codeAt) := goodIn_app (goodIn_of _ (by decide +kernel)) ggX4_readsTown_X4_codeAt
set_option maxRecDepth 20000 in
theorem ggX4_readsTown_X4_figure : GoodIn wsX4_readsTown wsX4_figure := goodIn_r _ [15, 1, 6, 7, 8, 9, 10, 11, 16, 17, 18, 36, 37, 38, 39, 40, 41, 42, 43, 44, 45, 46, 47, 48, 49, 50, 51, 52, 53, 54, 55, 56, 57, 58, 59, 60, 61, 62, 63, 64, 65, 66, 67] (by decide +kernel) (by decide +kernel)
set_option maxRecDepth 20000 in
theorem gX4_readsTown_X4_figure : GoodIn wsX4_readsTown (wsV RX4 100 RX4 yX4_figure wsX4_figure) := goodIn_app (goodIn_of _ (by decide +kernel)) ggX4_readsTown_X4_figure
set_option maxRecDepth 20000 in
theorem ggX4_readsTown_X4_readsSpot : GoodIn wsX4_readsTown wsX4_readsSpot := goodIn_r _ [22, 5, 1, 6, 7, 8, 9, 10, 11, 23, 24, 25, 26, 2, 27, 28, 12, 13, 14, 15, 16, 17, 18, 29, 30, 31, 32, 3, 33, 34, 35, 36, 37, 38, 39, 40, 41, 42, 43, 44, 45, 46, 47, 48, 49, 50, 51, 52, 53, 54, 55, 56, 57, 58, 59, 60, 61, 62, 63, 64, 65, 66, 67] (by decide +kernel) (by decide +kernel)
set_option maxRecDepth 20000 in
theorem gX4_readsTown_X4_readsSpot : GoodIn wsX4_readsTown (wsV RX4 121 RX4 yX4_readsSpot wsX4_readsSpot) := goodIn_app (goodIn_of _ (by decide +kernel)) ggX4_readsTown_X4_readsSpot
theorem dX4_readsTown_0 : decode cX4_readsTown 0 = .ok (.aload_n 0, 1) := by decide +kernel
theorem dX4_readsTown_1 : decode cX4_readsTown 1 = .ok (.iconst 0, 1) := by decide +kernel
theorem dX4_readsTown_2 : decode cX4_readsTown 2 = .ok (.putfield 90, 3) := by decide +kernel
theorem dX4_readsTown_5 : decode cX4_readsTown 5 = .ok (.aload_n 0, 1) := by decide +kernel
theorem dX4_readsTown_6 : decode cX4_readsTown 6 = .ok (.iconst 0, 1) := by decide +kernel
theorem dX4_readsTown_7 : decode cX4_readsTown 7 = .ok (.putfield 97, 3) := by decide +kernel
theorem dX4_readsTown_10 : decode cX4_readsTown 10 = .ok (.aload_n 0, 1) := by decide +kernel
theorem dX4_readsTown_11 : decode cX4_readsTown 11 = .ok (.iconst 0, 1) := by decide +kernel
theorem dX4_readsTown_12 : decode cX4_readsTown 12 = .ok (.putfield 104, 3) := by decide +kernel
theorem dX4_readsTown_15 : decode cX4_readsTown 15 = .ok (.aload_n 0, 1) := by decide +kernel
theorem dX4_readsTown_16 : decode cX4_readsTown 16 = .ok (.iload_n 1, 1) := by decide +kernel
theorem dX4_readsTown_17 : decode cX4_readsTown 17 = .ok (.iload_n 2, 1) := by decide +kernel
theorem dX4_readsTown_18 : decode cX4_readsTown 18 = .ok (.invokevirtual 93, 3) := by decide +kernel
theorem dX4_readsTown_21 : decode cX4_readsTown 21 = .ok (.bipush 116, 2) := by decide +kernel
theorem dX4_readsTown_23 : decode cX4_readsTown 23 = .ok (.if_icmp .ne 7, 3) := by decide +kernel
theorem dX4_readsTown_26 : decode cX4_readsTown 26 = .ok (.iconst 1, 1) := by decide +kernel
theorem dX4_readsTown_27 : decode cX4_readsTown 27 = .ok (.goto 4, 3) := by decide +kernel
theorem dX4_readsTown_30 : decode cX4_readsTown 30 = .ok (.iconst 0, 1) := by decide +kernel
theorem dX4_readsTown_31 : decode cX4_readsTown 31 = .ok (.istore_n 3, 1) := by decide +kernel
theorem dX4_readsTown_32 : decode cX4_readsTown 32 = .ok (.aload_n 0, 1) := by decide +kernel
theorem dX4_readsTown_33 : decode cX4_readsTown 33 = .ok (.dup, 1) := by decide +kernel
theorem dX4_readsTown_34 : decode cX4_readsTown 34 = .ok (.getfield 90, 3) := by decide +kernel
theorem dX4_readsTown_37 : decode cX4_readsTown 37 = .ok (.iload_n 3, 1) := by decide +kernel
theorem dX4_readsTown_38 : decode cX4_readsTown 38 = .ok (.ifCond .eq 7, 3) := by decide +kernel
theorem dX4_readsTown_41 : decode cX4_readsTown 41 = .ok (.iconst 1, 1) := by decide +kernel
theorem dX4_readsTown_42 : decode cX4_readsTown 42 = .ok (.goto 4, 3) := by decide +kernel
theorem dX4_readsTown_45 : decode cX4_readsTown 45 = .ok (.iconst 0, 1) := by decide +kernel
theorem dX4_readsTown_46 : decode cX4_readsTown 46 = .ok (.iadd, 1) := by decide +kernel
theorem dX4_readsTown_47 : decode cX4_readsTown 47 = .ok (.putfield 90, 3) := by decide +kernel
theorem dX4_readsTown_50 : decode cX4_readsTown 50 = .ok (.aload_n 0, 1) := by decide +kernel
theorem dX4_readsTown_51 : decode cX4_readsTown 51 = .ok (.iload_n 3, 1) := by decide +kernel
theorem dX4_readsTown_52 : decode cX4_readsTown 52 = .ok (.ifCond .eq 14, 3) := by decide +kernel
theorem dX4_readsTown_55 : decode cX4_readsTown 55 = .ok (.aload_n 0, 1) := by decide +kernel
theorem dX4_readsTown_56 : decode cX4_readsTown 56 = .ok (.iload_n 1, 1) := by decide +kernel
theorem dX4_readsTown_57 : decode cX4_readsTown 57 = .ok (.iload_n 2, 1) := by decide +kernel
theorem dX4_readsTown_58 : decode cX4_readsTown 58 = .ok (.iconst 1, 1) := by decide +kernel
theorem dX4_readsTown_59 : decode cX4_readsTown 59 = .ok (.iconst 4, 1) := by decide +kernel
theorem dX4_readsTown_60 : decode cX4_readsTown 60 = .ok (.invokevirtual 100, 3) := by decide +kernel
theorem dX4_readsTown_63 : decode cX4_readsTown 63 = .ok (.goto 5, 3) := by decide +kernel
theorem dX4_readsTown_66 : decode cX4_readsTown 66 = .ok (.bipush (-9), 2) := by decide +kernel
theorem dX4_readsTown_68 : decode cX4_readsTown 68 = .ok (.putfield 118, 3) := by decide +kernel
theorem dX4_readsTown_71 : decode cX4_readsTown 71 = .ok (.aload_n 0, 1) := by decide +kernel
theorem dX4_readsTown_72 : decode cX4_readsTown 72 = .ok (.aload_n 0, 1) := by decide +kernel
theorem dX4_readsTown_73 : decode cX4_readsTown 73 = .ok (.getfield 118, 3) := by decide +kernel
theorem dX4_readsTown_76 : decode cX4_readsTown 76 = .ok (.ifCond .le 15, 3) := by decide +kernel
theorem dX4_readsTown_79 : decode cX4_readsTown 79 = .ok (.aload_n 0, 1) := by decide +kernel
theorem dX4_readsTown_80 : decode cX4_readsTown 80 = .ok (.iload_n 1, 1) := by decide +kernel
theorem dX4_readsTown_81 : decode cX4_readsTown 81 = .ok (.iload_n 2, 1) := by decide +kernel
theorem dX4_readsTown_82 : decode cX4_readsTown 82 = .ok (.iconst 2, 1) := by decide +kernel
theorem dX4_readsTown_83 : decode cX4_readsTown 83 = .ok (.bipush 6, 2) := by decide +kernel
theorem dX4_readsTown_85 : decode cX4_readsTown 85 = .ok (.invokevirtual 100, 3) := by decide +kernel
theorem dX4_readsTown_88 : decode cX4_readsTown 88 = .ok (.goto 5, 3) := by decide +kernel
theorem dX4_readsTown_91 : decode cX4_readsTown 91 = .ok (.bipush (-9), 2) := by decide +kernel
theorem dX4_readsTown_93 : decode cX4_readsTown 93 = .ok (.putfield 107, 3) := by decide +kernel
theorem dX4_readsTown_96 : decode cX4_readsTown 96 = .ok (.aload_n 0, 1) := by decide +kernel
theorem dX4_readsTown_97 : decode cX4_readsTown 97 = .ok (.getfield 107, 3) := by decide +kernel
theorem dX4_readsTown_100 : decode cX4_readsTown 100 = .ok (.ifCond .le 7, 3) := by decide +kernel
theorem dX4_readsTown_103 : decode cX4_readsTown 103 = .ok (.iconst 1, 1) := by decide +kernel
theorem dX4_readsTown_104 : decode cX4_readsTown 104 = .ok (.goto 4, 3) := by decide +kernel
theorem dX4_readsTown_107 : decode cX4_readsTown 107 = .ok (.iconst 0, 1) := by decide +kernel
theorem dX4_readsTown_108 : decode cX4_readsTown 108 = .ok (.istore_n 3, 1) := by decide +kernel
theorem dX4_readsTown_109 : decode cX4_readsTown 109 = .ok (.iconst 0, 1) := by decide +kernel
theorem dX4_readsTown_110 : decode cX4_readsTown 110 = .ok (.istore 4, 2) := by decide +kernel
theorem dX4_readsTown_112 : decode cX4_readsTown 112 = .ok (.iload_n 3, 1) := by decide +kernel
theorem dX4_readsTown_113 : decode cX4_readsTown 113 = .ok (.ifCond .eq 32, 3) := by decide +kernel
theorem dX4_readsTown_116 : decode cX4_readsTown 116 = .ok (.iload 4, 2) := by decide +kernel
theorem dX4_readsTown_118 : decode cX4_readsTown 118 = .ok (.aload_n 0, 1) := by decide +kernel
theorem dX4_readsTown_119 : decode cX4_readsTown 119 = .ok (.getfield 118, 3) := by decide +kernel
theorem dX4_readsTown_122 : decode cX4_readsTown 122 = .ok (.aload_n 0, 1) := by decide +kernel
theorem dX4_readsTown_123 : decode cX4_readsTown 123 = .ok (.getfield 107, 3) := by decide +kernel
theorem dX4_readsTown_126 : decode cX4_readsTown 126 = .ok (.imul, 1) := by decide +kernel
theorem dX4_readsTown_127 : decode cX4_readsTown 127 = .ok (.if_icmp .ge 18, 3) := by decide +kernel
theorem dX4_readsTown_130 : decode cX4_readsTown 130 = .ok (.aload_n 0, 1) := by decide +kernel
theorem dX4_readsTown_131 : decode cX4_readsTown 131 = .ok (.iload_n 1, 1) := by decide +kernel
theorem dX4_readsTown_132 : decode cX4_readsTown 132 = .ok (.iload_n 2, 1) := by decide +kernel
theorem dX4_readsTown_133 : decode cX4_readsTown 133 = .ok (.iload 4, 2) := by decide +kernel
theorem dX4_readsTown_135 : decode cX4_readsTown 135 = .ok (.invokevirtual 121, 3) := by decide +kernel
theorem dX4_readsTown_138 : decode cX4_readsTown 138 = .ok (.istore_n 3, 1) := by decide +kernel
theorem dX4_readsTown_139 : decode cX4_readsTown 139 = .ok (.iinc 4 1, 3) := by decide +kernel
theorem dX4_readsTown_142 : decode cX4_readsTown 142 = .ok (.goto (-30), 3) := by decide +kernel
theorem dX4_readsTown_145 : decode cX4_readsTown 145 = .ok (.iload_n 3, 1) := by decide +kernel
theorem dX4_readsTown_146 : decode cX4_readsTown 146 = .ok (.ifCond .eq 15, 3) := by decide +kernel
theorem dX4_readsTown_149 : decode cX4_readsTown 149 = .ok (.aload_n 0, 1) := by decide +kernel
theorem dX4_readsTown_150 : decode cX4_readsTown 150 = .ok (.getfield 90, 3) := by decide +kernel
theorem dX4_readsTown_153 : decode cX4_readsTown 153 = .ok (.iload_n 2, 1) := by decide +kernel
theorem dX4_readsTown_154 : decode cX4_readsTown 154 = .ok (.if_icmp .ne 7, 3) := by decide +kernel
theorem dX4_readsTown_157 : decode cX4_readsTown 157 = .ok (.iconst 1, 1) := by decide +kernel
theorem dX4_readsTown_158 : decode cX4_readsTown 158 = .ok (.goto 4, 3) := by decide +kernel
theorem dX4_readsTown_161 : decode cX4_readsTown 161 = .ok (.iconst 0, 1) := by decide +kernel
theorem dX4_readsTown_162 : decode cX4_readsTown 162 = .ok (.ireturn, 1) := by decide +kernel
set_option maxRecDepth 20000 in
theorem ggX4_cellsBarred_X4_failed : GoodIn wsX4_cellsBarred wsX4_failed := goodIn_r _ [7, 8, 12, 13, 14, 15, 16, 17, 18, 19, 20, 21, 22, 23, 24, 25, 26, 27, 28, 29, 30, 31, 32, 33, 34, 35, 36, 37, 38, 39, 40, 41, 42, 43] (by decide +kernel) (by decide +kernel)
set_option maxRecDepth 20000 in
theorem gX4_cellsBarred_X4_failed : GoodIn wsX4_cellsBarred (wsV RX4 124 RX4 yX4_failed wsX4_failed) := goodIn_app (goodIn_of _ (by decide +kernel)) ggX4_cellsBarred_X4_failed
set_option maxRecDepth 20000 in
theorem ggX4_cellsBarred_X4_isBeyond : GoodIn wsX4_cellsBarred wsX4_isBeyond := goodIn_r _ [11] (by decide +kernel) (by decide +kernel)
set_option maxRecDepth 20000 in
theorem gX4_cellsBarred_X4_isBeyond : GoodIn wsX4_cellsBarred (va_wsS RX4 128 yX4_isBeyond wsX4_isBeyond) := goodIn_app (goodIn_of _ (by decide +kernel)) ggX4_cellsBarred_X4_isBeyond
theorem dX4_cellsBarred_0 : decode cX4_cellsBarred 0 = .ok (.aload_n 0, 1) := by decide +kernel
theorem dX4_cellsBarred_1 : decode cX4_cellsBarred 1 = .ok (.getfield 52, 3) := by decide +kernel
theorem dX4_cellsBarred_4 : decode cX4_cellsBarred 4 = .ok (.iload_n 1, 1) := by decide +kernel
theorem dX4_cellsBarred_5 : decode cX4_cellsBarred 5 = .ok (.iaload, 1) := by decide +kernel
theorem dX4_cellsBarred_6 : decode cX4_cellsBarred 6 = .ok (.ifCond .lt 19, 3) := by decide +kernel
theorem dX4_cellsBarred_9 : decode cX4_cellsBarred 9 = .ok (.aload_n 0, 1) := by decide +kernel
theorem dX4_cellsBarred_10 : decode cX4_cellsBarred 10 = .ok (.getfield 55, 3) := by decide +kernel
theorem dX4_cellsBarred_13 : decode cX4_cellsBarred 13 = .ok (.iload_n 1, 1) := by decide +kernel
theorem dX4_cellsBarred_14 : decode cX4_cellsBarred 14 = .ok (.iaload, 1) := by decide +kernel
theorem dX4_cellsBarred_15 : decode cX4_cellsBarred 15 = .ok (.iload_n 2, 1) := by decide +kernel
theorem dX4_cellsBarred_16 : decode cX4_cellsBarred 16 = .ok (.if_icmp .eq 9, 3) := by decide +kernel
theorem dX4_cellsBarred_19 : decode cX4_cellsBarred 19 = .ok (.aload_n 0, 1) := by decide +kernel
theorem dX4_cellsBarred_20 : decode cX4_cellsBarred 20 = .ok (.iconst 2, 1) := by decide +kernel
theorem dX4_cellsBarred_21 : decode cX4_cellsBarred 21 = .ok (.invokevirtual 124, 3) := by decide +kernel
theorem dX4_cellsBarred_24 : decode cX4_cellsBarred 24 = .ok (.ireturn, 1) := by decide +kernel
theorem dX4_cellsBarred_25 : decode cX4_cellsBarred 25 = .ok (.aload_n 0, 1) := by decide +kernel
theorem dX4_cellsBarred_26 : decode cX4_cellsBarred 26 = .ok (.getfield 52, 3) := by decide +kernel
theorem dX4_cellsBarred_29 : decode cX4_cellsBarred 29 = .ok (.iload_n 1, 1) := by decide +kernel
theorem dX4_cellsBarred_30 : decode cX4_cellsBarred 30 = .ok (.iaload, 1) := by decide +kernel
theorem dX4_cellsBarred_31 : decode cX4_cellsBarred 31 = .ok (.ifCond .ge 9, 3) := by decide +kernel
theorem dX4_cellsBarred_34 : decode cX4_cellsBarred 34 = .ok (.aload_n 0, 1) := by decide +kernel
theorem dX4_cellsBarred_35 : decode cX4_cellsBarred 35 = .ok (.iconst 1, 1) := by decide +kernel
theorem dX4_cellsBarred_36 : decode cX4_cellsBarred 36 = .ok (.invokevirtual 124, 3) := by decide +kernel
theorem dX4_cellsBarred_39 : decode cX4_cellsBarred 39 = .ok (.ireturn, 1) := by decide +kernel
theorem dX4_cellsBarred_40 : decode cX4_cellsBarred 40 = .ok (.lload 4, 2) := by decide +kernel
theorem dX4_cellsBarred_42 : decode cX4_cellsBarred 42 = .ok (.lconst 0, 1) := by decide +kernel
theorem dX4_cellsBarred_43 : decode cX4_cellsBarred 43 = .ok (.lcmp, 1) := by decide +kernel
theorem dX4_cellsBarred_44 : decode cX4_cellsBarred 44 = .ok (.ifCond .ge 9, 3) := by decide +kernel
theorem dX4_cellsBarred_47 : decode cX4_cellsBarred 47 = .ok (.aload_n 0, 1) := by decide +kernel
theorem dX4_cellsBarred_48 : decode cX4_cellsBarred 48 = .ok (.iconst 4, 1) := by decide +kernel
theorem dX4_cellsBarred_49 : decode cX4_cellsBarred 49 = .ok (.invokevirtual 124, 3) := by decide +kernel
theorem dX4_cellsBarred_52 : decode cX4_cellsBarred 52 = .ok (.ireturn, 1) := by decide +kernel
theorem dX4_cellsBarred_53 : decode cX4_cellsBarred 53 = .ok (.iload_n 3, 1) := by decide +kernel
theorem dX4_cellsBarred_54 : decode cX4_cellsBarred 54 = .ok (.lload 4, 2) := by decide +kernel
theorem dX4_cellsBarred_56 : decode cX4_cellsBarred 56 = .ok (.aload_n 0, 1) := by decide +kernel
theorem dX4_cellsBarred_57 : decode cX4_cellsBarred 57 = .ok (.getfield 52, 3) := by decide +kernel
theorem dX4_cellsBarred_60 : decode cX4_cellsBarred 60 = .ok (.iload_n 1, 1) := by decide +kernel
theorem dX4_cellsBarred_61 : decode cX4_cellsBarred 61 = .ok (.iaload, 1) := by decide +kernel
theorem dX4_cellsBarred_62 : decode cX4_cellsBarred 62 = .ok (.invokestatic 128, 3) := by decide +kernel
theorem dX4_cellsBarred_65 : decode cX4_cellsBarred 65 = .ok (.ifCond .eq 11, 3) := by decide +kernel
theorem dX4_cellsBarred_68 : decode cX4_cellsBarred 68 = .ok (.aload_n 0, 1) := by decide +kernel
theorem dX4_cellsBarred_69 : decode cX4_cellsBarred 69 = .ok (.iconst 3, 1) := by decide +kernel
theorem dX4_cellsBarred_70 : decode cX4_cellsBarred 70 = .ok (.invokevirtual 124, 3) := by decide +kernel
theorem dX4_cellsBarred_73 : decode cX4_cellsBarred 73 = .ok (.goto 4, 3) := by decide +kernel
theorem dX4_cellsBarred_76 : decode cX4_cellsBarred 76 = .ok (.iconst 0, 1) := by decide +kernel
theorem dX4_cellsBarred_77 : decode cX4_cellsBarred 77 = .ok (.ireturn, 1) := by decide +kernel
set_option maxRecDepth 20000 in
theorem ggX4_town_X4_noSheet : GoodIn wsX4_town wsX4_noSheet := goodIn_r _ [27, 28, 29, 30, 26, 31] (by decide +kernel) (by decide +kernel)
set_option maxRecDepth 20000 in
theorem gX4_town_X4_noSheet : GoodIn wsX4_town (va_wsS RX4 132 yX4_noSheet wsX4_noSheet) := goodIn_app (goodIn_of _ (by decide +kernel)) ggX4_town_X4_noSheet
set_option maxRecDepth 20000 in
theorem ggX4_town_X4_refused : GoodIn wsX4_town wsX4_refused := goodIn_r _ [35, 36, 75, 76, 77, 78, 79, 80, 81, 82, 83, 84, 85, 86, 87, 88, 89, 90, 91, 92, 93, 94, 95, 96, 97, 98, 99, 100, 101, 102, 103, 104, 105, 106] (by decide +kernel) (by decide +kernel)
set_option maxRecDepth 20000 in
theorem gX4_town_X4_refused : GoodIn wsX4_town (wsV RX4 136 RX4 yX4_refused wsX4_refused) := goodIn_app (goodIn_of _ (by decide +kernel)) ggX4_town_X4_refused
set_option maxRecDepth 20000 in
theorem ggX4_town_X4_in : GoodIn wsX4_town wsX4_in := goodIn_r _ [31] (by decide +kernel) (by decide +kernel)
set_option maxRecDepth 20000 in
theorem gX4_town_X4_in : GoodIn wsX4_town (va_wsS RX4 80 yX4_in wsX4_in) := goodIn_app (goodIn_of _ (by decide +kernel)) ggX4_town_X4_in
set_option maxRecDepth 20000 in
theorem ggX4_town_X4_cellsBarred : GoodIn wsX4_town wsX4_cellsBarred := goodIn_r _ [40, 41, 42, 43, 44, 45, 26, 46, 36, 47, 48, 49, 75, 76, 77, 78, 79, 80, 81, 82, 83, 84, 85, 86, 87, 88, 89, 90, 91, 92, 93, 94, 95, 96, 97, 98, 99, 100, 101, 102, 103, 104, 105, 106] (by decide +kernel) (by decide +kernel)
set_option maxRecDepth 20000 in
theorem gX4_town_X4_cellsBarred : GoodIn wsX4_town (wsV RX4 141 RX4 yX4_cellsBarred wsX4_cellsBarred) := goodIn_app (goodIn_of _ (by decide +kernel)) ggX4_town_X4_cellsBarred
set_option maxRecDepth 20000 in
theorem ggX4_town_X4_readsTown : GoodIn wsX4_town wsX4_readsTown := goodIn_r _ [53, 2, 7, 9, 3, 5, 54, 55, 56, 26, 57, 58, 59, 60, 61, 62, 29, 30, 31, 63, 64, 65, 66, 67, 68, 69, 70, 12, 14, 71, 72, 73, 74, 17, 19, 21, 75, 76, 77, 78, 79, 80, 81, 82, 83, 84, 85, 86, 87, 88, 89, 90, 91, 92, 93, 94, 95, 96, 97, 98, 99, 100, 101, 102, 103, 104, 105, 106] (by decide +kernel) (by decide +kernel)
set_option maxRecDepth 20000 in
theorem gX4_town_X4_readsTown : GoodIn wsX4_town (wsV RX4 145 RX4 yX4_readsTown wsX4_readsTown) := goodIn_app (goodIn_of _ (by decide +kernel)) ggX4_town_X4_readsTown
theorem dX4_town_0 : decode cX4_town 0 = .ok (.iload_n 1, 1) := by decide +kernel
theorem dX4_town_1 : decode cX4_town 1 = .ok (.invokestatic 132, 3) := by decide +kernel
theorem dX4_town_4 : decode cX4_town 4 = .ok (.ifCond .eq 9, 3) := by decide +kernel
theorem dX4_town_7 : decode cX4_town 7 = .ok (.aload_n 0, 1) := by decide +kernel
theorem dX4_town_8 : decode cX4_town 8 = .ok (.iconst (-1), 1) := by decide +kernel
theorem dX4_town_9 : decode cX4_town 9 = .ok (.invokevirtual 136, 3) := by decide +kernel
theorem dX4_town_12 : decode cX4_town 12 = .ok (.ireturn, 1) := by decide +kernel
theorem dX4_town_13 : decode cX4_town 13 = .ok (.iload_n 2, 1) := by decide +kernel
theorem dX4_town_14 : decode cX4_town 14 = .ok (.i2l, 1) := by decide +kernel
theorem dX4_town_15 : decode cX4_town 15 = .ok (.lconst 0, 1) := by decide +kernel
theorem dX4_town_16 : decode cX4_town 16 = .ok (.ldc2_w 139, 3) := by decide +kernel
theorem dX4_town_19 : decode cX4_town 19 = .ok (.invokestatic 80, 3) := by decide +kernel
theorem dX4_town_22 : decode cX4_town 22 = .ok (.ifCond .ne 10, 3) := by decide +kernel
theorem dX4_town_25 : decode cX4_town 25 = .ok (.aload_n 0, 1) := by decide +kernel
theorem dX4_town_26 : decode cX4_town 26 = .ok (.bipush (-2), 2) := by decide +kernel
theorem dX4_town_28 : decode cX4_town 28 = .ok (.invokevirtual 136, 3) := by decide +kernel
theorem dX4_town_31 : decode cX4_town 31 = .ok (.ireturn, 1) := by decide +kernel
theorem dX4_town_32 : decode cX4_town 32 = .ok (.aload_n 0, 1) := by decide +kernel
theorem dX4_town_33 : decode cX4_town 33 = .ok (.iload_n 1, 1) := by decide +kernel
theorem dX4_town_34 : decode cX4_town 34 = .ok (.iload_n 2, 1) := by decide +kernel
theorem dX4_town_35 : decode cX4_town 35 = .ok (.iload_n 3, 1) := by decide +kernel
theorem dX4_town_36 : decode cX4_town 36 = .ok (.iload 4, 2) := by decide +kernel
theorem dX4_town_38 : decode cX4_town 38 = .ok (.i2l, 1) := by decide +kernel
theorem dX4_town_39 : decode cX4_town 39 = .ok (.invokevirtual 141, 3) := by decide +kernel
theorem dX4_town_42 : decode cX4_town 42 = .ok (.istore 5, 2) := by decide +kernel
theorem dX4_town_44 : decode cX4_town 44 = .ok (.iload 5, 2) := by decide +kernel
theorem dX4_town_46 : decode cX4_town 46 = .ok (.ifCond .ge 6, 3) := by decide +kernel
theorem dX4_town_49 : decode cX4_town 49 = .ok (.iload 5, 2) := by decide +kernel
theorem dX4_town_51 : decode cX4_town 51 = .ok (.ireturn, 1) := by decide +kernel
theorem dX4_town_52 : decode cX4_town 52 = .ok (.aload_n 0, 1) := by decide +kernel
theorem dX4_town_53 : decode cX4_town 53 = .ok (.bipush 60, 2) := by decide +kernel
theorem dX4_town_55 : decode cX4_town 55 = .ok (.iload_n 1, 1) := by decide +kernel
theorem dX4_town_56 : decode cX4_town 56 = .ok (.imul, 1) := by decide +kernel
theorem dX4_town_57 : decode cX4_town 57 = .ok (.iload_n 3, 1) := by decide +kernel
theorem dX4_town_58 : decode cX4_town 58 = .ok (.iadd, 1) := by decide +kernel
theorem dX4_town_59 : decode cX4_town 59 = .ok (.iload 4, 2) := by decide +kernel
theorem dX4_town_61 : decode cX4_town 61 = .ok (.invokevirtual 145, 3) := by decide +kernel
theorem dX4_town_64 : decode cX4_town 64 = .ok (.ifCond .ne 15, 3) := by decide +kernel
theorem dX4_town_67 : decode cX4_town 67 = .ok (.aload_n 0, 1) := by decide +kernel
theorem dX4_town_68 : decode cX4_town 68 = .ok (.bipush (-100), 2) := by decide +kernel
theorem dX4_town_70 : decode cX4_town 70 = .ok (.aload_n 0, 1) := by decide +kernel
theorem dX4_town_71 : decode cX4_town 71 = .ok (.getfield 90, 3) := by decide +kernel
theorem dX4_town_74 : decode cX4_town 74 = .ok (.isub, 1) := by decide +kernel
theorem dX4_town_75 : decode cX4_town 75 = .ok (.invokevirtual 136, 3) := by decide +kernel
theorem dX4_town_78 : decode cX4_town 78 = .ok (.ireturn, 1) := by decide +kernel
theorem dX4_town_79 : decode cX4_town 79 = .ok (.aload_n 0, 1) := by decide +kernel
theorem dX4_town_80 : decode cX4_town 80 = .ok (.aload_n 0, 1) := by decide +kernel
theorem dX4_town_81 : decode cX4_town 81 = .ok (.getfield 118, 3) := by decide +kernel
theorem dX4_town_84 : decode cX4_town 84 = .ok (.putfield 74, 3) := by decide +kernel
theorem dX4_town_87 : decode cX4_town 87 = .ok (.aload_n 0, 1) := by decide +kernel
theorem dX4_town_88 : decode cX4_town 88 = .ok (.aload_n 0, 1) := by decide +kernel
theorem dX4_town_89 : decode cX4_town 89 = .ok (.getfield 107, 3) := by decide +kernel
theorem dX4_town_92 : decode cX4_town 92 = .ok (.putfield 77, 3) := by decide +kernel
theorem dX4_town_95 : decode cX4_town 95 = .ok (.aload_n 0, 1) := by decide +kernel
theorem dX4_town_96 : decode cX4_town 96 = .ok (.aload_n 0, 1) := by decide +kernel
theorem dX4_town_97 : decode cX4_town 97 = .ok (.getfield 97, 3) := by decide +kernel
theorem dX4_town_100 : decode cX4_town 100 = .ok (.putfield 84, 3) := by decide +kernel
theorem dX4_town_103 : decode cX4_town 103 = .ok (.aload_n 0, 1) := by decide +kernel
theorem dX4_town_104 : decode cX4_town 104 = .ok (.aload_n 0, 1) := by decide +kernel
theorem dX4_town_105 : decode cX4_town 105 = .ok (.getfield 104, 3) := by decide +kernel
theorem dX4_town_108 : decode cX4_town 108 = .ok (.putfield 87, 3) := by decide +kernel
theorem dX4_town_111 : decode cX4_town 111 = .ok (.iconst 0, 1) := by decide +kernel
theorem dX4_town_112 : decode cX4_town 112 = .ok (.istore 6, 2) := by decide +kernel
theorem dX4_town_114 : decode cX4_town 114 = .ok (.iload 6, 2) := by decide +kernel
theorem dX4_town_116 : decode cX4_town 116 = .ok (.aload_n 0, 1) := by decide +kernel
theorem dX4_town_117 : decode cX4_town 117 = .ok (.getfield 84, 3) := by decide +kernel
theorem dX4_town_120 : decode cX4_town 120 = .ok (.if_icmp .ge 45, 3) := by decide +kernel
theorem dX4_town_123 : decode cX4_town 123 = .ok (.aload_n 0, 1) := by decide +kernel
theorem dX4_town_124 : decode cX4_town 124 = .ok (.getfield 7, 3) := by decide +kernel
theorem dX4_town_127 : decode cX4_town 127 = .ok (.iload 6, 2) := by decide +kernel
theorem dX4_town_129 : decode cX4_town 129 = .ok (.aload_n 0, 1) := by decide +kernel
theorem dX4_town_130 : decode cX4_town 130 = .ok (.getfield 28, 3) := by decide +kernel
theorem dX4_town_133 : decode cX4_town 133 = .ok (.iload 6, 2) := by decide +kernel
theorem dX4_town_135 : decode cX4_town 135 = .ok (.iaload, 1) := by decide +kernel
theorem dX4_town_136 : decode cX4_town 136 = .ok (.iastore, 1) := by decide +kernel
theorem dX4_town_137 : decode cX4_town 137 = .ok (.aload_n 0, 1) := by decide +kernel
theorem dX4_town_138 : decode cX4_town 138 = .ok (.getfield 13, 3) := by decide +kernel
theorem dX4_town_141 : decode cX4_town 141 = .ok (.iload 6, 2) := by decide +kernel
theorem dX4_town_143 : decode cX4_town 143 = .ok (.aload_n 0, 1) := by decide +kernel
theorem dX4_town_144 : decode cX4_town 144 = .ok (.getfield 31, 3) := by decide +kernel
theorem dX4_town_147 : decode cX4_town 147 = .ok (.iload 6, 2) := by decide +kernel
theorem dX4_town_149 : decode cX4_town 149 = .ok (.iaload, 1) := by decide +kernel
theorem dX4_town_150 : decode cX4_town 150 = .ok (.iastore, 1) := by decide +kernel
theorem dX4_town_151 : decode cX4_town 151 = .ok (.aload_n 0, 1) := by decide +kernel
theorem dX4_town_152 : decode cX4_town 152 = .ok (.getfield 16, 3) := by decide +kernel
theorem dX4_town_155 : decode cX4_town 155 = .ok (.iload 6, 2) := by decide +kernel
theorem dX4_town_157 : decode cX4_town 157 = .ok (.iconst 0, 1) := by decide +kernel
theorem dX4_town_158 : decode cX4_town 158 = .ok (.iastore, 1) := by decide +kernel
theorem dX4_town_159 : decode cX4_town 159 = .ok (.iinc 6 1, 3) := by decide +kernel
theorem dX4_town_162 : decode cX4_town 162 = .ok (.goto (-48), 3) := by decide +kernel
theorem dX4_town_165 : decode cX4_town 165 = .ok (.iconst 0, 1) := by decide +kernel
theorem dX4_town_166 : decode cX4_town 166 = .ok (.istore 6, 2) := by decide +kernel
theorem dX4_town_168 : decode cX4_town 168 = .ok (.iload 6, 2) := by decide +kernel
theorem dX4_town_170 : decode cX4_town 170 = .ok (.aload_n 0, 1) := by decide +kernel
theorem dX4_town_171 : decode cX4_town 171 = .ok (.getfield 87, 3) := by decide +kernel
theorem dX4_town_174 : decode cX4_town 174 = .ok (.if_icmp .ge 51, 3) := by decide +kernel
theorem dX4_town_177 : decode cX4_town 177 = .ok (.aload_n 0, 1) := by decide +kernel
theorem dX4_town_178 : decode cX4_town 178 = .ok (.getfield 19, 3) := by decide +kernel
theorem dX4_town_181 : decode cX4_town 181 = .ok (.iload 6, 2) := by decide +kernel
theorem dX4_town_183 : decode cX4_town 183 = .ok (.aload_n 0, 1) := by decide +kernel
theorem dX4_town_184 : decode cX4_town 184 = .ok (.getfield 34, 3) := by decide +kernel
theorem dX4_town_187 : decode cX4_town 187 = .ok (.iload 6, 2) := by decide +kernel
theorem dX4_town_189 : decode cX4_town 189 = .ok (.iaload, 1) := by decide +kernel
theorem dX4_town_190 : decode cX4_town 190 = .ok (.iastore, 1) := by decide +kernel
theorem dX4_town_191 : decode cX4_town 191 = .ok (.aload_n 0, 1) := by decide +kernel
theorem dX4_town_192 : decode cX4_town 192 = .ok (.getfield 22, 3) := by decide +kernel
theorem dX4_town_195 : decode cX4_town 195 = .ok (.iload 6, 2) := by decide +kernel
theorem dX4_town_197 : decode cX4_town 197 = .ok (.aload_n 0, 1) := by decide +kernel
theorem dX4_town_198 : decode cX4_town 198 = .ok (.getfield 37, 3) := by decide +kernel
theorem dX4_town_201 : decode cX4_town 201 = .ok (.iload 6, 2) := by decide +kernel
theorem dX4_town_203 : decode cX4_town 203 = .ok (.iaload, 1) := by decide +kernel
theorem dX4_town_204 : decode cX4_town 204 = .ok (.iastore, 1) := by decide +kernel
theorem dX4_town_205 : decode cX4_town 205 = .ok (.aload_n 0, 1) := by decide +kernel
theorem dX4_town_206 : decode cX4_town 206 = .ok (.getfield 25, 3) := by decide +kernel
theorem dX4_town_209 : decode cX4_town 209 = .ok (.iload 6, 2) := by decide +kernel
theorem dX4_town_211 : decode cX4_town 211 = .ok (.aload_n 0, 1) := by decide +kernel
theorem dX4_town_212 : decode cX4_town 212 = .ok (.getfield 40, 3) := by decide +kernel
theorem dX4_town_215 : decode cX4_town 215 = .ok (.iload 6, 2) := by decide +kernel
theorem dX4_town_217 : decode cX4_town 217 = .ok (.iaload, 1) := by decide +kernel
theorem dX4_town_218 : decode cX4_town 218 = .ok (.iastore, 1) := by decide +kernel
theorem dX4_town_219 : decode cX4_town 219 = .ok (.iinc 6 1, 3) := by decide +kernel
theorem dX4_town_222 : decode cX4_town 222 = .ok (.goto (-54), 3) := by decide +kernel
theorem dX4_town_225 : decode cX4_town 225 = .ok (.aload_n 0, 1) := by decide +kernel
theorem dX4_town_226 : decode cX4_town 226 = .ok (.iconst 0, 1) := by decide +kernel
theorem dX4_town_227 : decode cX4_town 227 = .ok (.putfield 149, 3) := by decide +kernel
theorem dX4_town_230 : decode cX4_town 230 = .ok (.aload_n 0, 1) := by decide +kernel
theorem dX4_town_231 : decode cX4_town 231 = .ok (.iconst 0, 1) := by decide +kernel
theorem dX4_town_232 : decode cX4_town 232 = .ok (.putfield 152, 3) := by decide +kernel
theorem dX4_town_235 : decode cX4_town 235 = .ok (.aload_n 0, 1) := by decide +kernel
theorem dX4_town_236 : decode cX4_town 236 = .ok (.aload_n 0, 1) := by decide +kernel
theorem dX4_town_237 : decode cX4_town 237 = .ok (.getfield 87, 3) := by decide +kernel
theorem dX4_town_240 : decode cX4_town 240 = .ok (.invokevirtual 136, 3) := by decide +kernel
theorem dX4_town_243 : decode cX4_town 243 = .ok (.ireturn, 1) := by decide +kernel
theorem dX4_mindsOfOne_0 : decode cX4_mindsOfOne 0 = .ok (.aload_n 0, 1) := by decide +kernel
theorem dX4_mindsOfOne_1 : decode cX4_mindsOfOne 1 = .ok (.getfield 25, 3) := by decide +kernel
theorem dX4_mindsOfOne_4 : decode cX4_mindsOfOne 4 = .ok (.iload_n 1, 1) := by decide +kernel
theorem dX4_mindsOfOne_5 : decode cX4_mindsOfOne 5 = .ok (.iaload, 1) := by decide +kernel
theorem dX4_mindsOfOne_6 : decode cX4_mindsOfOne 6 = .ok (.istore_n 2, 1) := by decide +kernel
theorem dX4_mindsOfOne_7 : decode cX4_mindsOfOne 7 = .ok (.aload_n 0, 1) := by decide +kernel
theorem dX4_mindsOfOne_8 : decode cX4_mindsOfOne 8 = .ok (.getfield 22, 3) := by decide +kernel
theorem dX4_mindsOfOne_11 : decode cX4_mindsOfOne 11 = .ok (.iload_n 1, 1) := by decide +kernel
theorem dX4_mindsOfOne_12 : decode cX4_mindsOfOne 12 = .ok (.iaload, 1) := by decide +kernel
theorem dX4_mindsOfOne_13 : decode cX4_mindsOfOne 13 = .ok (.ifCond .ne 7, 3) := by decide +kernel
theorem dX4_mindsOfOne_16 : decode cX4_mindsOfOne 16 = .ok (.iload_n 2, 1) := by decide +kernel
theorem dX4_mindsOfOne_17 : decode cX4_mindsOfOne 17 = .ok (.goto 24, 3) := by decide +kernel
theorem dX4_mindsOfOne_20 : decode cX4_mindsOfOne 20 = .ok (.aload_n 0, 1) := by decide +kernel
theorem dX4_mindsOfOne_21 : decode cX4_mindsOfOne 21 = .ok (.getfield 22, 3) := by decide +kernel
theorem dX4_mindsOfOne_24 : decode cX4_mindsOfOne 24 = .ok (.iload_n 1, 1) := by decide +kernel
theorem dX4_mindsOfOne_25 : decode cX4_mindsOfOne 25 = .ok (.iaload, 1) := by decide +kernel
theorem dX4_mindsOfOne_26 : decode cX4_mindsOfOne 26 = .ok (.iconst 1, 1) := by decide +kernel
theorem dX4_mindsOfOne_27 : decode cX4_mindsOfOne 27 = .ok (.if_icmp .ne 9, 3) := by decide +kernel
theorem dX4_mindsOfOne_30 : decode cX4_mindsOfOne 30 = .ok (.iload_n 2, 1) := by decide +kernel
theorem dX4_mindsOfOne_31 : decode cX4_mindsOfOne 31 = .ok (.iconst 1, 1) := by decide +kernel
theorem dX4_mindsOfOne_32 : decode cX4_mindsOfOne 32 = .ok (.iadd, 1) := by decide +kernel
theorem dX4_mindsOfOne_33 : decode cX4_mindsOfOne 33 = .ok (.goto 8, 3) := by decide +kernel
theorem dX4_mindsOfOne_36 : decode cX4_mindsOfOne 36 = .ok (.iconst 2, 1) := by decide +kernel
theorem dX4_mindsOfOne_37 : decode cX4_mindsOfOne 37 = .ok (.iload_n 2, 1) := by decide +kernel
theorem dX4_mindsOfOne_38 : decode cX4_mindsOfOne 38 = .ok (.iconst 1, 1) := by decide +kernel
theorem dX4_mindsOfOne_39 : decode cX4_mindsOfOne 39 = .ok (.iadd, 1) := by decide +kernel
theorem dX4_mindsOfOne_40 : decode cX4_mindsOfOne 40 = .ok (.imul, 1) := by decide +kernel
theorem dX4_mindsOfOne_41 : decode cX4_mindsOfOne 41 = .ok (.ireturn, 1) := by decide +kernel
set_option maxRecDepth 20000 in
theorem ggX4_ofWard_X4_noWard : GoodIn wsX4_ofWard wsX4_noWard := goodIn_r _ [8, 9, 10, 11, 7, 12, 17, 18, 19, 20, 21, 22, 23, 24, 25, 26, 27, 28, 29, 30, 31, 32, 33, 34, 35, 36, 37, 38, 39, 40, 41, 42, 43, 44, 45, 46, 47, 48] (by decide +kernel) (by decide +kernel)
set_option maxRecDepth 20000 in
theorem gX4_ofWard_X4_noWard : GoodIn wsX4_ofWard (wsV RX4 155 RX4 yX4_noWard wsX4_noWard) := goodIn_app (goodIn_of _ (by decide +kernel)) ggX4_ofWard_X4_noWard
set_option maxRecDepth 20000 in
theorem ggX4_ofWard_X4_mindsOfOne : GoodIn wsX4_ofWard wsX4_mindsOfOne := goodIn_r _ [16, 2, 1, 17, 18, 19, 20, 21, 22, 23, 24, 25, 26, 27, 28, 29, 30, 31, 32, 33, 34, 35, 36, 37, 38, 39, 40, 41, 42, 43, 44, 45, 46, 47, 48] (by decide +kernel) (by decide +kernel)
set_option maxRecDepth 20000 in
theorem gX4_ofWard_X4_mindsOfOne : GoodIn wsX4_ofWard (wsV RX4 158 RX4 yX4_mindsOfOne wsX4_mindsOfOne) := goodIn_app (goodIn_of _ (by decide +kernel)) ggX4_ofWard_X4_mindsOfOne
theorem dX4_ofWard_0 : decode cX4_ofWard 0 = .ok (.aload_n 0, 1) := by decide +kernel
theorem dX4_ofWard_1 : decode cX4_ofWard 1 = .ok (.iload_n 1, 1) := by decide +kernel
theorem dX4_ofWard_2 : decode cX4_ofWard 2 = .ok (.invokevirtual 155, 3) := by decide +kernel
theorem dX4_ofWard_5 : decode cX4_ofWard 5 = .ok (.ifCond .eq 5, 3) := by decide +kernel
theorem dX4_ofWard_8 : decode cX4_ofWard 8 = .ok (.iconst (-1), 1) := by decide +kernel
theorem dX4_ofWard_9 : decode cX4_ofWard 9 = .ok (.ireturn, 1) := by decide +kernel
theorem dX4_ofWard_10 : decode cX4_ofWard 10 = .ok (.iload_n 2, 1) := by decide +kernel
theorem dX4_ofWard_11 : decode cX4_ofWard 11 = .ok (.tableswitch 56 0 3 #[29, 36, 43, 50], 29) := by decide +kernel
theorem dX4_ofWard_40 : decode cX4_ofWard 40 = .ok (.aload_n 0, 1) := by decide +kernel
theorem dX4_ofWard_41 : decode cX4_ofWard 41 = .ok (.getfield 22, 3) := by decide +kernel
theorem dX4_ofWard_44 : decode cX4_ofWard 44 = .ok (.iload_n 1, 1) := by decide +kernel
theorem dX4_ofWard_45 : decode cX4_ofWard 45 = .ok (.iaload, 1) := by decide +kernel
theorem dX4_ofWard_46 : decode cX4_ofWard 46 = .ok (.ireturn, 1) := by decide +kernel
theorem dX4_ofWard_47 : decode cX4_ofWard 47 = .ok (.aload_n 0, 1) := by decide +kernel
theorem dX4_ofWard_48 : decode cX4_ofWard 48 = .ok (.getfield 25, 3) := by decide +kernel
theorem dX4_ofWard_51 : decode cX4_ofWard 51 = .ok (.iload_n 1, 1) := by decide +kernel
theorem dX4_ofWard_52 : decode cX4_ofWard 52 = .ok (.iaload, 1) := by decide +kernel
theorem dX4_ofWard_53 : decode cX4_ofWard 53 = .ok (.ireturn, 1) := by decide +kernel
theorem dX4_ofWard_54 : decode cX4_ofWard 54 = .ok (.aload_n 0, 1) := by decide +kernel
theorem dX4_ofWard_55 : decode cX4_ofWard 55 = .ok (.getfield 19, 3) := by decide +kernel
theorem dX4_ofWard_58 : decode cX4_ofWard 58 = .ok (.iload_n 1, 1) := by decide +kernel
theorem dX4_ofWard_59 : decode cX4_ofWard 59 = .ok (.iaload, 1) := by decide +kernel
theorem dX4_ofWard_60 : decode cX4_ofWard 60 = .ok (.ireturn, 1) := by decide +kernel
theorem dX4_ofWard_61 : decode cX4_ofWard 61 = .ok (.aload_n 0, 1) := by decide +kernel
theorem dX4_ofWard_62 : decode cX4_ofWard 62 = .ok (.iload_n 1, 1) := by decide +kernel
theorem dX4_ofWard_63 : decode cX4_ofWard 63 = .ok (.invokevirtual 158, 3) := by decide +kernel
theorem dX4_ofWard_66 : decode cX4_ofWard 66 = .ok (.ireturn, 1) := by decide +kernel
theorem dX4_ofWard_67 : decode cX4_ofWard 67 = .ok (.bipush (-2), 2) := by decide +kernel
theorem dX4_ofWard_69 : decode cX4_ofWard 69 = .ok (.ireturn, 1) := by decide +kernel
set_option maxRecDepth 20000 in
theorem ggX4_ofWork_X4_noWork : GoodIn wsX4_ofWork wsX4_noWork := goodIn_r _ [8, 9, 10, 11, 7, 12, 13, 14, 15, 16, 17, 18, 19, 20, 21, 22, 23, 24, 25, 26, 27, 28, 29, 30, 31, 32, 33, 34, 35, 36, 37, 38, 39, 40, 41, 42, 43, 44] (by decide +kernel) (by decide +kernel)
set_option maxRecDepth 20000 in
theorem gX4_ofWork_X4_noWork : GoodIn wsX4_ofWork (wsV RX4 161 RX4 yX4_noWork wsX4_noWork) := goodIn_app (goodIn_of _ (by decide +kernel)) ggX4_ofWork_X4_noWork
theorem dX4_ofWork_0 : decode cX4_ofWork 0 = .ok (.aload_n 0, 1) := by decide +kernel
theorem dX4_ofWork_1 : decode cX4_ofWork 1 = .ok (.iload_n 1, 1) := by decide +kernel
theorem dX4_ofWork_2 : decode cX4_ofWork 2 = .ok (.invokevirtual 161, 3) := by decide +kernel
theorem dX4_ofWork_5 : decode cX4_ofWork 5 = .ok (.ifCond .eq 5, 3) := by decide +kernel
theorem dX4_ofWork_8 : decode cX4_ofWork 8 = .ok (.iconst (-1), 1) := by decide +kernel
theorem dX4_ofWork_9 : decode cX4_ofWork 9 = .ok (.ireturn, 1) := by decide +kernel
theorem dX4_ofWork_10 : decode cX4_ofWork 10 = .ok (.iload_n 2, 1) := by decide +kernel
theorem dX4_ofWork_11 : decode cX4_ofWork 11 = .ok (.ifCond .ne 12, 3) := by decide +kernel
theorem dX4_ofWork_14 : decode cX4_ofWork 14 = .ok (.aload_n 0, 1) := by decide +kernel
theorem dX4_ofWork_15 : decode cX4_ofWork 15 = .ok (.getfield 7, 3) := by decide +kernel
theorem dX4_ofWork_18 : decode cX4_ofWork 18 = .ok (.iload_n 1, 1) := by decide +kernel
theorem dX4_ofWork_19 : decode cX4_ofWork 19 = .ok (.iaload, 1) := by decide +kernel
theorem dX4_ofWork_20 : decode cX4_ofWork 20 = .ok (.goto 33, 3) := by decide +kernel
theorem dX4_ofWork_23 : decode cX4_ofWork 23 = .ok (.iload_n 2, 1) := by decide +kernel
theorem dX4_ofWork_24 : decode cX4_ofWork 24 = .ok (.iconst 1, 1) := by decide +kernel
theorem dX4_ofWork_25 : decode cX4_ofWork 25 = .ok (.if_icmp .ne 12, 3) := by decide +kernel
theorem dX4_ofWork_28 : decode cX4_ofWork 28 = .ok (.aload_n 0, 1) := by decide +kernel
theorem dX4_ofWork_29 : decode cX4_ofWork 29 = .ok (.getfield 13, 3) := by decide +kernel
theorem dX4_ofWork_32 : decode cX4_ofWork 32 = .ok (.iload_n 1, 1) := by decide +kernel
theorem dX4_ofWork_33 : decode cX4_ofWork 33 = .ok (.iaload, 1) := by decide +kernel
theorem dX4_ofWork_34 : decode cX4_ofWork 34 = .ok (.goto 19, 3) := by decide +kernel
theorem dX4_ofWork_37 : decode cX4_ofWork 37 = .ok (.iload_n 2, 1) := by decide +kernel
theorem dX4_ofWork_38 : decode cX4_ofWork 38 = .ok (.iconst 2, 1) := by decide +kernel
theorem dX4_ofWork_39 : decode cX4_ofWork 39 = .ok (.if_icmp .ne 12, 3) := by decide +kernel
theorem dX4_ofWork_42 : decode cX4_ofWork 42 = .ok (.aload_n 0, 1) := by decide +kernel
theorem dX4_ofWork_43 : decode cX4_ofWork 43 = .ok (.getfield 16, 3) := by decide +kernel
theorem dX4_ofWork_46 : decode cX4_ofWork 46 = .ok (.iload_n 1, 1) := by decide +kernel
theorem dX4_ofWork_47 : decode cX4_ofWork 47 = .ok (.iaload, 1) := by decide +kernel
theorem dX4_ofWork_48 : decode cX4_ofWork 48 = .ok (.goto 5, 3) := by decide +kernel
theorem dX4_ofWork_51 : decode cX4_ofWork 51 = .ok (.bipush (-2), 2) := by decide +kernel
theorem dX4_ofWork_53 : decode cX4_ofWork 53 = .ok (.ireturn, 1) := by decide +kernel
set_option maxRecDepth 20000 in
theorem ggX4_law_X4_in : GoodIn wsX4_law wsX4_in := goodIn_r _ [7] (by decide +kernel) (by decide +kernel)
set_option maxRecDepth 20000 in
theorem gX4_law_X4_in : GoodIn wsX4_law (va_wsS RX4 80 yX4_in wsX4_in) := goodIn_app (goodIn_of _ (by decide +kernel)) ggX4_law_X4_in
theorem dX4_law_0 : decode cX4_law 0 = .ok (.iload_n 1, 1) := by decide +kernel
theorem dX4_law_1 : decode cX4_law 1 = .ok (.i2l, 1) := by decide +kernel
theorem dX4_law_2 : decode cX4_law 2 = .ok (.lconst 0, 1) := by decide +kernel
theorem dX4_law_3 : decode cX4_law 3 = .ok (.ldc2_w 139, 3) := by decide +kernel
theorem dX4_law_6 : decode cX4_law 6 = .ok (.invokestatic 80, 3) := by decide +kernel
theorem dX4_law_9 : decode cX4_law 9 = .ok (.ifCond .ne 6, 3) := by decide +kernel
theorem dX4_law_12 : decode cX4_law 12 = .ok (.bipush (-2), 2) := by decide +kernel
theorem dX4_law_14 : decode cX4_law 14 = .ok (.ireturn, 1) := by decide +kernel
theorem dX4_law_15 : decode cX4_law 15 = .ok (.aload_n 0, 1) := by decide +kernel
theorem dX4_law_16 : decode cX4_law 16 = .ok (.getfield 74, 3) := by decide +kernel
theorem dX4_law_19 : decode cX4_law 19 = .ok (.ifCond .ne 6, 3) := by decide +kernel
theorem dX4_law_22 : decode cX4_law 22 = .ok (.bipush (-3), 2) := by decide +kernel
theorem dX4_law_24 : decode cX4_law 24 = .ok (.ireturn, 1) := by decide +kernel
theorem dX4_law_25 : decode cX4_law 25 = .ok (.aload_n 0, 1) := by decide +kernel
theorem dX4_law_26 : decode cX4_law 26 = .ok (.getfield 149, 3) := by decide +kernel
theorem dX4_law_29 : decode cX4_law 29 = .ok (.istore_n 2, 1) := by decide +kernel
theorem dX4_law_30 : decode cX4_law 30 = .ok (.aload_n 0, 1) := by decide +kernel
theorem dX4_law_31 : decode cX4_law 31 = .ok (.iload_n 1, 1) := by decide +kernel
theorem dX4_law_32 : decode cX4_law 32 = .ok (.putfield 149, 3) := by decide +kernel
theorem dX4_law_35 : decode cX4_law 35 = .ok (.iload_n 2, 1) := by decide +kernel
theorem dX4_law_36 : decode cX4_law 36 = .ok (.ireturn, 1) := by decide +kernel
set_option maxRecDepth 20000 in
theorem ggX4_turn_X4_noWork : GoodIn wsX4_turn wsX4_noWork := goodIn_r _ [7, 8, 9, 10, 6, 11, 12, 13, 14, 15, 16, 17, 18, 19, 20, 21, 22, 23, 24, 25, 26, 27, 28, 29, 30, 31, 32, 33, 34, 35, 36, 37, 38, 39, 40, 41, 42, 43] (by decide +kernel) (by decide +kernel)
set_option maxRecDepth 20000 in
theorem gX4_turn_X4_noWork : GoodIn wsX4_turn (wsV RX4 161 RX4 yX4_noWork wsX4_noWork) := goodIn_app (goodIn_of _ (by decide +kernel)) ggX4_turn_X4_noWork
set_option maxRecDepth 20000 in
theorem ggX4_turn_X4_in : GoodIn wsX4_turn wsX4_in := goodIn_r _ [11] (by decide +kernel) (by decide +kernel)
set_option maxRecDepth 20000 in
theorem gX4_turn_X4_in : GoodIn wsX4_turn (va_wsS RX4 80 yX4_in wsX4_in) := goodIn_app (goodIn_of _ (by decide +kernel)) ggX4_turn_X4_in
theorem dX4_turn_0 : decode cX4_turn 0 = .ok (.aload_n 0, 1) := by decide +kernel
theorem dX4_turn_1 : decode cX4_turn 1 = .ok (.iload_n 1, 1) := by decide +kernel
theorem dX4_turn_2 : decode cX4_turn 2 = .ok (.invokevirtual 161, 3) := by decide +kernel
theorem dX4_turn_5 : decode cX4_turn 5 = .ok (.ifCond .eq 5, 3) := by decide +kernel
theorem dX4_turn_8 : decode cX4_turn 8 = .ok (.iconst (-1), 1) := by decide +kernel
theorem dX4_turn_9 : decode cX4_turn 9 = .ok (.ireturn, 1) := by decide +kernel
theorem dX4_turn_10 : decode cX4_turn 10 = .ok (.iload_n 2, 1) := by decide +kernel
theorem dX4_turn_11 : decode cX4_turn 11 = .ok (.i2l, 1) := by decide +kernel
theorem dX4_turn_12 : decode cX4_turn 12 = .ok (.lconst 0, 1) := by decide +kernel
theorem dX4_turn_13 : decode cX4_turn 13 = .ok (.ldc2_w 164, 3) := by decide +kernel
theorem dX4_turn_16 : decode cX4_turn 16 = .ok (.invokestatic 80, 3) := by decide +kernel
theorem dX4_turn_19 : decode cX4_turn 19 = .ok (.ifCond .ne 6, 3) := by decide +kernel
theorem dX4_turn_22 : decode cX4_turn 22 = .ok (.bipush (-2), 2) := by decide +kernel
theorem dX4_turn_24 : decode cX4_turn 24 = .ok (.ireturn, 1) := by decide +kernel
theorem dX4_turn_25 : decode cX4_turn 25 = .ok (.aload_n 0, 1) := by decide +kernel
theorem dX4_turn_26 : decode cX4_turn 26 = .ok (.getfield 16, 3) := by decide +kernel
theorem dX4_turn_29 : decode cX4_turn 29 = .ok (.iload_n 1, 1) := by decide +kernel
theorem dX4_turn_30 : decode cX4_turn 30 = .ok (.iaload, 1) := by decide +kernel
theorem dX4_turn_31 : decode cX4_turn 31 = .ok (.istore_n 3, 1) := by decide +kernel
theorem dX4_turn_32 : decode cX4_turn 32 = .ok (.aload_n 0, 1) := by decide +kernel
theorem dX4_turn_33 : decode cX4_turn 33 = .ok (.getfield 16, 3) := by decide +kernel
theorem dX4_turn_36 : decode cX4_turn 36 = .ok (.iload_n 1, 1) := by decide +kernel
theorem dX4_turn_37 : decode cX4_turn 37 = .ok (.iload_n 2, 1) := by decide +kernel
theorem dX4_turn_38 : decode cX4_turn 38 = .ok (.iastore, 1) := by decide +kernel
theorem dX4_turn_39 : decode cX4_turn 39 = .ok (.iload_n 3, 1) := by decide +kernel
theorem dX4_turn_40 : decode cX4_turn 40 = .ok (.ireturn, 1) := by decide +kernel
theorem dX4_comesTo_0 : decode cX4_comesTo 0 = .ok (.iload_n 2, 1) := by decide +kernel
theorem dX4_comesTo_1 : decode cX4_comesTo 1 = .ok (.aload_n 0, 1) := by decide +kernel
theorem dX4_comesTo_2 : decode cX4_comesTo 2 = .ok (.getfield 77, 3) := by decide +kernel
theorem dX4_comesTo_5 : decode cX4_comesTo 5 = .ok (.idiv, 1) := by decide +kernel
theorem dX4_comesTo_6 : decode cX4_comesTo 6 = .ok (.aload_n 0, 1) := by decide +kernel
theorem dX4_comesTo_7 : decode cX4_comesTo 7 = .ok (.getfield 7, 3) := by decide +kernel
theorem dX4_comesTo_10 : decode cX4_comesTo 10 = .ok (.iload_n 1, 1) := by decide +kernel
theorem dX4_comesTo_11 : decode cX4_comesTo 11 = .ok (.iaload, 1) := by decide +kernel
theorem dX4_comesTo_12 : decode cX4_comesTo 12 = .ok (.aload_n 0, 1) := by decide +kernel
theorem dX4_comesTo_13 : decode cX4_comesTo 13 = .ok (.getfield 77, 3) := by decide +kernel
theorem dX4_comesTo_16 : decode cX4_comesTo 16 = .ok (.idiv, 1) := by decide +kernel
theorem dX4_comesTo_17 : decode cX4_comesTo 17 = .ok (.isub, 1) := by decide +kernel
theorem dX4_comesTo_18 : decode cX4_comesTo 18 = .ok (.istore_n 3, 1) := by decide +kernel
theorem dX4_comesTo_19 : decode cX4_comesTo 19 = .ok (.iload_n 2, 1) := by decide +kernel
theorem dX4_comesTo_20 : decode cX4_comesTo 20 = .ok (.aload_n 0, 1) := by decide +kernel
theorem dX4_comesTo_21 : decode cX4_comesTo 21 = .ok (.getfield 77, 3) := by decide +kernel
theorem dX4_comesTo_24 : decode cX4_comesTo 24 = .ok (.irem, 1) := by decide +kernel
theorem dX4_comesTo_25 : decode cX4_comesTo 25 = .ok (.aload_n 0, 1) := by decide +kernel
theorem dX4_comesTo_26 : decode cX4_comesTo 26 = .ok (.getfield 7, 3) := by decide +kernel
theorem dX4_comesTo_29 : decode cX4_comesTo 29 = .ok (.iload_n 1, 1) := by decide +kernel
theorem dX4_comesTo_30 : decode cX4_comesTo 30 = .ok (.iaload, 1) := by decide +kernel
theorem dX4_comesTo_31 : decode cX4_comesTo 31 = .ok (.aload_n 0, 1) := by decide +kernel
theorem dX4_comesTo_32 : decode cX4_comesTo 32 = .ok (.getfield 77, 3) := by decide +kernel
theorem dX4_comesTo_35 : decode cX4_comesTo 35 = .ok (.irem, 1) := by decide +kernel
theorem dX4_comesTo_36 : decode cX4_comesTo 36 = .ok (.isub, 1) := by decide +kernel
theorem dX4_comesTo_37 : decode cX4_comesTo 37 = .ok (.istore 4, 2) := by decide +kernel
theorem dX4_comesTo_39 : decode cX4_comesTo 39 = .ok (.aload_n 0, 1) := by decide +kernel
theorem dX4_comesTo_40 : decode cX4_comesTo 40 = .ok (.getfield 16, 3) := by decide +kernel
theorem dX4_comesTo_43 : decode cX4_comesTo 43 = .ok (.iload_n 1, 1) := by decide +kernel
theorem dX4_comesTo_44 : decode cX4_comesTo 44 = .ok (.iaload, 1) := by decide +kernel
theorem dX4_comesTo_45 : decode cX4_comesTo 45 = .ok (.iconst 2, 1) := by decide +kernel
theorem dX4_comesTo_46 : decode cX4_comesTo 46 = .ok (.irem, 1) := by decide +kernel
theorem dX4_comesTo_47 : decode cX4_comesTo 47 = .ok (.ifCond .ne 16, 3) := by decide +kernel
theorem dX4_comesTo_50 : decode cX4_comesTo 50 = .ok (.iload 4, 2) := by decide +kernel
theorem dX4_comesTo_52 : decode cX4_comesTo 52 = .ok (.ifCond .ne 7, 3) := by decide +kernel
theorem dX4_comesTo_55 : decode cX4_comesTo 55 = .ok (.iconst 1, 1) := by decide +kernel
theorem dX4_comesTo_56 : decode cX4_comesTo 56 = .ok (.goto 16, 3) := by decide +kernel
theorem dX4_comesTo_59 : decode cX4_comesTo 59 = .ok (.iconst 0, 1) := by decide +kernel
theorem dX4_comesTo_60 : decode cX4_comesTo 60 = .ok (.goto 12, 3) := by decide +kernel
theorem dX4_comesTo_63 : decode cX4_comesTo 63 = .ok (.iload_n 3, 1) := by decide +kernel
theorem dX4_comesTo_64 : decode cX4_comesTo 64 = .ok (.ifCond .ne 7, 3) := by decide +kernel
theorem dX4_comesTo_67 : decode cX4_comesTo 67 = .ok (.iconst 1, 1) := by decide +kernel
theorem dX4_comesTo_68 : decode cX4_comesTo 68 = .ok (.goto 4, 3) := by decide +kernel
theorem dX4_comesTo_71 : decode cX4_comesTo 71 = .ok (.iconst 0, 1) := by decide +kernel
theorem dX4_comesTo_72 : decode cX4_comesTo 72 = .ok (.istore 5, 2) := by decide +kernel
theorem dX4_comesTo_74 : decode cX4_comesTo 74 = .ok (.aload_n 0, 1) := by decide +kernel
theorem dX4_comesTo_75 : decode cX4_comesTo 75 = .ok (.getfield 16, 3) := by decide +kernel
theorem dX4_comesTo_78 : decode cX4_comesTo 78 = .ok (.iload_n 1, 1) := by decide +kernel
theorem dX4_comesTo_79 : decode cX4_comesTo 79 = .ok (.iaload, 1) := by decide +kernel
theorem dX4_comesTo_80 : decode cX4_comesTo 80 = .ok (.ifCond .ne 8, 3) := by decide +kernel
theorem dX4_comesTo_83 : decode cX4_comesTo 83 = .ok (.iload_n 3, 1) := by decide +kernel
theorem dX4_comesTo_84 : decode cX4_comesTo 84 = .ok (.ineg, 1) := by decide +kernel
theorem dX4_comesTo_85 : decode cX4_comesTo 85 = .ok (.goto 35, 3) := by decide +kernel
theorem dX4_comesTo_88 : decode cX4_comesTo 88 = .ok (.aload_n 0, 1) := by decide +kernel
theorem dX4_comesTo_89 : decode cX4_comesTo 89 = .ok (.getfield 16, 3) := by decide +kernel
theorem dX4_comesTo_92 : decode cX4_comesTo 92 = .ok (.iload_n 1, 1) := by decide +kernel
theorem dX4_comesTo_93 : decode cX4_comesTo 93 = .ok (.iaload, 1) := by decide +kernel
theorem dX4_comesTo_94 : decode cX4_comesTo 94 = .ok (.iconst 1, 1) := by decide +kernel
theorem dX4_comesTo_95 : decode cX4_comesTo 95 = .ok (.if_icmp .ne 8, 3) := by decide +kernel
theorem dX4_comesTo_98 : decode cX4_comesTo 98 = .ok (.iload 4, 2) := by decide +kernel
theorem dX4_comesTo_100 : decode cX4_comesTo 100 = .ok (.goto 20, 3) := by decide +kernel
theorem dX4_comesTo_103 : decode cX4_comesTo 103 = .ok (.aload_n 0, 1) := by decide +kernel
theorem dX4_comesTo_104 : decode cX4_comesTo 104 = .ok (.getfield 16, 3) := by decide +kernel
theorem dX4_comesTo_107 : decode cX4_comesTo 107 = .ok (.iload_n 1, 1) := by decide +kernel
theorem dX4_comesTo_108 : decode cX4_comesTo 108 = .ok (.iaload, 1) := by decide +kernel
theorem dX4_comesTo_109 : decode cX4_comesTo 109 = .ok (.iconst 2, 1) := by decide +kernel
theorem dX4_comesTo_110 : decode cX4_comesTo 110 = .ok (.if_icmp .ne 7, 3) := by decide +kernel
theorem dX4_comesTo_113 : decode cX4_comesTo 113 = .ok (.iload_n 3, 1) := by decide +kernel
theorem dX4_comesTo_114 : decode cX4_comesTo 114 = .ok (.goto 6, 3) := by decide +kernel
theorem dX4_comesTo_117 : decode cX4_comesTo 117 = .ok (.iload 4, 2) := by decide +kernel
theorem dX4_comesTo_119 : decode cX4_comesTo 119 = .ok (.ineg, 1) := by decide +kernel
theorem dX4_comesTo_120 : decode cX4_comesTo 120 = .ok (.istore 6, 2) := by decide +kernel
theorem dX4_comesTo_122 : decode cX4_comesTo 122 = .ok (.iload 5, 2) := by decide +kernel
theorem dX4_comesTo_124 : decode cX4_comesTo 124 = .ok (.ifCond .eq 31, 3) := by decide +kernel
theorem dX4_comesTo_127 : decode cX4_comesTo 127 = .ok (.iload 6, 2) := by decide +kernel
theorem dX4_comesTo_129 : decode cX4_comesTo 129 = .ok (.ifCond .lt 26, 3) := by decide +kernel
theorem dX4_comesTo_132 : decode cX4_comesTo 132 = .ok (.iload 6, 2) := by decide +kernel
theorem dX4_comesTo_134 : decode cX4_comesTo 134 = .ok (.aload_n 0, 1) := by decide +kernel
theorem dX4_comesTo_135 : decode cX4_comesTo 135 = .ok (.getfield 13, 3) := by decide +kernel
theorem dX4_comesTo_138 : decode cX4_comesTo 138 = .ok (.iload_n 1, 1) := by decide +kernel
theorem dX4_comesTo_139 : decode cX4_comesTo 139 = .ok (.iaload, 1) := by decide +kernel
theorem dX4_comesTo_140 : decode cX4_comesTo 140 = .ok (.if_icmp .ge 15, 3) := by decide +kernel
theorem dX4_comesTo_143 : decode cX4_comesTo 143 = .ok (.aload_n 0, 1) := by decide +kernel
theorem dX4_comesTo_144 : decode cX4_comesTo 144 = .ok (.getfield 13, 3) := by decide +kernel
theorem dX4_comesTo_147 : decode cX4_comesTo 147 = .ok (.iload_n 1, 1) := by decide +kernel
theorem dX4_comesTo_148 : decode cX4_comesTo 148 = .ok (.iaload, 1) := by decide +kernel
theorem dX4_comesTo_149 : decode cX4_comesTo 149 = .ok (.iload 6, 2) := by decide +kernel
theorem dX4_comesTo_151 : decode cX4_comesTo 151 = .ok (.isub, 1) := by decide +kernel
theorem dX4_comesTo_152 : decode cX4_comesTo 152 = .ok (.goto 4, 3) := by decide +kernel
theorem dX4_comesTo_155 : decode cX4_comesTo 155 = .ok (.iconst 0, 1) := by decide +kernel
theorem dX4_comesTo_156 : decode cX4_comesTo 156 = .ok (.ireturn, 1) := by decide +kernel
set_option maxRecDepth 20000 in
theorem ggX4_smellOf_X4_comesTo : GoodIn wsX4_smellOf wsX4_comesTo := goodIn_r _ [7, 8, 9, 10, 11, 12, 13, 14, 15, 16, 17, 18, 19, 20, 21, 22, 23, 24, 25, 26, 27, 28, 29, 30, 31, 32, 33, 34, 35, 36, 37, 38, 39, 40, 41, 42, 43] (by decide +kernel) (by decide +kernel)
set_option maxRecDepth 20000 in
theorem gX4_smellOf_X4_comesTo : GoodIn wsX4_smellOf (wsV RX4 166 RX4 yX4_comesTo wsX4_comesTo) := goodIn_app (goodIn_of _ (by decide +kernel)) ggX4_smellOf_X4_comesTo
theorem dX4_smellOf_0 : decode cX4_smellOf 0 = .ok (.iconst 0, 1) := by decide +kernel
theorem dX4_smellOf_1 : decode cX4_smellOf 1 = .ok (.istore_n 2, 1) := by decide +kernel
theorem dX4_smellOf_2 : decode cX4_smellOf 2 = .ok (.iconst 0, 1) := by decide +kernel
theorem dX4_smellOf_3 : decode cX4_smellOf 3 = .ok (.istore_n 3, 1) := by decide +kernel
theorem dX4_smellOf_4 : decode cX4_smellOf 4 = .ok (.iload_n 3, 1) := by decide +kernel
theorem dX4_smellOf_5 : decode cX4_smellOf 5 = .ok (.aload_n 0, 1) := by decide +kernel
theorem dX4_smellOf_6 : decode cX4_smellOf 6 = .ok (.getfield 84, 3) := by decide +kernel
theorem dX4_smellOf_9 : decode cX4_smellOf 9 = .ok (.if_icmp .ge 89, 3) := by decide +kernel
theorem dX4_smellOf_12 : decode cX4_smellOf 12 = .ok (.aload_n 0, 1) := by decide +kernel
theorem dX4_smellOf_13 : decode cX4_smellOf 13 = .ok (.iload_n 3, 1) := by decide +kernel
theorem dX4_smellOf_14 : decode cX4_smellOf 14 = .ok (.iload_n 1, 1) := by decide +kernel
theorem dX4_smellOf_15 : decode cX4_smellOf 15 = .ok (.invokevirtual 166, 3) := by decide +kernel
theorem dX4_smellOf_18 : decode cX4_smellOf 18 = .ok (.istore 4, 2) := by decide +kernel
theorem dX4_smellOf_20 : decode cX4_smellOf 20 = .ok (.iload_n 2, 1) := by decide +kernel
theorem dX4_smellOf_21 : decode cX4_smellOf 21 = .ok (.iload 4, 2) := by decide +kernel
theorem dX4_smellOf_23 : decode cX4_smellOf 23 = .ok (.if_icmp .le 10, 3) := by decide +kernel
theorem dX4_smellOf_26 : decode cX4_smellOf 26 = .ok (.iload_n 2, 1) := by decide +kernel
theorem dX4_smellOf_27 : decode cX4_smellOf 27 = .ok (.iload 4, 2) := by decide +kernel
theorem dX4_smellOf_29 : decode cX4_smellOf 29 = .ok (.isub, 1) := by decide +kernel
theorem dX4_smellOf_30 : decode cX4_smellOf 30 = .ok (.goto 7, 3) := by decide +kernel
theorem dX4_smellOf_33 : decode cX4_smellOf 33 = .ok (.iload 4, 2) := by decide +kernel
theorem dX4_smellOf_35 : decode cX4_smellOf 35 = .ok (.iload_n 2, 1) := by decide +kernel
theorem dX4_smellOf_36 : decode cX4_smellOf 36 = .ok (.isub, 1) := by decide +kernel
theorem dX4_smellOf_37 : decode cX4_smellOf 37 = .ok (.istore 5, 2) := by decide +kernel
theorem dX4_smellOf_39 : decode cX4_smellOf 39 = .ok (.iload 4, 2) := by decide +kernel
theorem dX4_smellOf_41 : decode cX4_smellOf 41 = .ok (.iload_n 2, 1) := by decide +kernel
theorem dX4_smellOf_42 : decode cX4_smellOf 42 = .ok (.if_icmp .le 8, 3) := by decide +kernel
theorem dX4_smellOf_45 : decode cX4_smellOf 45 = .ok (.iload 4, 2) := by decide +kernel
theorem dX4_smellOf_47 : decode cX4_smellOf 47 = .ok (.goto 4, 3) := by decide +kernel
theorem dX4_smellOf_50 : decode cX4_smellOf 50 = .ok (.iload_n 2, 1) := by decide +kernel
theorem dX4_smellOf_51 : decode cX4_smellOf 51 = .ok (.istore 6, 2) := by decide +kernel
theorem dX4_smellOf_53 : decode cX4_smellOf 53 = .ok (.aload_n 0, 1) := by decide +kernel
theorem dX4_smellOf_54 : decode cX4_smellOf 54 = .ok (.getfield 149, 3) := by decide +kernel
theorem dX4_smellOf_57 : decode cX4_smellOf 57 = .ok (.ifCond .ne 10, 3) := by decide +kernel
theorem dX4_smellOf_60 : decode cX4_smellOf 60 = .ok (.iload_n 2, 1) := by decide +kernel
theorem dX4_smellOf_61 : decode cX4_smellOf 61 = .ok (.iload 4, 2) := by decide +kernel
theorem dX4_smellOf_63 : decode cX4_smellOf 63 = .ok (.iadd, 1) := by decide +kernel
theorem dX4_smellOf_64 : decode cX4_smellOf 64 = .ok (.goto 27, 3) := by decide +kernel
theorem dX4_smellOf_67 : decode cX4_smellOf 67 = .ok (.aload_n 0, 1) := by decide +kernel
theorem dX4_smellOf_68 : decode cX4_smellOf 68 = .ok (.getfield 149, 3) := by decide +kernel
theorem dX4_smellOf_71 : decode cX4_smellOf 71 = .ok (.iconst 1, 1) := by decide +kernel
theorem dX4_smellOf_72 : decode cX4_smellOf 72 = .ok (.if_icmp .ne 8, 3) := by decide +kernel
theorem dX4_smellOf_75 : decode cX4_smellOf 75 = .ok (.iload 6, 2) := by decide +kernel
theorem dX4_smellOf_77 : decode cX4_smellOf 77 = .ok (.goto 14, 3) := by decide +kernel
theorem dX4_smellOf_80 : decode cX4_smellOf 80 = .ok (.iload 4, 2) := by decide +kernel
theorem dX4_smellOf_82 : decode cX4_smellOf 82 = .ok (.ifCond .le 8, 3) := by decide +kernel
theorem dX4_smellOf_85 : decode cX4_smellOf 85 = .ok (.iload 5, 2) := by decide +kernel
theorem dX4_smellOf_87 : decode cX4_smellOf 87 = .ok (.goto 4, 3) := by decide +kernel
theorem dX4_smellOf_90 : decode cX4_smellOf 90 = .ok (.iload_n 2, 1) := by decide +kernel
theorem dX4_smellOf_91 : decode cX4_smellOf 91 = .ok (.istore_n 2, 1) := by decide +kernel
theorem dX4_smellOf_92 : decode cX4_smellOf 92 = .ok (.iinc 3 1, 3) := by decide +kernel
theorem dX4_smellOf_95 : decode cX4_smellOf 95 = .ok (.goto (-91), 3) := by decide +kernel
theorem dX4_smellOf_98 : decode cX4_smellOf 98 = .ok (.iload_n 2, 1) := by decide +kernel
theorem dX4_smellOf_99 : decode cX4_smellOf 99 = .ok (.ireturn, 1) := by decide +kernel
set_option maxRecDepth 20000 in
theorem ggX4_smell_X4_noSpot : GoodIn wsX4_smell wsX4_noSpot := goodIn_r _ [5, 6, 7, 8, 9, 4, 10, 24, 25, 26, 27, 28, 29, 30, 31, 32, 33, 34, 35, 36, 37, 38, 39, 40, 41, 42, 43, 44, 45, 46, 47, 48, 49, 50, 51, 52, 53, 54, 55] (by decide +kernel) (by decide +kernel)
set_option maxRecDepth 20000 in
theorem gX4_smell_X4_noSpot : GoodIn wsX4_smell (wsV RX4 169 RX4 yX4_noSpot wsX4_noSpot) := goodIn_app (goodIn_of _ (by decide +kernel)) ggX4_smell_X4_noSpot
set_option maxRecDepth 20000 in
theorem ggX4_smell_X4_smellOf : GoodIn wsX4_smell wsX4_smellOf := goodIn_r _ [14, 15, 16, 17, 18, 19, 4, 20, 7, 21, 22, 23, 24, 25, 26, 27, 28, 29, 30, 31, 32, 33, 34, 35, 36, 37, 38, 39, 40, 41, 42, 43, 44, 45, 46, 47, 48, 49, 50, 51, 52, 53, 54, 55] (by decide +kernel) (by decide +kernel)
set_option maxRecDepth 20000 in
theorem gX4_smell_X4_smellOf : GoodIn wsX4_smell (wsV RX4 172 RX4 yX4_smellOf wsX4_smellOf) := goodIn_app (goodIn_of _ (by decide +kernel)) ggX4_smell_X4_smellOf
theorem dX4_smell_0 : decode cX4_smell 0 = .ok (.aload_n 0, 1) := by decide +kernel
theorem dX4_smell_1 : decode cX4_smell 1 = .ok (.iload_n 1, 1) := by decide +kernel
theorem dX4_smell_2 : decode cX4_smell 2 = .ok (.invokevirtual 169, 3) := by decide +kernel
theorem dX4_smell_5 : decode cX4_smell 5 = .ok (.ifCond .eq 7, 3) := by decide +kernel
theorem dX4_smell_8 : decode cX4_smell 8 = .ok (.iconst (-1), 1) := by decide +kernel
theorem dX4_smell_9 : decode cX4_smell 9 = .ok (.goto 8, 3) := by decide +kernel
theorem dX4_smell_12 : decode cX4_smell 12 = .ok (.aload_n 0, 1) := by decide +kernel
theorem dX4_smell_13 : decode cX4_smell 13 = .ok (.iload_n 1, 1) := by decide +kernel
theorem dX4_smell_14 : decode cX4_smell 14 = .ok (.invokevirtual 172, 3) := by decide +kernel
theorem dX4_smell_17 : decode cX4_smell 17 = .ok (.ireturn, 1) := by decide +kernel
set_option maxRecDepth 20000 in
theorem ggX4_mindsNow_X4_mindsOfOne : GoodIn wsX4_mindsNow wsX4_mindsOfOne := goodIn_r _ [6, 7, 8, 23, 24, 25, 26, 27, 28, 29, 30, 31, 32, 33, 34, 35, 36, 37, 38, 39, 40, 41, 42, 43, 44, 45, 46, 47, 48, 49, 50, 51, 52, 53, 54] (by decide +kernel) (by decide +kernel)
set_option maxRecDepth 20000 in
theorem gX4_mindsNow_X4_mindsOfOne : GoodIn wsX4_mindsNow (wsV RX4 158 RX4 yX4_mindsOfOne wsX4_mindsOfOne) := goodIn_app (goodIn_of _ (by decide +kernel)) ggX4_mindsNow_X4_mindsOfOne
set_option maxRecDepth 20000 in
theorem ggX4_mindsNow_X4_smellOf : GoodIn wsX4_mindsNow wsX4_smellOf := goodIn_r _ [12, 13, 14, 15, 16, 17, 5, 18, 19, 20, 21, 22, 23, 24, 25, 26, 27, 28, 29, 30, 31, 32, 33, 34, 35, 36, 37, 38, 39, 40, 41, 42, 43, 44, 45, 46, 47, 48, 49, 50, 51, 52, 53, 54] (by decide +kernel) (by decide +kernel)
set_option maxRecDepth 20000 in
theorem gX4_mindsNow_X4_smellOf : GoodIn wsX4_mindsNow (wsV RX4 172 RX4 yX4_smellOf wsX4_smellOf) := goodIn_app (goodIn_of _ (by decide +kernel)) ggX4_mindsNow_X4_smellOf
theorem dX4_mindsNow_0 : decode cX4_mindsNow 0 = .ok (.aload_n 0, 1) := by decide +kernel
theorem dX4_mindsNow_1 : decode cX4_mindsNow 1 = .ok (.iload_n 1, 1) := by decide +kernel
theorem dX4_mindsNow_2 : decode cX4_mindsNow 2 = .ok (.invokevirtual 158, 3) := by decide +kernel
theorem dX4_mindsNow_5 : decode cX4_mindsNow 5 = .ok (.aload_n 0, 1) := by decide +kernel
theorem dX4_mindsNow_6 : decode cX4_mindsNow 6 = .ok (.aload_n 0, 1) := by decide +kernel
theorem dX4_mindsNow_7 : decode cX4_mindsNow 7 = .ok (.getfield 19, 3) := by decide +kernel
theorem dX4_mindsNow_10 : decode cX4_mindsNow 10 = .ok (.iload_n 1, 1) := by decide +kernel
theorem dX4_mindsNow_11 : decode cX4_mindsNow 11 = .ok (.iaload, 1) := by decide +kernel
theorem dX4_mindsNow_12 : decode cX4_mindsNow 12 = .ok (.invokevirtual 172, 3) := by decide +kernel
theorem dX4_mindsNow_15 : decode cX4_mindsNow 15 = .ok (.imul, 1) := by decide +kernel
theorem dX4_mindsNow_16 : decode cX4_mindsNow 16 = .ok (.ireturn, 1) := by decide +kernel
set_option maxRecDepth 20000 in
theorem ggX4_minds_X4_noWard : GoodIn wsX4_minds wsX4_noWard := goodIn_r _ [5, 6, 7, 8, 4, 9, 35, 36, 37, 38, 39, 40, 41, 42, 43, 44, 45, 46, 47, 48, 49, 50, 51, 52, 53, 54, 55, 56, 57, 58, 59, 60, 61, 62, 63, 64, 65, 66] (by decide +kernel) (by decide +kernel)
set_option maxRecDepth 20000 in
theorem gX4_minds_X4_noWard : GoodIn wsX4_minds (wsV RX4 155 RX4 yX4_noWard wsX4_noWard) := goodIn_app (goodIn_of _ (by decide +kernel)) ggX4_minds_X4_noWard
set_option maxRecDepth 20000 in
theorem ggX4_minds_X4_mindsNow : GoodIn wsX4_minds wsX4_mindsNow := goodIn_r _ [13, 14, 15, 16, 17, 4, 18, 19, 20, 21, 22, 23, 24, 25, 26, 27, 28, 29, 30, 31, 32, 33, 34, 35, 36, 37, 38, 39, 40, 41, 42, 43, 44, 45, 46, 47, 48, 49, 50, 51, 52, 53, 54, 55, 56, 57, 58, 59, 60, 61, 62, 63, 64, 65, 66] (by decide +kernel) (by decide +kernel)
set_option maxRecDepth 20000 in
theorem gX4_minds_X4_mindsNow : GoodIn wsX4_minds (wsV RX4 175 RX4 yX4_mindsNow wsX4_mindsNow) := goodIn_app (goodIn_of _ (by decide +kernel)) ggX4_minds_X4_mindsNow
theorem dX4_minds_0 : decode cX4_minds 0 = .ok (.aload_n 0, 1) := by decide +kernel
theorem dX4_minds_1 : decode cX4_minds 1 = .ok (.iload_n 1, 1) := by decide +kernel
theorem dX4_minds_2 : decode cX4_minds 2 = .ok (.invokevirtual 155, 3) := by decide +kernel
theorem dX4_minds_5 : decode cX4_minds 5 = .ok (.ifCond .eq 7, 3) := by decide +kernel
theorem dX4_minds_8 : decode cX4_minds 8 = .ok (.iconst (-1), 1) := by decide +kernel
theorem dX4_minds_9 : decode cX4_minds 9 = .ok (.goto 8, 3) := by decide +kernel
theorem dX4_minds_12 : decode cX4_minds 12 = .ok (.aload_n 0, 1) := by decide +kernel
theorem dX4_minds_13 : decode cX4_minds 13 = .ok (.iload_n 1, 1) := by decide +kernel
theorem dX4_minds_14 : decode cX4_minds 14 = .ok (.invokevirtual 175, 3) := by decide +kernel
theorem dX4_minds_17 : decode cX4_minds 17 = .ok (.ireturn, 1) := by decide +kernel
set_option maxRecDepth 20000 in
theorem ggX4_burdenNow_X4_mindsNow : GoodIn wsX4_burdenNow wsX4_mindsNow := goodIn_r _ [6, 7, 8, 9, 10, 5, 11, 12, 13, 14, 15, 16, 17, 18, 19, 20, 21, 22, 23, 24, 25, 26, 27, 28, 29, 30, 31, 32, 33, 34, 35, 36, 37, 38, 39, 40, 41, 42, 43, 44, 45, 46, 47, 48, 49, 50, 51, 52, 53, 54, 55, 56, 57, 58, 59] (by decide +kernel) (by decide +kernel)
set_option maxRecDepth 20000 in
theorem gX4_burdenNow_X4_mindsNow : GoodIn wsX4_burdenNow (wsV RX4 175 RX4 yX4_mindsNow wsX4_mindsNow) := goodIn_app (goodIn_of _ (by decide +kernel)) ggX4_burdenNow_X4_mindsNow
theorem dX4_burdenNow_0 : decode cX4_burdenNow 0 = .ok (.iconst 0, 1) := by decide +kernel
theorem dX4_burdenNow_1 : decode cX4_burdenNow 1 = .ok (.istore_n 1, 1) := by decide +kernel
theorem dX4_burdenNow_2 : decode cX4_burdenNow 2 = .ok (.iconst 0, 1) := by decide +kernel
theorem dX4_burdenNow_3 : decode cX4_burdenNow 3 = .ok (.istore_n 2, 1) := by decide +kernel
theorem dX4_burdenNow_4 : decode cX4_burdenNow 4 = .ok (.iload_n 2, 1) := by decide +kernel
theorem dX4_burdenNow_5 : decode cX4_burdenNow 5 = .ok (.aload_n 0, 1) := by decide +kernel
theorem dX4_burdenNow_6 : decode cX4_burdenNow 6 = .ok (.getfield 87, 3) := by decide +kernel
theorem dX4_burdenNow_9 : decode cX4_burdenNow 9 = .ok (.if_icmp .ge 17, 3) := by decide +kernel
theorem dX4_burdenNow_12 : decode cX4_burdenNow 12 = .ok (.iload_n 1, 1) := by decide +kernel
theorem dX4_burdenNow_13 : decode cX4_burdenNow 13 = .ok (.aload_n 0, 1) := by decide +kernel
theorem dX4_burdenNow_14 : decode cX4_burdenNow 14 = .ok (.iload_n 2, 1) := by decide +kernel
theorem dX4_burdenNow_15 : decode cX4_burdenNow 15 = .ok (.invokevirtual 175, 3) := by decide +kernel
theorem dX4_burdenNow_18 : decode cX4_burdenNow 18 = .ok (.iadd, 1) := by decide +kernel
theorem dX4_burdenNow_19 : decode cX4_burdenNow 19 = .ok (.istore_n 1, 1) := by decide +kernel
theorem dX4_burdenNow_20 : decode cX4_burdenNow 20 = .ok (.iinc 2 1, 3) := by decide +kernel
theorem dX4_burdenNow_23 : decode cX4_burdenNow 23 = .ok (.goto (-19), 3) := by decide +kernel
theorem dX4_burdenNow_26 : decode cX4_burdenNow 26 = .ok (.iload_n 1, 1) := by decide +kernel
theorem dX4_burdenNow_27 : decode cX4_burdenNow 27 = .ok (.ireturn, 1) := by decide +kernel
set_option maxRecDepth 20000 in
theorem ggX4_burden_X4_burdenNow : GoodIn wsX4_burden wsX4_burdenNow := goodIn_r _ [6, 7, 8, 9, 10, 5, 11, 12, 13, 14, 15, 16, 17, 18, 19, 20, 21, 22, 23, 24, 25, 26, 27, 28, 29, 30, 31, 32, 33, 34, 35, 36, 37, 38, 39, 40, 41, 42, 43, 44, 45, 46, 47, 48, 49, 50, 51, 52, 53, 54, 55, 56, 57, 58, 59, 60, 61, 62, 63, 64] (by decide +kernel) (by decide +kernel)
set_option maxRecDepth 20000 in
theorem gX4_burden_X4_burdenNow : GoodIn wsX4_burden (wsV RX4 178 RX4 yX4_burdenNow wsX4_burdenNow) := goodIn_app (goodIn_of _ (by decide +kernel)) ggX4_burden_X4_burdenNow
theorem dX4_burden_0 : decode cX4_burden 0 = .ok (.aload_n 0, 1) := by decide +kernel
theorem dX4_burden_1 : decode cX4_burden 1 = .ok (.getfield 74, 3) := by decide +kernel
theorem dX4_burden_4 : decode cX4_burden 4 = .ok (.ifCond .ne 8, 3) := by decide +kernel
theorem dX4_burden_7 : decode cX4_burden 7 = .ok (.bipush (-3), 2) := by decide +kernel
theorem dX4_burden_9 : decode cX4_burden 9 = .ok (.goto 7, 3) := by decide +kernel
theorem dX4_burden_12 : decode cX4_burden 12 = .ok (.aload_n 0, 1) := by decide +kernel
theorem dX4_burden_13 : decode cX4_burden 13 = .ok (.invokevirtual 178, 3) := by decide +kernel
theorem dX4_burden_16 : decode cX4_burden 16 = .ok (.ireturn, 1) := by decide +kernel
theorem dX4_vanesNow_0 : decode cX4_vanesNow 0 = .ok (.iconst 0, 1) := by decide +kernel
theorem dX4_vanesNow_1 : decode cX4_vanesNow 1 = .ok (.istore_n 1, 1) := by decide +kernel
theorem dX4_vanesNow_2 : decode cX4_vanesNow 2 = .ok (.iconst 0, 1) := by decide +kernel
theorem dX4_vanesNow_3 : decode cX4_vanesNow 3 = .ok (.istore_n 2, 1) := by decide +kernel
theorem dX4_vanesNow_4 : decode cX4_vanesNow 4 = .ok (.iload_n 2, 1) := by decide +kernel
theorem dX4_vanesNow_5 : decode cX4_vanesNow 5 = .ok (.aload_n 0, 1) := by decide +kernel
theorem dX4_vanesNow_6 : decode cX4_vanesNow 6 = .ok (.getfield 84, 3) := by decide +kernel
theorem dX4_vanesNow_9 : decode cX4_vanesNow 9 = .ok (.if_icmp .ge 20, 3) := by decide +kernel
theorem dX4_vanesNow_12 : decode cX4_vanesNow 12 = .ok (.iconst 4, 1) := by decide +kernel
theorem dX4_vanesNow_13 : decode cX4_vanesNow 13 = .ok (.iload_n 1, 1) := by decide +kernel
theorem dX4_vanesNow_14 : decode cX4_vanesNow 14 = .ok (.imul, 1) := by decide +kernel
theorem dX4_vanesNow_15 : decode cX4_vanesNow 15 = .ok (.aload_n 0, 1) := by decide +kernel
theorem dX4_vanesNow_16 : decode cX4_vanesNow 16 = .ok (.getfield 16, 3) := by decide +kernel
theorem dX4_vanesNow_19 : decode cX4_vanesNow 19 = .ok (.iload_n 2, 1) := by decide +kernel
theorem dX4_vanesNow_20 : decode cX4_vanesNow 20 = .ok (.iaload, 1) := by decide +kernel
theorem dX4_vanesNow_21 : decode cX4_vanesNow 21 = .ok (.iadd, 1) := by decide +kernel
theorem dX4_vanesNow_22 : decode cX4_vanesNow 22 = .ok (.istore_n 1, 1) := by decide +kernel
theorem dX4_vanesNow_23 : decode cX4_vanesNow 23 = .ok (.iinc 2 1, 3) := by decide +kernel
theorem dX4_vanesNow_26 : decode cX4_vanesNow 26 = .ok (.goto (-22), 3) := by decide +kernel
theorem dX4_vanesNow_29 : decode cX4_vanesNow 29 = .ok (.iload_n 1, 1) := by decide +kernel
theorem dX4_vanesNow_30 : decode cX4_vanesNow 30 = .ok (.ireturn, 1) := by decide +kernel
theorem dX4_turnAll_0 : decode cX4_turnAll 0 = .ok (.iload_n 1, 1) := by decide +kernel
theorem dX4_turnAll_1 : decode cX4_turnAll 1 = .ok (.istore_n 2, 1) := by decide +kernel
theorem dX4_turnAll_2 : decode cX4_turnAll 2 = .ok (.aload_n 0, 1) := by decide +kernel
theorem dX4_turnAll_3 : decode cX4_turnAll 3 = .ok (.getfield 84, 3) := by decide +kernel
theorem dX4_turnAll_6 : decode cX4_turnAll 6 = .ok (.iconst 1, 1) := by decide +kernel
theorem dX4_turnAll_7 : decode cX4_turnAll 7 = .ok (.isub, 1) := by decide +kernel
theorem dX4_turnAll_8 : decode cX4_turnAll 8 = .ok (.istore_n 3, 1) := by decide +kernel
theorem dX4_turnAll_9 : decode cX4_turnAll 9 = .ok (.iload_n 3, 1) := by decide +kernel
theorem dX4_turnAll_10 : decode cX4_turnAll 10 = .ok (.ifCond .lt 22, 3) := by decide +kernel
theorem dX4_turnAll_13 : decode cX4_turnAll 13 = .ok (.aload_n 0, 1) := by decide +kernel
theorem dX4_turnAll_14 : decode cX4_turnAll 14 = .ok (.getfield 16, 3) := by decide +kernel
theorem dX4_turnAll_17 : decode cX4_turnAll 17 = .ok (.iload_n 3, 1) := by decide +kernel
theorem dX4_turnAll_18 : decode cX4_turnAll 18 = .ok (.iload_n 2, 1) := by decide +kernel
theorem dX4_turnAll_19 : decode cX4_turnAll 19 = .ok (.iconst 4, 1) := by decide +kernel
theorem dX4_turnAll_20 : decode cX4_turnAll 20 = .ok (.irem, 1) := by decide +kernel
theorem dX4_turnAll_21 : decode cX4_turnAll 21 = .ok (.iastore, 1) := by decide +kernel
theorem dX4_turnAll_22 : decode cX4_turnAll 22 = .ok (.iload_n 2, 1) := by decide +kernel
theorem dX4_turnAll_23 : decode cX4_turnAll 23 = .ok (.iconst 4, 1) := by decide +kernel
theorem dX4_turnAll_24 : decode cX4_turnAll 24 = .ok (.idiv, 1) := by decide +kernel
theorem dX4_turnAll_25 : decode cX4_turnAll 25 = .ok (.istore_n 2, 1) := by decide +kernel
theorem dX4_turnAll_26 : decode cX4_turnAll 26 = .ok (.iinc 3 (-1), 3) := by decide +kernel
theorem dX4_turnAll_29 : decode cX4_turnAll 29 = .ok (.goto (-20), 3) := by decide +kernel
theorem dX4_turnAll_32 : decode cX4_turnAll 32 = .ok (.return_, 1) := by decide +kernel
theorem dX4_rows_0 : decode cX4_rows 0 = .ok (.iconst 1, 1) := by decide +kernel
theorem dX4_rows_1 : decode cX4_rows 1 = .ok (.istore_n 1, 1) := by decide +kernel
theorem dX4_rows_2 : decode cX4_rows 2 = .ok (.iconst 0, 1) := by decide +kernel
theorem dX4_rows_3 : decode cX4_rows 3 = .ok (.istore_n 2, 1) := by decide +kernel
theorem dX4_rows_4 : decode cX4_rows 4 = .ok (.iload_n 2, 1) := by decide +kernel
theorem dX4_rows_5 : decode cX4_rows 5 = .ok (.aload_n 0, 1) := by decide +kernel
theorem dX4_rows_6 : decode cX4_rows 6 = .ok (.getfield 84, 3) := by decide +kernel
theorem dX4_rows_9 : decode cX4_rows 9 = .ok (.if_icmp .ge 13, 3) := by decide +kernel
theorem dX4_rows_12 : decode cX4_rows 12 = .ok (.iload_n 1, 1) := by decide +kernel
theorem dX4_rows_13 : decode cX4_rows 13 = .ok (.iconst 4, 1) := by decide +kernel
theorem dX4_rows_14 : decode cX4_rows 14 = .ok (.imul, 1) := by decide +kernel
theorem dX4_rows_15 : decode cX4_rows 15 = .ok (.istore_n 1, 1) := by decide +kernel
theorem dX4_rows_16 : decode cX4_rows 16 = .ok (.iinc 2 1, 3) := by decide +kernel
theorem dX4_rows_19 : decode cX4_rows 19 = .ok (.goto (-15), 3) := by decide +kernel
theorem dX4_rows_22 : decode cX4_rows 22 = .ok (.iload_n 1, 1) := by decide +kernel
theorem dX4_rows_23 : decode cX4_rows 23 = .ok (.ireturn, 1) := by decide +kernel
set_option maxRecDepth 20000 in
theorem ggX4_told_X4_noSheet : GoodIn wsX4_told wsX4_noSheet := goodIn_r _ [10, 5, 11, 12, 9, 13] (by decide +kernel) (by decide +kernel)
set_option maxRecDepth 20000 in
theorem gX4_told_X4_noSheet : GoodIn wsX4_told (va_wsS RX4 132 yX4_noSheet wsX4_noSheet) := goodIn_app (goodIn_of _ (by decide +kernel)) ggX4_told_X4_noSheet
set_option maxRecDepth 20000 in
theorem ggX4_told_X4_refused : GoodIn wsX4_told wsX4_refused := goodIn_r _ [17, 18, 68, 69, 70, 71, 72, 73, 74, 75, 76, 77, 78, 79, 80, 81, 82, 83, 84, 85, 86, 87, 88, 89, 90, 91, 92, 93, 94, 95, 96, 97, 98, 99] (by decide +kernel) (by decide +kernel)
set_option maxRecDepth 20000 in
theorem gX4_told_X4_refused : GoodIn wsX4_told (wsV RX4 136 RX4 yX4_refused wsX4_refused) := goodIn_app (goodIn_of _ (by decide +kernel)) ggX4_told_X4_refused
set_option maxRecDepth 20000 in
theorem ggX4_told_X4_in : GoodIn wsX4_told wsX4_in := goodIn_r _ [13] (by decide +kernel) (by decide +kernel)
set_option maxRecDepth 20000 in
theorem gX4_told_X4_in : GoodIn wsX4_told (va_wsS RX4 80 yX4_in wsX4_in) := goodIn_app (goodIn_of _ (by decide +kernel)) ggX4_told_X4_in
set_option maxRecDepth 20000 in
theorem ggX4_told_X4_cellsBarred : GoodIn wsX4_told wsX4_cellsBarred := goodIn_r _ [22, 23, 24, 25, 26, 27, 9, 28, 18, 29, 30, 31, 68, 69, 70, 71, 72, 73, 74, 75, 76, 77, 78, 79, 80, 81, 82, 83, 84, 85, 86, 87, 88, 89, 90, 91, 92, 93, 94, 95, 96, 97, 98, 99] (by decide +kernel) (by decide +kernel)
set_option maxRecDepth 20000 in
theorem gX4_told_X4_cellsBarred : GoodIn wsX4_told (wsV RX4 141 RX4 yX4_cellsBarred wsX4_cellsBarred) := goodIn_app (goodIn_of _ (by decide +kernel)) ggX4_told_X4_cellsBarred
set_option maxRecDepth 20000 in
theorem ggX4_told_X4_vanesNow : GoodIn wsX4_told wsX4_vanesNow := goodIn_r _ [35, 3, 6, 68, 69, 70, 71, 72, 73, 74, 75, 76, 77, 78, 79, 80, 81, 82, 83, 84, 85, 86, 87, 88, 89, 90, 91, 92, 93, 94, 95, 96, 97, 98, 99] (by decide +kernel) (by decide +kernel)
set_option maxRecDepth 20000 in
theorem gX4_told_X4_vanesNow : GoodIn wsX4_told (wsV RX4 182 RX4 yX4_vanesNow wsX4_vanesNow) := goodIn_app (goodIn_of _ (by decide +kernel)) ggX4_told_X4_vanesNow
set_option maxRecDepth 20000 in
theorem ggX4_told_X4_burdenNow : GoodIn wsX4_told wsX4_burdenNow := goodIn_r _ [39, 40, 41, 42, 43, 9, 44, 45, 46, 47, 48, 49, 50, 51, 52, 53, 54, 55, 3, 56, 57, 58, 59, 60, 61, 62, 6, 63, 68, 69, 70, 71, 72, 73, 74, 75, 76, 77, 78, 79, 80, 81, 82, 83, 84, 85, 86, 87, 88, 89, 90, 91, 92, 93, 94, 95, 96, 97, 98, 99] (by decide +kernel) (by decide +kernel)
set_option maxRecDepth 20000 in
theorem gX4_told_X4_burdenNow : GoodIn wsX4_told (wsV RX4 178 RX4 yX4_burdenNow wsX4_burdenNow) := goodIn_app (goodIn_of _ (by decide +kernel)) ggX4_told_X4_burdenNow
set_option maxRecDepth 20000 in
theorem ggX4_told_X4_turnAll : GoodIn wsX4_told wsX4_turnAll := goodIn_r _ [67, 3, 6, 68, 69, 70, 71, 72, 73, 74, 75, 76, 77, 78, 79, 80, 81, 82, 83, 84, 85, 86, 87, 88, 89, 90, 91, 92, 93, 94, 95, 96, 97, 98, 99] (by decide +kernel) (by decide +kernel)
set_option maxRecDepth 20000 in
theorem gX4_told_X4_turnAll : GoodIn wsX4_told (wsV RX4 185 RX4 yX4_turnAll wsX4_turnAll) := goodIn_app (goodIn_of _ (by decide +kernel)) ggX4_told_X4_turnAll
theorem dX4_told_0 : decode cX4_told 0 = .ok (.iload_n 1, 1) := by decide +kernel
theorem dX4_told_1 : decode cX4_told 1 = .ok (.invokestatic 132, 3) := by decide +kernel
theorem dX4_told_4 : decode cX4_told 4 = .ok (.ifCond .eq 9, 3) := by decide +kernel
theorem dX4_told_7 : decode cX4_told 7 = .ok (.aload_n 0, 1) := by decide +kernel
theorem dX4_told_8 : decode cX4_told 8 = .ok (.iconst (-1), 1) := by decide +kernel
theorem dX4_told_9 : decode cX4_told 9 = .ok (.invokevirtual 136, 3) := by decide +kernel
theorem dX4_told_12 : decode cX4_told 12 = .ok (.ireturn, 1) := by decide +kernel
theorem dX4_told_13 : decode cX4_told 13 = .ok (.iload_n 2, 1) := by decide +kernel
theorem dX4_told_14 : decode cX4_told 14 = .ok (.i2l, 1) := by decide +kernel
theorem dX4_told_15 : decode cX4_told 15 = .ok (.lconst 0, 1) := by decide +kernel
theorem dX4_told_16 : decode cX4_told 16 = .ok (.ldc2_w 139, 3) := by decide +kernel
theorem dX4_told_19 : decode cX4_told 19 = .ok (.invokestatic 80, 3) := by decide +kernel
theorem dX4_told_22 : decode cX4_told 22 = .ok (.ifCond .ne 10, 3) := by decide +kernel
theorem dX4_told_25 : decode cX4_told 25 = .ok (.aload_n 0, 1) := by decide +kernel
theorem dX4_told_26 : decode cX4_told 26 = .ok (.bipush (-2), 2) := by decide +kernel
theorem dX4_told_28 : decode cX4_told 28 = .ok (.invokevirtual 136, 3) := by decide +kernel
theorem dX4_told_31 : decode cX4_told 31 = .ok (.ireturn, 1) := by decide +kernel
theorem dX4_told_32 : decode cX4_told 32 = .ok (.aload_n 0, 1) := by decide +kernel
theorem dX4_told_33 : decode cX4_told 33 = .ok (.getfield 74, 3) := by decide +kernel
theorem dX4_told_36 : decode cX4_told 36 = .ok (.ifCond .ne 10, 3) := by decide +kernel
theorem dX4_told_39 : decode cX4_told 39 = .ok (.aload_n 0, 1) := by decide +kernel
theorem dX4_told_40 : decode cX4_told 40 = .ok (.bipush (-3), 2) := by decide +kernel
theorem dX4_told_42 : decode cX4_told 42 = .ok (.invokevirtual 136, 3) := by decide +kernel
theorem dX4_told_45 : decode cX4_told 45 = .ok (.ireturn, 1) := by decide +kernel
theorem dX4_told_46 : decode cX4_told 46 = .ok (.aload_n 0, 1) := by decide +kernel
theorem dX4_told_47 : decode cX4_told 47 = .ok (.iload_n 1, 1) := by decide +kernel
theorem dX4_told_48 : decode cX4_told 48 = .ok (.iload_n 2, 1) := by decide +kernel
theorem dX4_told_49 : decode cX4_told 49 = .ok (.iload_n 3, 1) := by decide +kernel
theorem dX4_told_50 : decode cX4_told 50 = .ok (.iload 4, 2) := by decide +kernel
theorem dX4_told_52 : decode cX4_told 52 = .ok (.i2l, 1) := by decide +kernel
theorem dX4_told_53 : decode cX4_told 53 = .ok (.invokevirtual 141, 3) := by decide +kernel
theorem dX4_told_56 : decode cX4_told 56 = .ok (.istore 5, 2) := by decide +kernel
theorem dX4_told_58 : decode cX4_told 58 = .ok (.iload 5, 2) := by decide +kernel
theorem dX4_told_60 : decode cX4_told 60 = .ok (.ifCond .ge 6, 3) := by decide +kernel
theorem dX4_told_63 : decode cX4_told 63 = .ok (.iload 5, 2) := by decide +kernel
theorem dX4_told_65 : decode cX4_told 65 = .ok (.ireturn, 1) := by decide +kernel
theorem dX4_told_66 : decode cX4_told 66 = .ok (.iload 4, 2) := by decide +kernel
theorem dX4_told_68 : decode cX4_told 68 = .ok (.aload_n 0, 1) := by decide +kernel
theorem dX4_told_69 : decode cX4_told 69 = .ok (.getfield 84, 3) := by decide +kernel
theorem dX4_told_72 : decode cX4_told 72 = .ok (.if_icmp .ne 7, 3) := by decide +kernel
theorem dX4_told_75 : decode cX4_told 75 = .ok (.iconst 1, 1) := by decide +kernel
theorem dX4_told_76 : decode cX4_told 76 = .ok (.goto 4, 3) := by decide +kernel
theorem dX4_told_79 : decode cX4_told 79 = .ok (.iconst 0, 1) := by decide +kernel
theorem dX4_told_80 : decode cX4_told 80 = .ok (.istore 6, 2) := by decide +kernel
theorem dX4_told_82 : decode cX4_told 82 = .ok (.iconst 0, 1) := by decide +kernel
theorem dX4_told_83 : decode cX4_told 83 = .ok (.istore 7, 2) := by decide +kernel
theorem dX4_told_85 : decode cX4_told 85 = .ok (.iload 7, 2) := by decide +kernel
theorem dX4_told_87 : decode cX4_told 87 = .ok (.aload_n 0, 1) := by decide +kernel
theorem dX4_told_88 : decode cX4_told 88 = .ok (.getfield 84, 3) := by decide +kernel
theorem dX4_told_91 : decode cX4_told 91 = .ok (.if_icmp .ge 38, 3) := by decide +kernel
theorem dX4_told_94 : decode cX4_told 94 = .ok (.iload 6, 2) := by decide +kernel
theorem dX4_told_96 : decode cX4_told 96 = .ok (.ifCond .eq 33, 3) := by decide +kernel
theorem dX4_told_99 : decode cX4_told 99 = .ok (.aload_n 0, 1) := by decide +kernel
theorem dX4_told_100 : decode cX4_told 100 = .ok (.getfield 58, 3) := by decide +kernel
theorem dX4_told_103 : decode cX4_told 103 = .ok (.bipush 60, 2) := by decide +kernel
theorem dX4_told_105 : decode cX4_told 105 = .ok (.iload_n 1, 1) := by decide +kernel
theorem dX4_told_106 : decode cX4_told 106 = .ok (.imul, 1) := by decide +kernel
theorem dX4_told_107 : decode cX4_told 107 = .ok (.iload_n 3, 1) := by decide +kernel
theorem dX4_told_108 : decode cX4_told 108 = .ok (.iadd, 1) := by decide +kernel
theorem dX4_told_109 : decode cX4_told 109 = .ok (.iload 7, 2) := by decide +kernel
theorem dX4_told_111 : decode cX4_told 111 = .ok (.iadd, 1) := by decide +kernel
theorem dX4_told_112 : decode cX4_told 112 = .ok (.iaload, 1) := by decide +kernel
theorem dX4_told_113 : decode cX4_told 113 = .ok (.i2l, 1) := by decide +kernel
theorem dX4_told_114 : decode cX4_told 114 = .ok (.lconst 0, 1) := by decide +kernel
theorem dX4_told_115 : decode cX4_told 115 = .ok (.ldc2_w 164, 3) := by decide +kernel
theorem dX4_told_118 : decode cX4_told 118 = .ok (.invokestatic 80, 3) := by decide +kernel
theorem dX4_told_121 : decode cX4_told 121 = .ok (.istore 6, 2) := by decide +kernel
theorem dX4_told_123 : decode cX4_told 123 = .ok (.iinc 7 1, 3) := by decide +kernel
theorem dX4_told_126 : decode cX4_told 126 = .ok (.goto (-41), 3) := by decide +kernel
theorem dX4_told_129 : decode cX4_told 129 = .ok (.iload 6, 2) := by decide +kernel
theorem dX4_told_131 : decode cX4_told 131 = .ok (.ifCond .ne 10, 3) := by decide +kernel
theorem dX4_told_134 : decode cX4_told 134 = .ok (.aload_n 0, 1) := by decide +kernel
theorem dX4_told_135 : decode cX4_told 135 = .ok (.bipush (-2), 2) := by decide +kernel
theorem dX4_told_137 : decode cX4_told 137 = .ok (.invokevirtual 136, 3) := by decide +kernel
theorem dX4_told_140 : decode cX4_told 140 = .ok (.ireturn, 1) := by decide +kernel
theorem dX4_told_141 : decode cX4_told 141 = .ok (.aload_n 0, 1) := by decide +kernel
theorem dX4_told_142 : decode cX4_told 142 = .ok (.invokevirtual 182, 3) := by decide +kernel
theorem dX4_told_145 : decode cX4_told 145 = .ok (.istore 7, 2) := by decide +kernel
theorem dX4_told_147 : decode cX4_told 147 = .ok (.iconst 0, 1) := by decide +kernel
theorem dX4_told_148 : decode cX4_told 148 = .ok (.istore 8, 2) := by decide +kernel
theorem dX4_told_150 : decode cX4_told 150 = .ok (.iload 8, 2) := by decide +kernel
theorem dX4_told_152 : decode cX4_told 152 = .ok (.aload_n 0, 1) := by decide +kernel
theorem dX4_told_153 : decode cX4_told 153 = .ok (.getfield 84, 3) := by decide +kernel
theorem dX4_told_156 : decode cX4_told 156 = .ok (.if_icmp .ge 30, 3) := by decide +kernel
theorem dX4_told_159 : decode cX4_told 159 = .ok (.aload_n 0, 1) := by decide +kernel
theorem dX4_told_160 : decode cX4_told 160 = .ok (.getfield 16, 3) := by decide +kernel
theorem dX4_told_163 : decode cX4_told 163 = .ok (.iload 8, 2) := by decide +kernel
theorem dX4_told_165 : decode cX4_told 165 = .ok (.aload_n 0, 1) := by decide +kernel
theorem dX4_told_166 : decode cX4_told 166 = .ok (.getfield 58, 3) := by decide +kernel
theorem dX4_told_169 : decode cX4_told 169 = .ok (.bipush 60, 2) := by decide +kernel
theorem dX4_told_171 : decode cX4_told 171 = .ok (.iload_n 1, 1) := by decide +kernel
theorem dX4_told_172 : decode cX4_told 172 = .ok (.imul, 1) := by decide +kernel
theorem dX4_told_173 : decode cX4_told 173 = .ok (.iload_n 3, 1) := by decide +kernel
theorem dX4_told_174 : decode cX4_told 174 = .ok (.iadd, 1) := by decide +kernel
theorem dX4_told_175 : decode cX4_told 175 = .ok (.iload 8, 2) := by decide +kernel
theorem dX4_told_177 : decode cX4_told 177 = .ok (.iadd, 1) := by decide +kernel
theorem dX4_told_178 : decode cX4_told 178 = .ok (.iaload, 1) := by decide +kernel
theorem dX4_told_179 : decode cX4_told 179 = .ok (.iastore, 1) := by decide +kernel
theorem dX4_told_180 : decode cX4_told 180 = .ok (.iinc 8 1, 3) := by decide +kernel
theorem dX4_told_183 : decode cX4_told 183 = .ok (.goto (-33), 3) := by decide +kernel
theorem dX4_told_186 : decode cX4_told 186 = .ok (.aload_n 0, 1) := by decide +kernel
theorem dX4_told_187 : decode cX4_told 187 = .ok (.invokevirtual 178, 3) := by decide +kernel
theorem dX4_told_190 : decode cX4_told 190 = .ok (.istore 8, 2) := by decide +kernel
theorem dX4_told_192 : decode cX4_told 192 = .ok (.aload_n 0, 1) := by decide +kernel
theorem dX4_told_193 : decode cX4_told 193 = .ok (.iload 7, 2) := by decide +kernel
theorem dX4_told_195 : decode cX4_told 195 = .ok (.invokevirtual 185, 3) := by decide +kernel
theorem dX4_told_198 : decode cX4_told 198 = .ok (.aload_n 0, 1) := by decide +kernel
theorem dX4_told_199 : decode cX4_told 199 = .ok (.iload 8, 2) := by decide +kernel
theorem dX4_told_201 : decode cX4_told 201 = .ok (.invokevirtual 136, 3) := by decide +kernel
theorem dX4_told_204 : decode cX4_told 204 = .ok (.ireturn, 1) := by decide +kernel
set_option maxRecDepth 20000 in
theorem ggX4_voteOf_X4_mindsNow : GoodIn wsX4_voteOf wsX4_mindsNow := goodIn_r _ [6, 7, 8, 9, 10, 5, 11, 12, 13, 14, 15, 16, 17, 18, 19, 20, 21, 22, 23, 24, 25, 1, 26, 27, 28, 29, 30, 31, 32, 33, 34, 35, 36, 37, 38, 39, 40, 41, 42, 43, 44, 45, 46, 47, 48, 49, 50, 51, 52, 53, 54, 55, 56, 57, 58] (by decide +kernel) (by decide +kernel)
set_option maxRecDepth 20000 in
theorem gX4_voteOf_X4_mindsNow : GoodIn wsX4_voteOf (wsV RX4 175 RX4 yX4_mindsNow wsX4_mindsNow) := goodIn_app (goodIn_of _ (by decide +kernel)) ggX4_voteOf_X4_mindsNow
theorem dX4_voteOf_0 : decode cX4_voteOf 0 = .ok (.aload_n 0, 1) := by decide +kernel
theorem dX4_voteOf_1 : decode cX4_voteOf 1 = .ok (.getfield 16, 3) := by decide +kernel
theorem dX4_voteOf_4 : decode cX4_voteOf 4 = .ok (.iload_n 2, 1) := by decide +kernel
theorem dX4_voteOf_5 : decode cX4_voteOf 5 = .ok (.iaload, 1) := by decide +kernel
theorem dX4_voteOf_6 : decode cX4_voteOf 6 = .ok (.istore_n 3, 1) := by decide +kernel
theorem dX4_voteOf_7 : decode cX4_voteOf 7 = .ok (.iconst 0, 1) := by decide +kernel
theorem dX4_voteOf_8 : decode cX4_voteOf 8 = .ok (.istore 4, 2) := by decide +kernel
theorem dX4_voteOf_10 : decode cX4_voteOf 10 = .ok (.iconst (-1), 1) := by decide +kernel
theorem dX4_voteOf_11 : decode cX4_voteOf 11 = .ok (.istore 5, 2) := by decide +kernel
theorem dX4_voteOf_13 : decode cX4_voteOf 13 = .ok (.iconst 0, 1) := by decide +kernel
theorem dX4_voteOf_14 : decode cX4_voteOf 14 = .ok (.istore 6, 2) := by decide +kernel
theorem dX4_voteOf_16 : decode cX4_voteOf 16 = .ok (.iload 6, 2) := by decide +kernel
theorem dX4_voteOf_18 : decode cX4_voteOf 18 = .ok (.iconst 4, 1) := by decide +kernel
theorem dX4_voteOf_19 : decode cX4_voteOf 19 = .ok (.if_icmp .ge 61, 3) := by decide +kernel
theorem dX4_voteOf_22 : decode cX4_voteOf 22 = .ok (.aload_n 0, 1) := by decide +kernel
theorem dX4_voteOf_23 : decode cX4_voteOf 23 = .ok (.getfield 16, 3) := by decide +kernel
theorem dX4_voteOf_26 : decode cX4_voteOf 26 = .ok (.iload_n 2, 1) := by decide +kernel
theorem dX4_voteOf_27 : decode cX4_voteOf 27 = .ok (.iload 6, 2) := by decide +kernel
theorem dX4_voteOf_29 : decode cX4_voteOf 29 = .ok (.iastore, 1) := by decide +kernel
theorem dX4_voteOf_30 : decode cX4_voteOf 30 = .ok (.aload_n 0, 1) := by decide +kernel
theorem dX4_voteOf_31 : decode cX4_voteOf 31 = .ok (.iload_n 1, 1) := by decide +kernel
theorem dX4_voteOf_32 : decode cX4_voteOf 32 = .ok (.invokevirtual 175, 3) := by decide +kernel
theorem dX4_voteOf_35 : decode cX4_voteOf 35 = .ok (.istore 7, 2) := by decide +kernel
theorem dX4_voteOf_37 : decode cX4_voteOf 37 = .ok (.iload 5, 2) := by decide +kernel
theorem dX4_voteOf_39 : decode cX4_voteOf 39 = .ok (.ifCond .lt 10, 3) := by decide +kernel
theorem dX4_voteOf_42 : decode cX4_voteOf 42 = .ok (.iload 7, 2) := by decide +kernel
theorem dX4_voteOf_44 : decode cX4_voteOf 44 = .ok (.iload 5, 2) := by decide +kernel
theorem dX4_voteOf_46 : decode cX4_voteOf 46 = .ok (.if_icmp .ge 8, 3) := by decide +kernel
theorem dX4_voteOf_49 : decode cX4_voteOf 49 = .ok (.iload 6, 2) := by decide +kernel
theorem dX4_voteOf_51 : decode cX4_voteOf 51 = .ok (.goto 5, 3) := by decide +kernel
theorem dX4_voteOf_54 : decode cX4_voteOf 54 = .ok (.iload 4, 2) := by decide +kernel
theorem dX4_voteOf_56 : decode cX4_voteOf 56 = .ok (.istore 4, 2) := by decide +kernel
theorem dX4_voteOf_58 : decode cX4_voteOf 58 = .ok (.iload 4, 2) := by decide +kernel
theorem dX4_voteOf_60 : decode cX4_voteOf 60 = .ok (.iload 6, 2) := by decide +kernel
theorem dX4_voteOf_62 : decode cX4_voteOf 62 = .ok (.if_icmp .ne 8, 3) := by decide +kernel
theorem dX4_voteOf_65 : decode cX4_voteOf 65 = .ok (.iload 7, 2) := by decide +kernel
theorem dX4_voteOf_67 : decode cX4_voteOf 67 = .ok (.goto 5, 3) := by decide +kernel
theorem dX4_voteOf_70 : decode cX4_voteOf 70 = .ok (.iload 5, 2) := by decide +kernel
theorem dX4_voteOf_72 : decode cX4_voteOf 72 = .ok (.istore 5, 2) := by decide +kernel
theorem dX4_voteOf_74 : decode cX4_voteOf 74 = .ok (.iinc 6 1, 3) := by decide +kernel
theorem dX4_voteOf_77 : decode cX4_voteOf 77 = .ok (.goto (-61), 3) := by decide +kernel
theorem dX4_voteOf_80 : decode cX4_voteOf 80 = .ok (.aload_n 0, 1) := by decide +kernel
theorem dX4_voteOf_81 : decode cX4_voteOf 81 = .ok (.getfield 16, 3) := by decide +kernel
theorem dX4_voteOf_84 : decode cX4_voteOf 84 = .ok (.iload_n 2, 1) := by decide +kernel
theorem dX4_voteOf_85 : decode cX4_voteOf 85 = .ok (.iload_n 3, 1) := by decide +kernel
theorem dX4_voteOf_86 : decode cX4_voteOf 86 = .ok (.iastore, 1) := by decide +kernel
theorem dX4_voteOf_87 : decode cX4_voteOf 87 = .ok (.iload 4, 2) := by decide +kernel
theorem dX4_voteOf_89 : decode cX4_voteOf 89 = .ok (.ireturn, 1) := by decide +kernel
set_option maxRecDepth 20000 in
theorem ggX4_vote_X4_noWard : GoodIn wsX4_vote wsX4_noWard := goodIn_r _ [5, 6, 7, 8, 4, 9, 43, 44, 45, 46, 47, 48, 49, 50, 51, 52, 53, 54, 55, 56, 57, 58, 59, 60, 61, 62, 63, 64, 65, 66, 67, 68, 69, 70, 71, 72, 73, 74] (by decide +kernel) (by decide +kernel)
set_option maxRecDepth 20000 in
theorem gX4_vote_X4_noWard : GoodIn wsX4_vote (wsV RX4 155 RX4 yX4_noWard wsX4_noWard) := goodIn_app (goodIn_of _ (by decide +kernel)) ggX4_vote_X4_noWard
set_option maxRecDepth 20000 in
theorem ggX4_vote_X4_noWork : GoodIn wsX4_vote wsX4_noWork := goodIn_r _ [13, 14, 7, 8, 4, 9, 43, 44, 45, 46, 47, 48, 49, 50, 51, 52, 53, 54, 55, 56, 57, 58, 59, 60, 61, 62, 63, 64, 65, 66, 67, 68, 69, 70, 71, 72, 73, 74] (by decide +kernel) (by decide +kernel)
set_option maxRecDepth 20000 in
theorem gX4_vote_X4_noWork : GoodIn wsX4_vote (wsV RX4 161 RX4 yX4_noWork wsX4_noWork) := goodIn_app (goodIn_of _ (by decide +kernel)) ggX4_vote_X4_noWork
set_option maxRecDepth 20000 in
theorem ggX4_vote_X4_voteOf : GoodIn wsX4_vote wsX4_voteOf := goodIn_r _ [18, 19, 20, 21, 22, 4, 23, 24, 25, 26, 27, 28, 29, 30, 31, 32, 33, 34, 14, 35, 36, 37, 38, 39, 40, 41, 42, 43, 44, 45, 46, 47, 48, 49, 50, 51, 52, 53, 54, 55, 56, 57, 58, 59, 60, 61, 62, 63, 64, 65, 66, 67, 68, 69, 70, 71, 72, 73, 74] (by decide +kernel) (by decide +kernel)
set_option maxRecDepth 20000 in
theorem gX4_vote_X4_voteOf : GoodIn wsX4_vote (wsV RX4 189 RX4 yX4_voteOf wsX4_voteOf) := goodIn_app (goodIn_of _ (by decide +kernel)) ggX4_vote_X4_voteOf
theorem dX4_vote_0 : decode cX4_vote 0 = .ok (.aload_n 0, 1) := by decide +kernel
theorem dX4_vote_1 : decode cX4_vote 1 = .ok (.iload_n 1, 1) := by decide +kernel
theorem dX4_vote_2 : decode cX4_vote 2 = .ok (.invokevirtual 155, 3) := by decide +kernel
theorem dX4_vote_5 : decode cX4_vote 5 = .ok (.ifCond .ne 11, 3) := by decide +kernel
theorem dX4_vote_8 : decode cX4_vote 8 = .ok (.aload_n 0, 1) := by decide +kernel
theorem dX4_vote_9 : decode cX4_vote 9 = .ok (.iload_n 2, 1) := by decide +kernel
theorem dX4_vote_10 : decode cX4_vote 10 = .ok (.invokevirtual 161, 3) := by decide +kernel
theorem dX4_vote_13 : decode cX4_vote 13 = .ok (.ifCond .eq 7, 3) := by decide +kernel
theorem dX4_vote_16 : decode cX4_vote 16 = .ok (.iconst (-1), 1) := by decide +kernel
theorem dX4_vote_17 : decode cX4_vote 17 = .ok (.goto 9, 3) := by decide +kernel
theorem dX4_vote_20 : decode cX4_vote 20 = .ok (.aload_n 0, 1) := by decide +kernel
theorem dX4_vote_21 : decode cX4_vote 21 = .ok (.iload_n 1, 1) := by decide +kernel
theorem dX4_vote_22 : decode cX4_vote 22 = .ok (.iload_n 2, 1) := by decide +kernel
theorem dX4_vote_23 : decode cX4_vote 23 = .ok (.invokevirtual 189, 3) := by decide +kernel
theorem dX4_vote_26 : decode cX4_vote 26 = .ok (.ireturn, 1) := by decide +kernel
set_option maxRecDepth 20000 in
theorem ggX4_winsBy_X4_isIn : GoodIn wsX4_winsBy wsX4_isIn := goodIn_r _ [5] (by decide +kernel) (by decide +kernel)
set_option maxRecDepth 20000 in
theorem gX4_winsBy_X4_isIn : GoodIn wsX4_winsBy (va_wsS RX4 192 yX4_isIn wsX4_isIn) := goodIn_app (goodIn_of _ (by decide +kernel)) ggX4_winsBy_X4_isIn
set_option maxRecDepth 20000 in
theorem ggX4_winsBy_X4_voteOf : GoodIn wsX4_winsBy wsX4_voteOf := goodIn_r _ [9, 10, 11, 12, 13, 4, 14, 15, 16, 17, 18, 19, 20, 21, 22, 23, 24, 25, 26, 27, 28, 29, 30, 31, 32, 33, 34, 35, 36, 37, 38, 39, 40, 41, 42, 43, 44, 45, 46, 47, 48, 49, 50, 51, 52, 53, 54, 55, 56, 57, 58, 59, 60, 61, 62, 63, 64, 65, 66] (by decide +kernel) (by decide +kernel)
set_option maxRecDepth 20000 in
theorem gX4_winsBy_X4_voteOf : GoodIn wsX4_winsBy (wsV RX4 189 RX4 yX4_voteOf wsX4_voteOf) := goodIn_app (goodIn_of _ (by decide +kernel)) ggX4_winsBy_X4_voteOf
theorem dX4_winsBy_0 : decode cX4_winsBy 0 = .ok (.iconst 0, 1) := by decide +kernel
theorem dX4_winsBy_1 : decode cX4_winsBy 1 = .ok (.istore 4, 2) := by decide +kernel
theorem dX4_winsBy_3 : decode cX4_winsBy 3 = .ok (.iconst (-1), 1) := by decide +kernel
theorem dX4_winsBy_4 : decode cX4_winsBy 4 = .ok (.istore 5, 2) := by decide +kernel
theorem dX4_winsBy_6 : decode cX4_winsBy 6 = .ok (.iconst 0, 1) := by decide +kernel
theorem dX4_winsBy_7 : decode cX4_winsBy 7 = .ok (.istore 6, 2) := by decide +kernel
theorem dX4_winsBy_9 : decode cX4_winsBy 9 = .ok (.iload 6, 2) := by decide +kernel
theorem dX4_winsBy_11 : decode cX4_winsBy 11 = .ok (.iconst 4, 1) := by decide +kernel
theorem dX4_winsBy_12 : decode cX4_winsBy 12 = .ok (.if_icmp .ge 101, 3) := by decide +kernel
theorem dX4_winsBy_15 : decode cX4_winsBy 15 = .ok (.iconst 0, 1) := by decide +kernel
theorem dX4_winsBy_16 : decode cX4_winsBy 16 = .ok (.istore 7, 2) := by decide +kernel
theorem dX4_winsBy_18 : decode cX4_winsBy 18 = .ok (.iconst 0, 1) := by decide +kernel
theorem dX4_winsBy_19 : decode cX4_winsBy 19 = .ok (.istore 8, 2) := by decide +kernel
theorem dX4_winsBy_21 : decode cX4_winsBy 21 = .ok (.iload 8, 2) := by decide +kernel
theorem dX4_winsBy_23 : decode cX4_winsBy 23 = .ok (.aload_n 0, 1) := by decide +kernel
theorem dX4_winsBy_24 : decode cX4_winsBy 24 = .ok (.getfield 87, 3) := by decide +kernel
theorem dX4_winsBy_27 : decode cX4_winsBy 27 = .ok (.if_icmp .ge 48, 3) := by decide +kernel
theorem dX4_winsBy_30 : decode cX4_winsBy 30 = .ok (.iload_n 2, 1) := by decide +kernel
theorem dX4_winsBy_31 : decode cX4_winsBy 31 = .ok (.iload 8, 2) := by decide +kernel
theorem dX4_winsBy_33 : decode cX4_winsBy 33 = .ok (.invokestatic 192, 3) := by decide +kernel
theorem dX4_winsBy_36 : decode cX4_winsBy 36 = .ok (.ifCond .eq 7, 3) := by decide +kernel
theorem dX4_winsBy_39 : decode cX4_winsBy 39 = .ok (.iload_n 3, 1) := by decide +kernel
theorem dX4_winsBy_40 : decode cX4_winsBy 40 = .ok (.goto 10, 3) := by decide +kernel
theorem dX4_winsBy_43 : decode cX4_winsBy 43 = .ok (.aload_n 0, 1) := by decide +kernel
theorem dX4_winsBy_44 : decode cX4_winsBy 44 = .ok (.iload 8, 2) := by decide +kernel
theorem dX4_winsBy_46 : decode cX4_winsBy 46 = .ok (.iload_n 1, 1) := by decide +kernel
theorem dX4_winsBy_47 : decode cX4_winsBy 47 = .ok (.invokevirtual 189, 3) := by decide +kernel
theorem dX4_winsBy_50 : decode cX4_winsBy 50 = .ok (.istore 9, 2) := by decide +kernel
theorem dX4_winsBy_52 : decode cX4_winsBy 52 = .ok (.iload 7, 2) := by decide +kernel
theorem dX4_winsBy_54 : decode cX4_winsBy 54 = .ok (.iload 9, 2) := by decide +kernel
theorem dX4_winsBy_56 : decode cX4_winsBy 56 = .ok (.iload 6, 2) := by decide +kernel
theorem dX4_winsBy_58 : decode cX4_winsBy 58 = .ok (.if_icmp .ne 7, 3) := by decide +kernel
theorem dX4_winsBy_61 : decode cX4_winsBy 61 = .ok (.iconst 1, 1) := by decide +kernel
theorem dX4_winsBy_62 : decode cX4_winsBy 62 = .ok (.goto 4, 3) := by decide +kernel
theorem dX4_winsBy_65 : decode cX4_winsBy 65 = .ok (.iconst 0, 1) := by decide +kernel
theorem dX4_winsBy_66 : decode cX4_winsBy 66 = .ok (.iadd, 1) := by decide +kernel
theorem dX4_winsBy_67 : decode cX4_winsBy 67 = .ok (.istore 7, 2) := by decide +kernel
theorem dX4_winsBy_69 : decode cX4_winsBy 69 = .ok (.iinc 8 1, 3) := by decide +kernel
theorem dX4_winsBy_72 : decode cX4_winsBy 72 = .ok (.goto (-51), 3) := by decide +kernel
theorem dX4_winsBy_75 : decode cX4_winsBy 75 = .ok (.iload 7, 2) := by decide +kernel
theorem dX4_winsBy_77 : decode cX4_winsBy 77 = .ok (.iload 5, 2) := by decide +kernel
theorem dX4_winsBy_79 : decode cX4_winsBy 79 = .ok (.if_icmp .le 8, 3) := by decide +kernel
theorem dX4_winsBy_82 : decode cX4_winsBy 82 = .ok (.iload 6, 2) := by decide +kernel
theorem dX4_winsBy_84 : decode cX4_winsBy 84 = .ok (.goto 5, 3) := by decide +kernel
theorem dX4_winsBy_87 : decode cX4_winsBy 87 = .ok (.iload 4, 2) := by decide +kernel
theorem dX4_winsBy_89 : decode cX4_winsBy 89 = .ok (.istore 4, 2) := by decide +kernel
theorem dX4_winsBy_91 : decode cX4_winsBy 91 = .ok (.iload 7, 2) := by decide +kernel
theorem dX4_winsBy_93 : decode cX4_winsBy 93 = .ok (.iload 5, 2) := by decide +kernel
theorem dX4_winsBy_95 : decode cX4_winsBy 95 = .ok (.if_icmp .le 8, 3) := by decide +kernel
theorem dX4_winsBy_98 : decode cX4_winsBy 98 = .ok (.iload 7, 2) := by decide +kernel
theorem dX4_winsBy_100 : decode cX4_winsBy 100 = .ok (.goto 5, 3) := by decide +kernel
theorem dX4_winsBy_103 : decode cX4_winsBy 103 = .ok (.iload 5, 2) := by decide +kernel
theorem dX4_winsBy_105 : decode cX4_winsBy 105 = .ok (.istore 5, 2) := by decide +kernel
theorem dX4_winsBy_107 : decode cX4_winsBy 107 = .ok (.iinc 6 1, 3) := by decide +kernel
theorem dX4_winsBy_110 : decode cX4_winsBy 110 = .ok (.goto (-101), 3) := by decide +kernel
theorem dX4_winsBy_113 : decode cX4_winsBy 113 = .ok (.iload 4, 2) := by decide +kernel
theorem dX4_winsBy_115 : decode cX4_winsBy 115 = .ok (.ireturn, 1) := by decide +kernel
set_option maxRecDepth 20000 in
theorem ggX4_ballot_X4_noWork : GoodIn wsX4_ballot wsX4_noWork := goodIn_r _ [5, 6, 7, 8, 4, 9, 46, 47, 48, 49, 50, 51, 52, 53, 54, 55, 56, 57, 58, 59, 60, 61, 62, 63, 64, 65, 66, 67, 68, 69, 70, 71, 72, 73, 74, 75, 76, 77] (by decide +kernel) (by decide +kernel)
set_option maxRecDepth 20000 in
theorem gX4_ballot_X4_noWork : GoodIn wsX4_ballot (wsV RX4 161 RX4 yX4_noWork wsX4_noWork) := goodIn_app (goodIn_of _ (by decide +kernel)) ggX4_ballot_X4_noWork
set_option maxRecDepth 20000 in
theorem ggX4_ballot_X4_winsBy : GoodIn wsX4_ballot wsX4_winsBy := goodIn_r _ [13, 14, 15, 16, 4, 17, 18, 19, 20, 21, 22, 23, 24, 25, 26, 27, 28, 29, 30, 31, 32, 33, 34, 35, 36, 37, 6, 38, 39, 40, 41, 42, 43, 44, 45, 46, 47, 48, 49, 50, 51, 52, 53, 54, 55, 56, 57, 58, 59, 60, 61, 62, 63, 64, 65, 66, 67, 68, 69, 70, 71, 72, 73, 74, 75, 76, 77] (by decide +kernel) (by decide +kernel)
set_option maxRecDepth 20000 in
theorem gX4_ballot_X4_winsBy : GoodIn wsX4_ballot (wsV RX4 195 RX4 yX4_winsBy wsX4_winsBy) := goodIn_app (goodIn_of _ (by decide +kernel)) ggX4_ballot_X4_winsBy
theorem dX4_ballot_0 : decode cX4_ballot 0 = .ok (.aload_n 0, 1) := by decide +kernel
theorem dX4_ballot_1 : decode cX4_ballot 1 = .ok (.iload_n 1, 1) := by decide +kernel
theorem dX4_ballot_2 : decode cX4_ballot 2 = .ok (.invokevirtual 161, 3) := by decide +kernel
theorem dX4_ballot_5 : decode cX4_ballot 5 = .ok (.ifCond .eq 7, 3) := by decide +kernel
theorem dX4_ballot_8 : decode cX4_ballot 8 = .ok (.iconst (-1), 1) := by decide +kernel
theorem dX4_ballot_9 : decode cX4_ballot 9 = .ok (.goto 10, 3) := by decide +kernel
theorem dX4_ballot_12 : decode cX4_ballot 12 = .ok (.aload_n 0, 1) := by decide +kernel
theorem dX4_ballot_13 : decode cX4_ballot 13 = .ok (.iload_n 1, 1) := by decide +kernel
theorem dX4_ballot_14 : decode cX4_ballot 14 = .ok (.iconst 0, 1) := by decide +kernel
theorem dX4_ballot_15 : decode cX4_ballot 15 = .ok (.iconst 0, 1) := by decide +kernel
theorem dX4_ballot_16 : decode cX4_ballot 16 = .ok (.invokevirtual 195, 3) := by decide +kernel
theorem dX4_ballot_19 : decode cX4_ballot 19 = .ok (.ireturn, 1) := by decide +kernel
set_option maxRecDepth 20000 in
theorem ggX4_goYear_X4_winsBy : GoodIn wsX4_goYear wsX4_winsBy := goodIn_r _ [7, 8, 9, 10, 6, 11, 12, 13, 14, 15, 2, 16, 17, 18, 19, 20, 21, 22, 23, 24, 25, 26, 27, 28, 29, 30, 1, 31, 32, 33, 34, 35, 36, 37, 38, 39, 40, 41, 42, 43, 44, 45, 46, 47, 48, 49, 50, 51, 52, 53, 54, 55, 56, 57, 58, 59, 60, 61, 62, 63, 64, 65, 66, 67, 68, 69, 70] (by decide +kernel) (by decide +kernel)
set_option maxRecDepth 20000 in
theorem gX4_goYear_X4_winsBy : GoodIn wsX4_goYear (wsV RX4 195 RX4 yX4_winsBy wsX4_winsBy) := goodIn_app (goodIn_of _ (by decide +kernel)) ggX4_goYear_X4_winsBy
theorem dX4_goYear_0 : decode cX4_goYear 0 = .ok (.iconst 0, 1) := by decide +kernel
theorem dX4_goYear_1 : decode cX4_goYear 1 = .ok (.istore_n 1, 1) := by decide +kernel
theorem dX4_goYear_2 : decode cX4_goYear 2 = .ok (.iconst 0, 1) := by decide +kernel
theorem dX4_goYear_3 : decode cX4_goYear 3 = .ok (.istore_n 2, 1) := by decide +kernel
theorem dX4_goYear_4 : decode cX4_goYear 4 = .ok (.iload_n 2, 1) := by decide +kernel
theorem dX4_goYear_5 : decode cX4_goYear 5 = .ok (.aload_n 0, 1) := by decide +kernel
theorem dX4_goYear_6 : decode cX4_goYear 6 = .ok (.getfield 84, 3) := by decide +kernel
theorem dX4_goYear_9 : decode cX4_goYear 9 = .ok (.if_icmp .ge 42, 3) := by decide +kernel
theorem dX4_goYear_12 : decode cX4_goYear 12 = .ok (.aload_n 0, 1) := by decide +kernel
theorem dX4_goYear_13 : decode cX4_goYear 13 = .ok (.iload_n 2, 1) := by decide +kernel
theorem dX4_goYear_14 : decode cX4_goYear 14 = .ok (.iconst 0, 1) := by decide +kernel
theorem dX4_goYear_15 : decode cX4_goYear 15 = .ok (.iconst 0, 1) := by decide +kernel
theorem dX4_goYear_16 : decode cX4_goYear 16 = .ok (.invokevirtual 195, 3) := by decide +kernel
theorem dX4_goYear_19 : decode cX4_goYear 19 = .ok (.istore_n 3, 1) := by decide +kernel
theorem dX4_goYear_20 : decode cX4_goYear 20 = .ok (.iload_n 1, 1) := by decide +kernel
theorem dX4_goYear_21 : decode cX4_goYear 21 = .ok (.iload_n 3, 1) := by decide +kernel
theorem dX4_goYear_22 : decode cX4_goYear 22 = .ok (.aload_n 0, 1) := by decide +kernel
theorem dX4_goYear_23 : decode cX4_goYear 23 = .ok (.getfield 16, 3) := by decide +kernel
theorem dX4_goYear_26 : decode cX4_goYear 26 = .ok (.iload_n 2, 1) := by decide +kernel
theorem dX4_goYear_27 : decode cX4_goYear 27 = .ok (.iaload, 1) := by decide +kernel
theorem dX4_goYear_28 : decode cX4_goYear 28 = .ok (.if_icmp .ne 7, 3) := by decide +kernel
theorem dX4_goYear_31 : decode cX4_goYear 31 = .ok (.iconst 0, 1) := by decide +kernel
theorem dX4_goYear_32 : decode cX4_goYear 32 = .ok (.goto 4, 3) := by decide +kernel
theorem dX4_goYear_35 : decode cX4_goYear 35 = .ok (.iconst 1, 1) := by decide +kernel
theorem dX4_goYear_36 : decode cX4_goYear 36 = .ok (.iadd, 1) := by decide +kernel
theorem dX4_goYear_37 : decode cX4_goYear 37 = .ok (.istore_n 1, 1) := by decide +kernel
theorem dX4_goYear_38 : decode cX4_goYear 38 = .ok (.aload_n 0, 1) := by decide +kernel
theorem dX4_goYear_39 : decode cX4_goYear 39 = .ok (.getfield 16, 3) := by decide +kernel
theorem dX4_goYear_42 : decode cX4_goYear 42 = .ok (.iload_n 2, 1) := by decide +kernel
theorem dX4_goYear_43 : decode cX4_goYear 43 = .ok (.iload_n 3, 1) := by decide +kernel
theorem dX4_goYear_44 : decode cX4_goYear 44 = .ok (.iastore, 1) := by decide +kernel
theorem dX4_goYear_45 : decode cX4_goYear 45 = .ok (.iinc 2 1, 3) := by decide +kernel
theorem dX4_goYear_48 : decode cX4_goYear 48 = .ok (.goto (-44), 3) := by decide +kernel
theorem dX4_goYear_51 : decode cX4_goYear 51 = .ok (.iload_n 1, 1) := by decide +kernel
theorem dX4_goYear_52 : decode cX4_goYear 52 = .ok (.ireturn, 1) := by decide +kernel
set_option maxRecDepth 20000 in
theorem ggX4_year_X4_goYear : GoodIn wsX4_year wsX4_goYear := goodIn_r _ [6, 7, 8, 9, 10, 11, 5, 12, 13, 14, 15, 16, 17, 18, 19, 20, 21, 22, 23, 24, 25, 26, 27, 28, 29, 30, 31, 32, 33, 34, 35, 36, 37, 38, 39, 40, 41, 42, 43, 44, 45, 46, 47, 48, 49, 50, 51, 52, 53, 54, 55, 56, 57, 58, 59, 60, 61, 62, 63, 64, 65, 66, 67, 68, 69, 70, 71, 72, 73, 74, 75] (by decide +kernel) (by decide +kernel)
set_option maxRecDepth 20000 in
theorem gX4_year_X4_goYear : GoodIn wsX4_year (wsV RX4 199 RX4 yX4_goYear wsX4_goYear) := goodIn_app (goodIn_of _ (by decide +kernel)) ggX4_year_X4_goYear
theorem dX4_year_0 : decode cX4_year 0 = .ok (.aload_n 0, 1) := by decide +kernel
theorem dX4_year_1 : decode cX4_year 1 = .ok (.getfield 74, 3) := by decide +kernel
theorem dX4_year_4 : decode cX4_year 4 = .ok (.ifCond .ne 8, 3) := by decide +kernel
theorem dX4_year_7 : decode cX4_year 7 = .ok (.bipush (-3), 2) := by decide +kernel
theorem dX4_year_9 : decode cX4_year 9 = .ok (.goto 7, 3) := by decide +kernel
theorem dX4_year_12 : decode cX4_year 12 = .ok (.aload_n 0, 1) := by decide +kernel
theorem dX4_year_13 : decode cX4_year 13 = .ok (.invokevirtual 199, 3) := by decide +kernel
theorem dX4_year_16 : decode cX4_year 16 = .ok (.ireturn, 1) := by decide +kernel
set_option maxRecDepth 20000 in
theorem ggX4_round_X4_in : GoodIn wsX4_round wsX4_in := goodIn_r _ [6] (by decide +kernel) (by decide +kernel)
set_option maxRecDepth 20000 in
theorem gX4_round_X4_in : GoodIn wsX4_round (va_wsS RX4 80 yX4_in wsX4_in) := goodIn_app (goodIn_of _ (by decide +kernel)) ggX4_round_X4_in
set_option maxRecDepth 20000 in
theorem ggX4_round_X4_vanesNow : GoodIn wsX4_round wsX4_vanesNow := goodIn_r _ [10, 11, 12, 56, 57, 58, 59, 60, 61, 62, 63, 64, 65, 66, 67, 68, 69, 70, 71, 72, 73, 74, 75, 76, 77, 78, 79, 80, 81, 82, 83, 84, 85, 86, 87] (by decide +kernel) (by decide +kernel)
set_option maxRecDepth 20000 in
theorem gX4_round_X4_vanesNow : GoodIn wsX4_round (wsV RX4 182 RX4 yX4_vanesNow wsX4_vanesNow) := goodIn_app (goodIn_of _ (by decide +kernel)) ggX4_round_X4_vanesNow
set_option maxRecDepth 20000 in
theorem ggX4_round_X4_goYear : GoodIn wsX4_round wsX4_goYear := goodIn_r _ [16, 11, 12, 17, 18, 19, 5, 20, 21, 22, 23, 24, 25, 26, 27, 28, 29, 30, 31, 32, 33, 34, 35, 36, 37, 38, 39, 40, 41, 42, 43, 44, 45, 46, 47, 48, 49, 50, 51, 56, 57, 58, 59, 60, 61, 62, 63, 64, 65, 66, 67, 68, 69, 70, 71, 72, 73, 74, 75, 76, 77, 78, 79, 80, 81, 82, 83, 84, 85, 86, 87] (by decide +kernel) (by decide +kernel)
set_option maxRecDepth 20000 in
theorem gX4_round_X4_goYear : GoodIn wsX4_round (wsV RX4 199 RX4 yX4_goYear wsX4_goYear) := goodIn_app (goodIn_of _ (by decide +kernel)) ggX4_round_X4_goYear
set_option maxRecDepth 20000 in
theorem ggX4_round_X4_turnAll : GoodIn wsX4_round wsX4_turnAll := goodIn_r _ [55, 11, 12, 56, 57, 58, 59, 60, 61, 62, 63, 64, 65, 66, 67, 68, 69, 70, 71, 72, 73, 74, 75, 76, 77, 78, 79, 80, 81, 82, 83, 84, 85, 86, 87] (by decide +kernel) (by decide +kernel)
set_option maxRecDepth 20000 in
theorem gX4_round_X4_turnAll : GoodIn wsX4_round (wsV RX4 185 RX4 yX4_turnAll wsX4_turnAll) := goodIn_app (goodIn_of _ (by decide +kernel)) ggX4_round_X4_turnAll
theorem dX4_round_0 : decode cX4_round 0 = .ok (.iload_n 1, 1) := by decide +kernel
theorem dX4_round_1 : decode cX4_round 1 = .ok (.i2l, 1) := by decide +kernel
theorem dX4_round_2 : decode cX4_round 2 = .ok (.lconst 0, 1) := by decide +kernel
theorem dX4_round_3 : decode cX4_round 3 = .ok (.lconst 1, 1) := by decide +kernel
theorem dX4_round_4 : decode cX4_round 4 = .ok (.invokestatic 80, 3) := by decide +kernel
theorem dX4_round_7 : decode cX4_round 7 = .ok (.ifCond .ne 6, 3) := by decide +kernel
theorem dX4_round_10 : decode cX4_round 10 = .ok (.bipush (-2), 2) := by decide +kernel
theorem dX4_round_12 : decode cX4_round 12 = .ok (.ireturn, 1) := by decide +kernel
theorem dX4_round_13 : decode cX4_round 13 = .ok (.aload_n 0, 1) := by decide +kernel
theorem dX4_round_14 : decode cX4_round 14 = .ok (.getfield 74, 3) := by decide +kernel
theorem dX4_round_17 : decode cX4_round 17 = .ok (.ifCond .ne 6, 3) := by decide +kernel
theorem dX4_round_20 : decode cX4_round 20 = .ok (.bipush (-3), 2) := by decide +kernel
theorem dX4_round_22 : decode cX4_round 22 = .ok (.ireturn, 1) := by decide +kernel
theorem dX4_round_23 : decode cX4_round 23 = .ok (.aload_n 0, 1) := by decide +kernel
theorem dX4_round_24 : decode cX4_round 24 = .ok (.invokevirtual 182, 3) := by decide +kernel
theorem dX4_round_27 : decode cX4_round 27 = .ok (.istore_n 2, 1) := by decide +kernel
theorem dX4_round_28 : decode cX4_round 28 = .ok (.iconst 0, 1) := by decide +kernel
theorem dX4_round_29 : decode cX4_round 29 = .ok (.istore_n 3, 1) := by decide +kernel
theorem dX4_round_30 : decode cX4_round 30 = .ok (.iload_n 3, 1) := by decide +kernel
theorem dX4_round_31 : decode cX4_round 31 = .ok (.sipush 256, 3) := by decide +kernel
theorem dX4_round_34 : decode cX4_round 34 = .ok (.if_icmp .ge 17, 3) := by decide +kernel
theorem dX4_round_37 : decode cX4_round 37 = .ok (.aload_n 0, 1) := by decide +kernel
theorem dX4_round_38 : decode cX4_round 38 = .ok (.getfield 43, 3) := by decide +kernel
theorem dX4_round_41 : decode cX4_round 41 = .ok (.iload_n 3, 1) := by decide +kernel
theorem dX4_round_42 : decode cX4_round 42 = .ok (.bipush (-9), 2) := by decide +kernel
theorem dX4_round_44 : decode cX4_round 44 = .ok (.iastore, 1) := by decide +kernel
theorem dX4_round_45 : decode cX4_round 45 = .ok (.iinc 3 1, 3) := by decide +kernel
theorem dX4_round_48 : decode cX4_round 48 = .ok (.goto (-18), 3) := by decide +kernel
theorem dX4_round_51 : decode cX4_round 51 = .ok (.iconst 0, 1) := by decide +kernel
theorem dX4_round_52 : decode cX4_round 52 = .ok (.istore_n 3, 1) := by decide +kernel
theorem dX4_round_53 : decode cX4_round 53 = .ok (.aload_n 0, 1) := by decide +kernel
theorem dX4_round_54 : decode cX4_round 54 = .ok (.getfield 43, 3) := by decide +kernel
theorem dX4_round_57 : decode cX4_round 57 = .ok (.aload_n 0, 1) := by decide +kernel
theorem dX4_round_58 : decode cX4_round 58 = .ok (.invokevirtual 182, 3) := by decide +kernel
theorem dX4_round_61 : decode cX4_round 61 = .ok (.iaload, 1) := by decide +kernel
theorem dX4_round_62 : decode cX4_round 62 = .ok (.ifCond .ge 24, 3) := by decide +kernel
theorem dX4_round_65 : decode cX4_round 65 = .ok (.aload_n 0, 1) := by decide +kernel
theorem dX4_round_66 : decode cX4_round 66 = .ok (.getfield 43, 3) := by decide +kernel
theorem dX4_round_69 : decode cX4_round 69 = .ok (.aload_n 0, 1) := by decide +kernel
theorem dX4_round_70 : decode cX4_round 70 = .ok (.invokevirtual 182, 3) := by decide +kernel
theorem dX4_round_73 : decode cX4_round 73 = .ok (.iload_n 3, 1) := by decide +kernel
theorem dX4_round_74 : decode cX4_round 74 = .ok (.iastore, 1) := by decide +kernel
theorem dX4_round_75 : decode cX4_round 75 = .ok (.iinc 3 1, 3) := by decide +kernel
theorem dX4_round_78 : decode cX4_round 78 = .ok (.aload_n 0, 1) := by decide +kernel
theorem dX4_round_79 : decode cX4_round 79 = .ok (.invokevirtual 199, 3) := by decide +kernel
theorem dX4_round_82 : decode cX4_round 82 = .ok (.pop, 1) := by decide +kernel
theorem dX4_round_83 : decode cX4_round 83 = .ok (.goto (-30), 3) := by decide +kernel
theorem dX4_round_86 : decode cX4_round 86 = .ok (.aload_n 0, 1) := by decide +kernel
theorem dX4_round_87 : decode cX4_round 87 = .ok (.getfield 43, 3) := by decide +kernel
theorem dX4_round_90 : decode cX4_round 90 = .ok (.aload_n 0, 1) := by decide +kernel
theorem dX4_round_91 : decode cX4_round 91 = .ok (.invokevirtual 182, 3) := by decide +kernel
theorem dX4_round_94 : decode cX4_round 94 = .ok (.iaload, 1) := by decide +kernel
theorem dX4_round_95 : decode cX4_round 95 = .ok (.istore 4, 2) := by decide +kernel
theorem dX4_round_97 : decode cX4_round 97 = .ok (.aload_n 0, 1) := by decide +kernel
theorem dX4_round_98 : decode cX4_round 98 = .ok (.iload_n 2, 1) := by decide +kernel
theorem dX4_round_99 : decode cX4_round 99 = .ok (.invokevirtual 185, 3) := by decide +kernel
theorem dX4_round_102 : decode cX4_round 102 = .ok (.iload_n 1, 1) := by decide +kernel
theorem dX4_round_103 : decode cX4_round 103 = .ok (.ifCond .ne 8, 3) := by decide +kernel
theorem dX4_round_106 : decode cX4_round 106 = .ok (.iload 4, 2) := by decide +kernel
theorem dX4_round_108 : decode cX4_round 108 = .ok (.goto 7, 3) := by decide +kernel
theorem dX4_round_111 : decode cX4_round 111 = .ok (.iload_n 3, 1) := by decide +kernel
theorem dX4_round_112 : decode cX4_round 112 = .ok (.iload 4, 2) := by decide +kernel
theorem dX4_round_114 : decode cX4_round 114 = .ok (.isub, 1) := by decide +kernel
theorem dX4_round_115 : decode cX4_round 115 = .ok (.ireturn, 1) := by decide +kernel
set_option maxRecDepth 20000 in
theorem ggX4_mostMinded_X4_mindsNow : GoodIn wsX4_mostMinded wsX4_mindsNow := goodIn_r _ [6, 7, 8, 9, 10, 5, 11, 12, 13, 14, 15, 16, 17, 18, 19, 20, 21, 22, 23, 24, 25, 26, 27, 28, 29, 30, 31, 32, 33, 34, 35, 36, 37, 38, 39, 40, 41, 42, 43, 44, 45, 46, 47, 48, 49, 50, 51, 52, 53, 54, 55, 56, 57, 58, 59] (by decide +kernel) (by decide +kernel)
set_option maxRecDepth 20000 in
theorem gX4_mostMinded_X4_mindsNow : GoodIn wsX4_mostMinded (wsV RX4 175 RX4 yX4_mindsNow wsX4_mindsNow) := goodIn_app (goodIn_of _ (by decide +kernel)) ggX4_mostMinded_X4_mindsNow
theorem dX4_mostMinded_0 : decode cX4_mostMinded 0 = .ok (.iconst 0, 1) := by decide +kernel
theorem dX4_mostMinded_1 : decode cX4_mostMinded 1 = .ok (.istore_n 1, 1) := by decide +kernel
theorem dX4_mostMinded_2 : decode cX4_mostMinded 2 = .ok (.iconst 0, 1) := by decide +kernel
theorem dX4_mostMinded_3 : decode cX4_mostMinded 3 = .ok (.istore_n 2, 1) := by decide +kernel
theorem dX4_mostMinded_4 : decode cX4_mostMinded 4 = .ok (.iload_n 2, 1) := by decide +kernel
theorem dX4_mostMinded_5 : decode cX4_mostMinded 5 = .ok (.aload_n 0, 1) := by decide +kernel
theorem dX4_mostMinded_6 : decode cX4_mostMinded 6 = .ok (.getfield 87, 3) := by decide +kernel
theorem dX4_mostMinded_9 : decode cX4_mostMinded 9 = .ok (.if_icmp .ge 28, 3) := by decide +kernel
theorem dX4_mostMinded_12 : decode cX4_mostMinded 12 = .ok (.aload_n 0, 1) := by decide +kernel
theorem dX4_mostMinded_13 : decode cX4_mostMinded 13 = .ok (.iload_n 2, 1) := by decide +kernel
theorem dX4_mostMinded_14 : decode cX4_mostMinded 14 = .ok (.invokevirtual 175, 3) := by decide +kernel
theorem dX4_mostMinded_17 : decode cX4_mostMinded 17 = .ok (.iload_n 1, 1) := by decide +kernel
theorem dX4_mostMinded_18 : decode cX4_mostMinded 18 = .ok (.if_icmp .le 11, 3) := by decide +kernel
theorem dX4_mostMinded_21 : decode cX4_mostMinded 21 = .ok (.aload_n 0, 1) := by decide +kernel
theorem dX4_mostMinded_22 : decode cX4_mostMinded 22 = .ok (.iload_n 2, 1) := by decide +kernel
theorem dX4_mostMinded_23 : decode cX4_mostMinded 23 = .ok (.invokevirtual 175, 3) := by decide +kernel
theorem dX4_mostMinded_26 : decode cX4_mostMinded 26 = .ok (.goto 4, 3) := by decide +kernel
theorem dX4_mostMinded_29 : decode cX4_mostMinded 29 = .ok (.iload_n 1, 1) := by decide +kernel
theorem dX4_mostMinded_30 : decode cX4_mostMinded 30 = .ok (.istore_n 1, 1) := by decide +kernel
theorem dX4_mostMinded_31 : decode cX4_mostMinded 31 = .ok (.iinc 2 1, 3) := by decide +kernel
theorem dX4_mostMinded_34 : decode cX4_mostMinded 34 = .ok (.goto (-30), 3) := by decide +kernel
theorem dX4_mostMinded_37 : decode cX4_mostMinded 37 = .ok (.iload_n 1, 1) := by decide +kernel
theorem dX4_mostMinded_38 : decode cX4_mostMinded 38 = .ok (.ireturn, 1) := by decide +kernel
set_option maxRecDepth 20000 in
theorem ggX4_leastRow_X4_vanesNow : GoodIn wsX4_leastRow wsX4_vanesNow := goodIn_r _ [6, 7, 8, 49, 50, 51, 52, 53, 54, 55, 56, 57, 58, 59, 60, 61, 62, 63, 64, 65, 66, 67, 68, 69, 70, 71, 72, 73, 74, 75, 76, 77, 78, 79, 80] (by decide +kernel) (by decide +kernel)
set_option maxRecDepth 20000 in
theorem gX4_leastRow_X4_vanesNow : GoodIn wsX4_leastRow (wsV RX4 182 RX4 yX4_vanesNow wsX4_vanesNow) := goodIn_app (goodIn_of _ (by decide +kernel)) ggX4_leastRow_X4_vanesNow
set_option maxRecDepth 20000 in
theorem ggX4_leastRow_X4_rows : GoodIn wsX4_leastRow wsX4_rows := goodIn_r _ [12, 7, 49, 50, 51, 52, 53, 54, 55, 56, 57, 58, 59, 60, 61, 62, 63, 64, 65, 66, 67, 68, 69, 70, 71, 72, 73, 74, 75, 76, 77, 78, 79, 80] (by decide +kernel) (by decide +kernel)
set_option maxRecDepth 20000 in
theorem gX4_leastRow_X4_rows : GoodIn wsX4_leastRow (wsV RX4 205 RX4 yX4_rows wsX4_rows) := goodIn_app (goodIn_of _ (by decide +kernel)) ggX4_leastRow_X4_rows
set_option maxRecDepth 20000 in
theorem ggX4_leastRow_X4_turnAll : GoodIn wsX4_leastRow wsX4_turnAll := goodIn_r _ [16, 7, 8, 49, 50, 51, 52, 53, 54, 55, 56, 57, 58, 59, 60, 61, 62, 63, 64, 65, 66, 67, 68, 69, 70, 71, 72, 73, 74, 75, 76, 77, 78, 79, 80] (by decide +kernel) (by decide +kernel)
set_option maxRecDepth 20000 in
theorem gX4_leastRow_X4_turnAll : GoodIn wsX4_leastRow (wsV RX4 185 RX4 yX4_turnAll wsX4_turnAll) := goodIn_app (goodIn_of _ (by decide +kernel)) ggX4_leastRow_X4_turnAll
set_option maxRecDepth 20000 in
theorem ggX4_leastRow_X4_burdenNow : GoodIn wsX4_leastRow wsX4_burdenNow := goodIn_r _ [20, 21, 22, 23, 24, 5, 25, 26, 27, 28, 29, 30, 31, 32, 33, 34, 35, 36, 7, 37, 38, 39, 40, 41, 42, 43, 8, 44, 49, 50, 51, 52, 53, 54, 55, 56, 57, 58, 59, 60, 61, 62, 63, 64, 65, 66, 67, 68, 69, 70, 71, 72, 73, 74, 75, 76, 77, 78, 79, 80] (by decide +kernel) (by decide +kernel)
set_option maxRecDepth 20000 in
theorem gX4_leastRow_X4_burdenNow : GoodIn wsX4_leastRow (wsV RX4 178 RX4 yX4_burdenNow wsX4_burdenNow) := goodIn_app (goodIn_of _ (by decide +kernel)) ggX4_leastRow_X4_burdenNow
set_option maxRecDepth 20000 in
theorem ggX4_leastRow_X4_mostMinded : GoodIn wsX4_leastRow wsX4_mostMinded := goodIn_r _ [48, 21, 22, 23, 24, 5, 25, 26, 27, 28, 29, 30, 31, 32, 33, 34, 35, 36, 7, 37, 38, 39, 40, 41, 42, 43, 8, 44, 49, 50, 51, 52, 53, 54, 55, 56, 57, 58, 59, 60, 61, 62, 63, 64, 65, 66, 67, 68, 69, 70, 71, 72, 73, 74, 75, 76, 77, 78, 79, 80] (by decide +kernel) (by decide +kernel)
set_option maxRecDepth 20000 in
theorem gX4_leastRow_X4_mostMinded : GoodIn wsX4_leastRow (wsV RX4 208 RX4 yX4_mostMinded wsX4_mostMinded) := goodIn_app (goodIn_of _ (by decide +kernel)) ggX4_leastRow_X4_mostMinded
theorem dX4_leastRow_0 : decode cX4_leastRow 0 = .ok (.aload_n 0, 1) := by decide +kernel
theorem dX4_leastRow_1 : decode cX4_leastRow 1 = .ok (.invokevirtual 182, 3) := by decide +kernel
theorem dX4_leastRow_4 : decode cX4_leastRow 4 = .ok (.istore_n 2, 1) := by decide +kernel
theorem dX4_leastRow_5 : decode cX4_leastRow 5 = .ok (.iconst 0, 1) := by decide +kernel
theorem dX4_leastRow_6 : decode cX4_leastRow 6 = .ok (.istore_n 3, 1) := by decide +kernel
theorem dX4_leastRow_7 : decode cX4_leastRow 7 = .ok (.aload_n 0, 1) := by decide +kernel
theorem dX4_leastRow_8 : decode cX4_leastRow 8 = .ok (.iconst (-1), 1) := by decide +kernel
theorem dX4_leastRow_9 : decode cX4_leastRow 9 = .ok (.putfield 202, 3) := by decide +kernel
theorem dX4_leastRow_12 : decode cX4_leastRow 12 = .ok (.iconst 0, 1) := by decide +kernel
theorem dX4_leastRow_13 : decode cX4_leastRow 13 = .ok (.istore 4, 2) := by decide +kernel
theorem dX4_leastRow_15 : decode cX4_leastRow 15 = .ok (.iload 4, 2) := by decide +kernel
theorem dX4_leastRow_17 : decode cX4_leastRow 17 = .ok (.aload_n 0, 1) := by decide +kernel
theorem dX4_leastRow_18 : decode cX4_leastRow 18 = .ok (.invokevirtual 205, 3) := by decide +kernel
theorem dX4_leastRow_21 : decode cX4_leastRow 21 = .ok (.if_icmp .ge 74, 3) := by decide +kernel
theorem dX4_leastRow_24 : decode cX4_leastRow 24 = .ok (.aload_n 0, 1) := by decide +kernel
theorem dX4_leastRow_25 : decode cX4_leastRow 25 = .ok (.iload 4, 2) := by decide +kernel
theorem dX4_leastRow_27 : decode cX4_leastRow 27 = .ok (.invokevirtual 185, 3) := by decide +kernel
theorem dX4_leastRow_30 : decode cX4_leastRow 30 = .ok (.iload_n 1, 1) := by decide +kernel
theorem dX4_leastRow_31 : decode cX4_leastRow 31 = .ok (.ifCond .eq 10, 3) := by decide +kernel
theorem dX4_leastRow_34 : decode cX4_leastRow 34 = .ok (.aload_n 0, 1) := by decide +kernel
theorem dX4_leastRow_35 : decode cX4_leastRow 35 = .ok (.invokevirtual 178, 3) := by decide +kernel
theorem dX4_leastRow_38 : decode cX4_leastRow 38 = .ok (.goto 7, 3) := by decide +kernel
theorem dX4_leastRow_41 : decode cX4_leastRow 41 = .ok (.aload_n 0, 1) := by decide +kernel
theorem dX4_leastRow_42 : decode cX4_leastRow 42 = .ok (.invokevirtual 208, 3) := by decide +kernel
theorem dX4_leastRow_45 : decode cX4_leastRow 45 = .ok (.istore 5, 2) := by decide +kernel
theorem dX4_leastRow_47 : decode cX4_leastRow 47 = .ok (.aload_n 0, 1) := by decide +kernel
theorem dX4_leastRow_48 : decode cX4_leastRow 48 = .ok (.getfield 202, 3) := by decide +kernel
theorem dX4_leastRow_51 : decode cX4_leastRow 51 = .ok (.ifCond .lt 12, 3) := by decide +kernel
theorem dX4_leastRow_54 : decode cX4_leastRow 54 = .ok (.iload 5, 2) := by decide +kernel
theorem dX4_leastRow_56 : decode cX4_leastRow 56 = .ok (.aload_n 0, 1) := by decide +kernel
theorem dX4_leastRow_57 : decode cX4_leastRow 57 = .ok (.getfield 202, 3) := by decide +kernel
theorem dX4_leastRow_60 : decode cX4_leastRow 60 = .ok (.if_icmp .ge 8, 3) := by decide +kernel
theorem dX4_leastRow_63 : decode cX4_leastRow 63 = .ok (.iload 4, 2) := by decide +kernel
theorem dX4_leastRow_65 : decode cX4_leastRow 65 = .ok (.goto 4, 3) := by decide +kernel
theorem dX4_leastRow_68 : decode cX4_leastRow 68 = .ok (.iload_n 3, 1) := by decide +kernel
theorem dX4_leastRow_69 : decode cX4_leastRow 69 = .ok (.istore_n 3, 1) := by decide +kernel
theorem dX4_leastRow_70 : decode cX4_leastRow 70 = .ok (.aload_n 0, 1) := by decide +kernel
theorem dX4_leastRow_71 : decode cX4_leastRow 71 = .ok (.iload_n 3, 1) := by decide +kernel
theorem dX4_leastRow_72 : decode cX4_leastRow 72 = .ok (.iload 4, 2) := by decide +kernel
theorem dX4_leastRow_74 : decode cX4_leastRow 74 = .ok (.if_icmp .ne 8, 3) := by decide +kernel
theorem dX4_leastRow_77 : decode cX4_leastRow 77 = .ok (.iload 5, 2) := by decide +kernel
theorem dX4_leastRow_79 : decode cX4_leastRow 79 = .ok (.goto 7, 3) := by decide +kernel
theorem dX4_leastRow_82 : decode cX4_leastRow 82 = .ok (.aload_n 0, 1) := by decide +kernel
theorem dX4_leastRow_83 : decode cX4_leastRow 83 = .ok (.getfield 202, 3) := by decide +kernel
theorem dX4_leastRow_86 : decode cX4_leastRow 86 = .ok (.putfield 202, 3) := by decide +kernel
theorem dX4_leastRow_89 : decode cX4_leastRow 89 = .ok (.iinc 4 1, 3) := by decide +kernel
theorem dX4_leastRow_92 : decode cX4_leastRow 92 = .ok (.goto (-77), 3) := by decide +kernel
theorem dX4_leastRow_95 : decode cX4_leastRow 95 = .ok (.aload_n 0, 1) := by decide +kernel
theorem dX4_leastRow_96 : decode cX4_leastRow 96 = .ok (.iload_n 2, 1) := by decide +kernel
theorem dX4_leastRow_97 : decode cX4_leastRow 97 = .ok (.invokevirtual 185, 3) := by decide +kernel
theorem dX4_leastRow_100 : decode cX4_leastRow 100 = .ok (.iload_n 3, 1) := by decide +kernel
theorem dX4_leastRow_101 : decode cX4_leastRow 101 = .ok (.ireturn, 1) := by decide +kernel
theorem dX4_vaneIn_0 : decode cX4_vaneIn 0 = .ok (.iload_n 1, 1) := by decide +kernel
theorem dX4_vaneIn_1 : decode cX4_vaneIn 1 = .ok (.istore_n 3, 1) := by decide +kernel
theorem dX4_vaneIn_2 : decode cX4_vaneIn 2 = .ok (.aload_n 0, 1) := by decide +kernel
theorem dX4_vaneIn_3 : decode cX4_vaneIn 3 = .ok (.getfield 84, 3) := by decide +kernel
theorem dX4_vaneIn_6 : decode cX4_vaneIn 6 = .ok (.iconst 1, 1) := by decide +kernel
theorem dX4_vaneIn_7 : decode cX4_vaneIn 7 = .ok (.isub, 1) := by decide +kernel
theorem dX4_vaneIn_8 : decode cX4_vaneIn 8 = .ok (.istore 4, 2) := by decide +kernel
theorem dX4_vaneIn_10 : decode cX4_vaneIn 10 = .ok (.iload 4, 2) := by decide +kernel
theorem dX4_vaneIn_12 : decode cX4_vaneIn 12 = .ok (.iload_n 2, 1) := by decide +kernel
theorem dX4_vaneIn_13 : decode cX4_vaneIn 13 = .ok (.if_icmp .le 13, 3) := by decide +kernel
theorem dX4_vaneIn_16 : decode cX4_vaneIn 16 = .ok (.iload_n 3, 1) := by decide +kernel
theorem dX4_vaneIn_17 : decode cX4_vaneIn 17 = .ok (.iconst 4, 1) := by decide +kernel
theorem dX4_vaneIn_18 : decode cX4_vaneIn 18 = .ok (.idiv, 1) := by decide +kernel
theorem dX4_vaneIn_19 : decode cX4_vaneIn 19 = .ok (.istore_n 3, 1) := by decide +kernel
theorem dX4_vaneIn_20 : decode cX4_vaneIn 20 = .ok (.iinc 4 (-1), 3) := by decide +kernel
theorem dX4_vaneIn_23 : decode cX4_vaneIn 23 = .ok (.goto (-13), 3) := by decide +kernel
theorem dX4_vaneIn_26 : decode cX4_vaneIn 26 = .ok (.iload_n 3, 1) := by decide +kernel
theorem dX4_vaneIn_27 : decode cX4_vaneIn 27 = .ok (.iconst 4, 1) := by decide +kernel
theorem dX4_vaneIn_28 : decode cX4_vaneIn 28 = .ok (.irem, 1) := by decide +kernel
theorem dX4_vaneIn_29 : decode cX4_vaneIn 29 = .ok (.ireturn, 1) := by decide +kernel
set_option maxRecDepth 20000 in
theorem ggX4_best_X4_leastRow : GoodIn wsX4_best wsX4_leastRow := goodIn_r _ [7, 2, 8, 9, 10, 6, 11, 12, 13, 14, 15, 16, 17, 18, 19, 20, 21, 22, 23, 24, 25, 26, 27, 28, 29, 30, 31, 32, 33, 34, 35, 36, 37, 38, 39, 40, 41, 42, 43, 44, 45, 46, 47, 48, 49, 50, 51, 52, 53, 65, 66, 67, 68, 69, 70, 71, 72, 73, 74, 75, 76, 77, 78, 79, 80, 81, 82, 83, 84, 85, 86, 87, 88, 89, 90, 91, 92, 93, 94, 95, 96] (by decide +kernel) (by decide +kernel)
set_option maxRecDepth 20000 in
theorem gX4_best_X4_leastRow : GoodIn wsX4_best (wsV RX4 211 RX4 yX4_leastRow wsX4_leastRow) := goodIn_app (goodIn_of _ (by decide +kernel)) ggX4_best_X4_leastRow
set_option maxRecDepth 20000 in
theorem ggX4_best_X4_noWork : GoodIn wsX4_best wsX4_noWork := goodIn_r _ [57, 12, 58, 59, 6, 60, 65, 66, 67, 68, 69, 70, 71, 72, 73, 74, 75, 76, 77, 78, 79, 80, 81, 82, 83, 84, 85, 86, 87, 88, 89, 90, 91, 92, 93, 94, 95, 96] (by decide +kernel) (by decide +kernel)
set_option maxRecDepth 20000 in
theorem gX4_best_X4_noWork : GoodIn wsX4_best (wsV RX4 161 RX4 yX4_noWork wsX4_noWork) := goodIn_app (goodIn_of _ (by decide +kernel)) ggX4_best_X4_noWork
set_option maxRecDepth 20000 in
theorem ggX4_best_X4_vaneIn : GoodIn wsX4_best wsX4_vaneIn := goodIn_r _ [64, 12, 65, 66, 67, 68, 69, 70, 71, 72, 73, 74, 75, 76, 77, 78, 79, 80, 81, 82, 83, 84, 85, 86, 87, 88, 89, 90, 91, 92, 93, 94, 95, 96] (by decide +kernel) (by decide +kernel)
set_option maxRecDepth 20000 in
theorem gX4_best_X4_vaneIn : GoodIn wsX4_best (wsV RX4 215 RX4 yX4_vaneIn wsX4_vaneIn) := goodIn_app (goodIn_of _ (by decide +kernel)) ggX4_best_X4_vaneIn
theorem dX4_best_0 : decode cX4_best 0 = .ok (.iload_n 1, 1) := by decide +kernel
theorem dX4_best_1 : decode cX4_best 1 = .ok (.iconst (-1), 1) := by decide +kernel
theorem dX4_best_2 : decode cX4_best 2 = .ok (.if_icmp .ge 5, 3) := by decide +kernel
theorem dX4_best_5 : decode cX4_best 5 = .ok (.iconst (-1), 1) := by decide +kernel
theorem dX4_best_6 : decode cX4_best 6 = .ok (.ireturn, 1) := by decide +kernel
theorem dX4_best_7 : decode cX4_best 7 = .ok (.aload_n 0, 1) := by decide +kernel
theorem dX4_best_8 : decode cX4_best 8 = .ok (.getfield 74, 3) := by decide +kernel
theorem dX4_best_11 : decode cX4_best 11 = .ok (.ifCond .ne 6, 3) := by decide +kernel
theorem dX4_best_14 : decode cX4_best 14 = .ok (.bipush (-3), 2) := by decide +kernel
theorem dX4_best_16 : decode cX4_best 16 = .ok (.ireturn, 1) := by decide +kernel
theorem dX4_best_17 : decode cX4_best 17 = .ok (.aload_n 0, 1) := by decide +kernel
theorem dX4_best_18 : decode cX4_best 18 = .ok (.iconst 1, 1) := by decide +kernel
theorem dX4_best_19 : decode cX4_best 19 = .ok (.invokevirtual 211, 3) := by decide +kernel
theorem dX4_best_22 : decode cX4_best 22 = .ok (.istore_n 2, 1) := by decide +kernel
theorem dX4_best_23 : decode cX4_best 23 = .ok (.iload_n 1, 1) := by decide +kernel
theorem dX4_best_24 : decode cX4_best 24 = .ok (.ifCond .ge 10, 3) := by decide +kernel
theorem dX4_best_27 : decode cX4_best 27 = .ok (.aload_n 0, 1) := by decide +kernel
theorem dX4_best_28 : decode cX4_best 28 = .ok (.getfield 202, 3) := by decide +kernel
theorem dX4_best_31 : decode cX4_best 31 = .ok (.goto 22, 3) := by decide +kernel
theorem dX4_best_34 : decode cX4_best 34 = .ok (.aload_n 0, 1) := by decide +kernel
theorem dX4_best_35 : decode cX4_best 35 = .ok (.iload_n 1, 1) := by decide +kernel
theorem dX4_best_36 : decode cX4_best 36 = .ok (.invokevirtual 161, 3) := by decide +kernel
theorem dX4_best_39 : decode cX4_best 39 = .ok (.ifCond .eq 8, 3) := by decide +kernel
theorem dX4_best_42 : decode cX4_best 42 = .ok (.bipush (-9), 2) := by decide +kernel
theorem dX4_best_44 : decode cX4_best 44 = .ok (.goto 9, 3) := by decide +kernel
theorem dX4_best_47 : decode cX4_best 47 = .ok (.aload_n 0, 1) := by decide +kernel
theorem dX4_best_48 : decode cX4_best 48 = .ok (.iload_n 2, 1) := by decide +kernel
theorem dX4_best_49 : decode cX4_best 49 = .ok (.iload_n 1, 1) := by decide +kernel
theorem dX4_best_50 : decode cX4_best 50 = .ok (.invokevirtual 215, 3) := by decide +kernel
theorem dX4_best_53 : decode cX4_best 53 = .ok (.ireturn, 1) := by decide +kernel
set_option maxRecDepth 20000 in
theorem ggX4_calm_X4_leastRow : GoodIn wsX4_calm wsX4_leastRow := goodIn_r _ [7, 2, 8, 9, 10, 6, 11, 12, 13, 14, 15, 16, 17, 18, 19, 20, 21, 22, 23, 24, 25, 26, 27, 28, 29, 30, 31, 32, 33, 34, 35, 36, 37, 38, 39, 40, 41, 42, 43, 44, 45, 46, 47, 48, 49, 50, 51, 52, 53, 65, 66, 67, 68, 69, 70, 71, 72, 73, 74, 75, 76, 77, 78, 79, 80, 81, 82, 83, 84, 85, 86, 87, 88, 89, 90, 91, 92, 93, 94, 95, 96] (by decide +kernel) (by decide +kernel)
set_option maxRecDepth 20000 in
theorem gX4_calm_X4_leastRow : GoodIn wsX4_calm (wsV RX4 211 RX4 yX4_leastRow wsX4_leastRow) := goodIn_app (goodIn_of _ (by decide +kernel)) ggX4_calm_X4_leastRow
set_option maxRecDepth 20000 in
theorem ggX4_calm_X4_noWork : GoodIn wsX4_calm wsX4_noWork := goodIn_r _ [57, 12, 58, 59, 6, 60, 65, 66, 67, 68, 69, 70, 71, 72, 73, 74, 75, 76, 77, 78, 79, 80, 81, 82, 83, 84, 85, 86, 87, 88, 89, 90, 91, 92, 93, 94, 95, 96] (by decide +kernel) (by decide +kernel)
set_option maxRecDepth 20000 in
theorem gX4_calm_X4_noWork : GoodIn wsX4_calm (wsV RX4 161 RX4 yX4_noWork wsX4_noWork) := goodIn_app (goodIn_of _ (by decide +kernel)) ggX4_calm_X4_noWork
set_option maxRecDepth 20000 in
theorem ggX4_calm_X4_vaneIn : GoodIn wsX4_calm wsX4_vaneIn := goodIn_r _ [64, 12, 65, 66, 67, 68, 69, 70, 71, 72, 73, 74, 75, 76, 77, 78, 79, 80, 81, 82, 83, 84, 85, 86, 87, 88, 89, 90, 91, 92, 93, 94, 95, 96] (by decide +kernel) (by decide +kernel)
set_option maxRecDepth 20000 in
theorem gX4_calm_X4_vaneIn : GoodIn wsX4_calm (wsV RX4 215 RX4 yX4_vaneIn wsX4_vaneIn) := goodIn_app (goodIn_of _ (by decide +kernel)) ggX4_calm_X4_vaneIn
theorem dX4_calm_0 : decode cX4_calm 0 = .ok (.iload_n 1, 1) := by decide +kernel
theorem dX4_calm_1 : decode cX4_calm 1 = .ok (.iconst (-1), 1) := by decide +kernel
theorem dX4_calm_2 : decode cX4_calm 2 = .ok (.if_icmp .ge 5, 3) := by decide +kernel
theorem dX4_calm_5 : decode cX4_calm 5 = .ok (.iconst (-1), 1) := by decide +kernel
theorem dX4_calm_6 : decode cX4_calm 6 = .ok (.ireturn, 1) := by decide +kernel
theorem dX4_calm_7 : decode cX4_calm 7 = .ok (.aload_n 0, 1) := by decide +kernel
theorem dX4_calm_8 : decode cX4_calm 8 = .ok (.getfield 74, 3) := by decide +kernel
theorem dX4_calm_11 : decode cX4_calm 11 = .ok (.ifCond .ne 6, 3) := by decide +kernel
theorem dX4_calm_14 : decode cX4_calm 14 = .ok (.bipush (-3), 2) := by decide +kernel
theorem dX4_calm_16 : decode cX4_calm 16 = .ok (.ireturn, 1) := by decide +kernel
theorem dX4_calm_17 : decode cX4_calm 17 = .ok (.aload_n 0, 1) := by decide +kernel
theorem dX4_calm_18 : decode cX4_calm 18 = .ok (.iconst 0, 1) := by decide +kernel
theorem dX4_calm_19 : decode cX4_calm 19 = .ok (.invokevirtual 211, 3) := by decide +kernel
theorem dX4_calm_22 : decode cX4_calm 22 = .ok (.istore_n 2, 1) := by decide +kernel
theorem dX4_calm_23 : decode cX4_calm 23 = .ok (.iload_n 1, 1) := by decide +kernel
theorem dX4_calm_24 : decode cX4_calm 24 = .ok (.ifCond .ge 10, 3) := by decide +kernel
theorem dX4_calm_27 : decode cX4_calm 27 = .ok (.aload_n 0, 1) := by decide +kernel
theorem dX4_calm_28 : decode cX4_calm 28 = .ok (.getfield 202, 3) := by decide +kernel
theorem dX4_calm_31 : decode cX4_calm 31 = .ok (.goto 22, 3) := by decide +kernel
theorem dX4_calm_34 : decode cX4_calm 34 = .ok (.aload_n 0, 1) := by decide +kernel
theorem dX4_calm_35 : decode cX4_calm 35 = .ok (.iload_n 1, 1) := by decide +kernel
theorem dX4_calm_36 : decode cX4_calm 36 = .ok (.invokevirtual 161, 3) := by decide +kernel
theorem dX4_calm_39 : decode cX4_calm 39 = .ok (.ifCond .eq 8, 3) := by decide +kernel
theorem dX4_calm_42 : decode cX4_calm 42 = .ok (.bipush (-9), 2) := by decide +kernel
theorem dX4_calm_44 : decode cX4_calm 44 = .ok (.goto 9, 3) := by decide +kernel
theorem dX4_calm_47 : decode cX4_calm 47 = .ok (.aload_n 0, 1) := by decide +kernel
theorem dX4_calm_48 : decode cX4_calm 48 = .ok (.iload_n 2, 1) := by decide +kernel
theorem dX4_calm_49 : decode cX4_calm 49 = .ok (.iload_n 1, 1) := by decide +kernel
theorem dX4_calm_50 : decode cX4_calm 50 = .ok (.invokevirtual 215, 3) := by decide +kernel
theorem dX4_calm_53 : decode cX4_calm 53 = .ok (.ireturn, 1) := by decide +kernel
set_option maxRecDepth 20000 in
theorem ggX4_bribe_X4_noWork : GoodIn wsX4_bribe wsX4_noWork := goodIn_r _ [7, 8, 9, 10, 6, 11, 50, 51, 52, 53, 54, 55, 56, 57, 58, 59, 60, 61, 62, 63, 64, 65, 66, 67, 68, 69, 70, 71, 72, 73, 74, 75, 76, 77, 78, 79, 80, 81] (by decide +kernel) (by decide +kernel)
set_option maxRecDepth 20000 in
theorem gX4_bribe_X4_noWork : GoodIn wsX4_bribe (wsV RX4 161 RX4 yX4_noWork wsX4_noWork) := goodIn_app (goodIn_of _ (by decide +kernel)) ggX4_bribe_X4_noWork
set_option maxRecDepth 20000 in
theorem ggX4_bribe_X4_in : GoodIn wsX4_bribe wsX4_in := goodIn_r _ [11] (by decide +kernel) (by decide +kernel)
set_option maxRecDepth 20000 in
theorem gX4_bribe_X4_in : GoodIn wsX4_bribe (va_wsS RX4 80 yX4_in wsX4_in) := goodIn_app (goodIn_of _ (by decide +kernel)) ggX4_bribe_X4_in
set_option maxRecDepth 20000 in
theorem ggX4_bribe_X4_bits : GoodIn wsX4_bribe wsX4_bits := goodIn_r _ [14] (by decide +kernel) (by decide +kernel)
set_option maxRecDepth 20000 in
theorem gX4_bribe_X4_bits : GoodIn wsX4_bribe (va_wsS RX4 218 yX4_bits wsX4_bits) := goodIn_app (goodIn_of _ (by decide +kernel)) ggX4_bribe_X4_bits
set_option maxRecDepth 20000 in
theorem ggX4_bribe_X4_winsBy : GoodIn wsX4_bribe wsX4_winsBy := goodIn_r _ [18, 2, 19, 20, 6, 21, 22, 23, 24, 25, 26, 27, 28, 29, 30, 31, 32, 33, 34, 35, 36, 37, 38, 39, 40, 41, 8, 42, 43, 44, 45, 46, 47, 48, 49, 50, 51, 52, 53, 54, 55, 56, 57, 58, 59, 60, 61, 62, 63, 64, 65, 66, 67, 68, 69, 70, 71, 72, 73, 74, 75, 76, 77, 78, 79, 80, 81] (by decide +kernel) (by decide +kernel)
set_option maxRecDepth 20000 in
theorem gX4_bribe_X4_winsBy : GoodIn wsX4_bribe (wsV RX4 195 RX4 yX4_winsBy wsX4_winsBy) := goodIn_app (goodIn_of _ (by decide +kernel)) ggX4_bribe_X4_winsBy
theorem dX4_bribe_0 : decode cX4_bribe 0 = .ok (.aload_n 0, 1) := by decide +kernel
theorem dX4_bribe_1 : decode cX4_bribe 1 = .ok (.iload_n 1, 1) := by decide +kernel
theorem dX4_bribe_2 : decode cX4_bribe 2 = .ok (.invokevirtual 161, 3) := by decide +kernel
theorem dX4_bribe_5 : decode cX4_bribe 5 = .ok (.ifCond .eq 5, 3) := by decide +kernel
theorem dX4_bribe_8 : decode cX4_bribe 8 = .ok (.iconst (-1), 1) := by decide +kernel
theorem dX4_bribe_9 : decode cX4_bribe 9 = .ok (.ireturn, 1) := by decide +kernel
theorem dX4_bribe_10 : decode cX4_bribe 10 = .ok (.iload_n 2, 1) := by decide +kernel
theorem dX4_bribe_11 : decode cX4_bribe 11 = .ok (.i2l, 1) := by decide +kernel
theorem dX4_bribe_12 : decode cX4_bribe 12 = .ok (.lconst 0, 1) := by decide +kernel
theorem dX4_bribe_13 : decode cX4_bribe 13 = .ok (.ldc2_w 164, 3) := by decide +kernel
theorem dX4_bribe_16 : decode cX4_bribe 16 = .ok (.invokestatic 80, 3) := by decide +kernel
theorem dX4_bribe_19 : decode cX4_bribe 19 = .ok (.ifCond .ne 6, 3) := by decide +kernel
theorem dX4_bribe_22 : decode cX4_bribe 22 = .ok (.bipush (-2), 2) := by decide +kernel
theorem dX4_bribe_24 : decode cX4_bribe 24 = .ok (.ireturn, 1) := by decide +kernel
theorem dX4_bribe_25 : decode cX4_bribe 25 = .ok (.bipush (-9), 2) := by decide +kernel
theorem dX4_bribe_27 : decode cX4_bribe 27 = .ok (.istore_n 3, 1) := by decide +kernel
theorem dX4_bribe_28 : decode cX4_bribe 28 = .ok (.iconst 0, 1) := by decide +kernel
theorem dX4_bribe_29 : decode cX4_bribe 29 = .ok (.istore 4, 2) := by decide +kernel
theorem dX4_bribe_31 : decode cX4_bribe 31 = .ok (.iload 4, 2) := by decide +kernel
theorem dX4_bribe_33 : decode cX4_bribe 33 = .ok (.iconst 1, 1) := by decide +kernel
theorem dX4_bribe_34 : decode cX4_bribe 34 = .ok (.aload_n 0, 1) := by decide +kernel
theorem dX4_bribe_35 : decode cX4_bribe 35 = .ok (.getfield 87, 3) := by decide +kernel
theorem dX4_bribe_38 : decode cX4_bribe 38 = .ok (.ishl, 1) := by decide +kernel
theorem dX4_bribe_39 : decode cX4_bribe 39 = .ok (.if_icmp .ge 40, 3) := by decide +kernel
theorem dX4_bribe_42 : decode cX4_bribe 42 = .ok (.iload_n 3, 1) := by decide +kernel
theorem dX4_bribe_43 : decode cX4_bribe 43 = .ok (.ifCond .lt 15, 3) := by decide +kernel
theorem dX4_bribe_46 : decode cX4_bribe 46 = .ok (.iload 4, 2) := by decide +kernel
theorem dX4_bribe_48 : decode cX4_bribe 48 = .ok (.invokestatic 218, 3) := by decide +kernel
theorem dX4_bribe_51 : decode cX4_bribe 51 = .ok (.iload_n 3, 1) := by decide +kernel
theorem dX4_bribe_52 : decode cX4_bribe 52 = .ok (.invokestatic 218, 3) := by decide +kernel
theorem dX4_bribe_55 : decode cX4_bribe 55 = .ok (.if_icmp .ge 18, 3) := by decide +kernel
theorem dX4_bribe_58 : decode cX4_bribe 58 = .ok (.aload_n 0, 1) := by decide +kernel
theorem dX4_bribe_59 : decode cX4_bribe 59 = .ok (.iload_n 1, 1) := by decide +kernel
theorem dX4_bribe_60 : decode cX4_bribe 60 = .ok (.iload 4, 2) := by decide +kernel
theorem dX4_bribe_62 : decode cX4_bribe 62 = .ok (.iload_n 2, 1) := by decide +kernel
theorem dX4_bribe_63 : decode cX4_bribe 63 = .ok (.invokevirtual 195, 3) := by decide +kernel
theorem dX4_bribe_66 : decode cX4_bribe 66 = .ok (.iload_n 2, 1) := by decide +kernel
theorem dX4_bribe_67 : decode cX4_bribe 67 = .ok (.if_icmp .ne 6, 3) := by decide +kernel
theorem dX4_bribe_70 : decode cX4_bribe 70 = .ok (.iload 4, 2) := by decide +kernel
theorem dX4_bribe_72 : decode cX4_bribe 72 = .ok (.istore_n 3, 1) := by decide +kernel
theorem dX4_bribe_73 : decode cX4_bribe 73 = .ok (.iinc 4 1, 3) := by decide +kernel
theorem dX4_bribe_76 : decode cX4_bribe 76 = .ok (.goto (-45), 3) := by decide +kernel
theorem dX4_bribe_79 : decode cX4_bribe 79 = .ok (.iload_n 3, 1) := by decide +kernel
theorem dX4_bribe_80 : decode cX4_bribe 80 = .ok (.ireturn, 1) := by decide +kernel
set_option maxRecDepth 20000 in
theorem ggX4_reading_X4_noSpot : GoodIn wsX4_reading wsX4_noSpot := goodIn_r _ [9, 10, 11, 12, 13, 8, 14, 15, 16, 17, 18, 19, 20, 21, 22, 23, 24, 25, 26, 27, 28, 29, 30, 31, 32, 33, 34, 35, 36, 37, 38, 39, 40, 41, 42, 43, 44, 45, 46] (by decide +kernel) (by decide +kernel)
set_option maxRecDepth 20000 in
theorem gX4_reading_X4_noSpot : GoodIn wsX4_reading (wsV RX4 169 RX4 yX4_noSpot wsX4_noSpot) := goodIn_app (goodIn_of _ (by decide +kernel)) ggX4_reading_X4_noSpot
set_option maxRecDepth 20000 in
theorem ggX4_reading_X4_in : GoodIn wsX4_reading wsX4_in := goodIn_r _ [14] (by decide +kernel) (by decide +kernel)
set_option maxRecDepth 20000 in
theorem gX4_reading_X4_in : GoodIn wsX4_reading (va_wsS RX4 80 yX4_in wsX4_in) := goodIn_app (goodIn_of _ (by decide +kernel)) ggX4_reading_X4_in
theorem dX4_reading_0 : decode cX4_reading 0 = .ok (.aload_n 0, 1) := by decide +kernel
theorem dX4_reading_1 : decode cX4_reading 1 = .ok (.iload_n 1, 1) := by decide +kernel
theorem dX4_reading_2 : decode cX4_reading 2 = .ok (.invokevirtual 169, 3) := by decide +kernel
theorem dX4_reading_5 : decode cX4_reading 5 = .ok (.ifCond .eq 5, 3) := by decide +kernel
theorem dX4_reading_8 : decode cX4_reading 8 = .ok (.iconst (-1), 1) := by decide +kernel
theorem dX4_reading_9 : decode cX4_reading 9 = .ok (.ireturn, 1) := by decide +kernel
theorem dX4_reading_10 : decode cX4_reading 10 = .ok (.iload_n 2, 1) := by decide +kernel
theorem dX4_reading_11 : decode cX4_reading 11 = .ok (.i2l, 1) := by decide +kernel
theorem dX4_reading_12 : decode cX4_reading 12 = .ok (.lconst 0, 1) := by decide +kernel
theorem dX4_reading_13 : decode cX4_reading 13 = .ok (.ldc2_w 221, 3) := by decide +kernel
theorem dX4_reading_16 : decode cX4_reading 16 = .ok (.invokestatic 80, 3) := by decide +kernel
theorem dX4_reading_19 : decode cX4_reading 19 = .ok (.ifCond .ne 6, 3) := by decide +kernel
theorem dX4_reading_22 : decode cX4_reading 22 = .ok (.bipush (-2), 2) := by decide +kernel
theorem dX4_reading_24 : decode cX4_reading 24 = .ok (.ireturn, 1) := by decide +kernel
theorem dX4_reading_25 : decode cX4_reading 25 = .ok (.aload_n 0, 1) := by decide +kernel
theorem dX4_reading_26 : decode cX4_reading 26 = .ok (.getfield 152, 3) := by decide +kernel
theorem dX4_reading_29 : decode cX4_reading 29 = .ok (.bipush 8, 2) := by decide +kernel
theorem dX4_reading_31 : decode cX4_reading 31 = .ok (.if_icmp .ne 6, 3) := by decide +kernel
theorem dX4_reading_34 : decode cX4_reading 34 = .ok (.bipush (-4), 2) := by decide +kernel
theorem dX4_reading_36 : decode cX4_reading 36 = .ok (.ireturn, 1) := by decide +kernel
theorem dX4_reading_37 : decode cX4_reading 37 = .ok (.aload_n 0, 1) := by decide +kernel
theorem dX4_reading_38 : decode cX4_reading 38 = .ok (.getfield 46, 3) := by decide +kernel
theorem dX4_reading_41 : decode cX4_reading 41 = .ok (.aload_n 0, 1) := by decide +kernel
theorem dX4_reading_42 : decode cX4_reading 42 = .ok (.getfield 152, 3) := by decide +kernel
theorem dX4_reading_45 : decode cX4_reading 45 = .ok (.iload_n 1, 1) := by decide +kernel
theorem dX4_reading_46 : decode cX4_reading 46 = .ok (.iastore, 1) := by decide +kernel
theorem dX4_reading_47 : decode cX4_reading 47 = .ok (.aload_n 0, 1) := by decide +kernel
theorem dX4_reading_48 : decode cX4_reading 48 = .ok (.getfield 49, 3) := by decide +kernel
theorem dX4_reading_51 : decode cX4_reading 51 = .ok (.aload_n 0, 1) := by decide +kernel
theorem dX4_reading_52 : decode cX4_reading 52 = .ok (.getfield 152, 3) := by decide +kernel
theorem dX4_reading_55 : decode cX4_reading 55 = .ok (.iload_n 2, 1) := by decide +kernel
theorem dX4_reading_56 : decode cX4_reading 56 = .ok (.iastore, 1) := by decide +kernel
theorem dX4_reading_57 : decode cX4_reading 57 = .ok (.aload_n 0, 1) := by decide +kernel
theorem dX4_reading_58 : decode cX4_reading 58 = .ok (.dup, 1) := by decide +kernel
theorem dX4_reading_59 : decode cX4_reading 59 = .ok (.getfield 152, 3) := by decide +kernel
theorem dX4_reading_62 : decode cX4_reading 62 = .ok (.iconst 1, 1) := by decide +kernel
theorem dX4_reading_63 : decode cX4_reading 63 = .ok (.iadd, 1) := by decide +kernel
theorem dX4_reading_64 : decode cX4_reading 64 = .ok (.putfield 152, 3) := by decide +kernel
theorem dX4_reading_67 : decode cX4_reading 67 = .ok (.aload_n 0, 1) := by decide +kernel
theorem dX4_reading_68 : decode cX4_reading 68 = .ok (.getfield 152, 3) := by decide +kernel
theorem dX4_reading_71 : decode cX4_reading 71 = .ok (.iconst 1, 1) := by decide +kernel
theorem dX4_reading_72 : decode cX4_reading 72 = .ok (.isub, 1) := by decide +kernel
theorem dX4_reading_73 : decode cX4_reading 73 = .ok (.ireturn, 1) := by decide +kernel
set_option maxRecDepth 20000 in
theorem ggX4_back_X4_in : GoodIn wsX4_back wsX4_in := goodIn_r _ [5] (by decide +kernel) (by decide +kernel)
set_option maxRecDepth 20000 in
theorem gX4_back_X4_in : GoodIn wsX4_back (va_wsS RX4 80 yX4_in wsX4_in) := goodIn_app (goodIn_of _ (by decide +kernel)) ggX4_back_X4_in
theorem dX4_back_0 : decode cX4_back 0 = .ok (.iload_n 1, 1) := by decide +kernel
theorem dX4_back_1 : decode cX4_back 1 = .ok (.i2l, 1) := by decide +kernel
theorem dX4_back_2 : decode cX4_back 2 = .ok (.lconst 0, 1) := by decide +kernel
theorem dX4_back_3 : decode cX4_back 3 = .ok (.aload_n 0, 1) := by decide +kernel
theorem dX4_back_4 : decode cX4_back 4 = .ok (.getfield 152, 3) := by decide +kernel
theorem dX4_back_7 : decode cX4_back 7 = .ok (.i2l, 1) := by decide +kernel
theorem dX4_back_8 : decode cX4_back 8 = .ok (.invokestatic 80, 3) := by decide +kernel
theorem dX4_back_11 : decode cX4_back 11 = .ok (.ifCond .ne 6, 3) := by decide +kernel
theorem dX4_back_14 : decode cX4_back 14 = .ok (.bipush (-2), 2) := by decide +kernel
theorem dX4_back_16 : decode cX4_back 16 = .ok (.ireturn, 1) := by decide +kernel
theorem dX4_back_17 : decode cX4_back 17 = .ok (.aload_n 0, 1) := by decide +kernel
theorem dX4_back_18 : decode cX4_back 18 = .ok (.dup, 1) := by decide +kernel
theorem dX4_back_19 : decode cX4_back 19 = .ok (.getfield 152, 3) := by decide +kernel
theorem dX4_back_22 : decode cX4_back 22 = .ok (.iload_n 1, 1) := by decide +kernel
theorem dX4_back_23 : decode cX4_back 23 = .ok (.isub, 1) := by decide +kernel
theorem dX4_back_24 : decode cX4_back 24 = .ok (.putfield 152, 3) := by decide +kernel
theorem dX4_back_27 : decode cX4_back 27 = .ok (.aload_n 0, 1) := by decide +kernel
theorem dX4_back_28 : decode cX4_back 28 = .ok (.getfield 152, 3) := by decide +kernel
theorem dX4_back_31 : decode cX4_back 31 = .ok (.ireturn, 1) := by decide +kernel
set_option maxRecDepth 20000 in
theorem ggX4_areSo_X4_smellOf : GoodIn wsX4_areSo wsX4_smellOf := goodIn_r _ [8, 9, 10, 11, 12, 13, 7, 14, 15, 16, 17, 18, 19, 20, 21, 22, 23, 24, 25, 26, 27, 28, 29, 30, 31, 32, 33, 34, 35, 36, 37, 38, 39, 40, 41, 42, 43, 44, 45, 46, 47, 48, 49, 50] (by decide +kernel) (by decide +kernel)
set_option maxRecDepth 20000 in
theorem gX4_areSo_X4_smellOf : GoodIn wsX4_areSo (wsV RX4 172 RX4 yX4_smellOf wsX4_smellOf) := goodIn_app (goodIn_of _ (by decide +kernel)) ggX4_areSo_X4_smellOf
theorem dX4_areSo_0 : decode cX4_areSo 0 = .ok (.iconst 1, 1) := by decide +kernel
theorem dX4_areSo_1 : decode cX4_areSo 1 = .ok (.istore_n 1, 1) := by decide +kernel
theorem dX4_areSo_2 : decode cX4_areSo 2 = .ok (.iconst 0, 1) := by decide +kernel
theorem dX4_areSo_3 : decode cX4_areSo 3 = .ok (.istore_n 2, 1) := by decide +kernel
theorem dX4_areSo_4 : decode cX4_areSo 4 = .ok (.iload_n 2, 1) := by decide +kernel
theorem dX4_areSo_5 : decode cX4_areSo 5 = .ok (.aload_n 0, 1) := by decide +kernel
theorem dX4_areSo_6 : decode cX4_areSo 6 = .ok (.getfield 152, 3) := by decide +kernel
theorem dX4_areSo_9 : decode cX4_areSo 9 = .ok (.if_icmp .ge 38, 3) := by decide +kernel
theorem dX4_areSo_12 : decode cX4_areSo 12 = .ok (.iload_n 1, 1) := by decide +kernel
theorem dX4_areSo_13 : decode cX4_areSo 13 = .ok (.ifCond .eq 26, 3) := by decide +kernel
theorem dX4_areSo_16 : decode cX4_areSo 16 = .ok (.aload_n 0, 1) := by decide +kernel
theorem dX4_areSo_17 : decode cX4_areSo 17 = .ok (.aload_n 0, 1) := by decide +kernel
theorem dX4_areSo_18 : decode cX4_areSo 18 = .ok (.getfield 46, 3) := by decide +kernel
theorem dX4_areSo_21 : decode cX4_areSo 21 = .ok (.iload_n 2, 1) := by decide +kernel
theorem dX4_areSo_22 : decode cX4_areSo 22 = .ok (.iaload, 1) := by decide +kernel
theorem dX4_areSo_23 : decode cX4_areSo 23 = .ok (.invokevirtual 172, 3) := by decide +kernel
theorem dX4_areSo_26 : decode cX4_areSo 26 = .ok (.aload_n 0, 1) := by decide +kernel
theorem dX4_areSo_27 : decode cX4_areSo 27 = .ok (.getfield 49, 3) := by decide +kernel
theorem dX4_areSo_30 : decode cX4_areSo 30 = .ok (.iload_n 2, 1) := by decide +kernel
theorem dX4_areSo_31 : decode cX4_areSo 31 = .ok (.iaload, 1) := by decide +kernel
theorem dX4_areSo_32 : decode cX4_areSo 32 = .ok (.if_icmp .ne 7, 3) := by decide +kernel
theorem dX4_areSo_35 : decode cX4_areSo 35 = .ok (.iconst 1, 1) := by decide +kernel
theorem dX4_areSo_36 : decode cX4_areSo 36 = .ok (.goto 4, 3) := by decide +kernel
theorem dX4_areSo_39 : decode cX4_areSo 39 = .ok (.iconst 0, 1) := by decide +kernel
theorem dX4_areSo_40 : decode cX4_areSo 40 = .ok (.istore_n 1, 1) := by decide +kernel
theorem dX4_areSo_41 : decode cX4_areSo 41 = .ok (.iinc 2 1, 3) := by decide +kernel
theorem dX4_areSo_44 : decode cX4_areSo 44 = .ok (.goto (-40), 3) := by decide +kernel
theorem dX4_areSo_47 : decode cX4_areSo 47 = .ok (.iload_n 1, 1) := by decide +kernel
theorem dX4_areSo_48 : decode cX4_areSo 48 = .ok (.ireturn, 1) := by decide +kernel
set_option maxRecDepth 20000 in
theorem ggX4_settings_X4_vanesNow : GoodIn wsX4_settings wsX4_vanesNow := goodIn_r _ [6, 7, 8, 47, 48, 49, 50, 51, 52, 53, 54, 55, 56, 57, 58, 59, 60, 61, 62, 63, 64, 65, 66, 67, 68, 69, 70, 71, 72, 73, 74, 75, 76, 77, 78] (by decide +kernel) (by decide +kernel)
set_option maxRecDepth 20000 in
theorem gX4_settings_X4_vanesNow : GoodIn wsX4_settings (wsV RX4 182 RX4 yX4_vanesNow wsX4_vanesNow) := goodIn_app (goodIn_of _ (by decide +kernel)) ggX4_settings_X4_vanesNow
set_option maxRecDepth 20000 in
theorem ggX4_settings_X4_rows : GoodIn wsX4_settings wsX4_rows := goodIn_r _ [12, 7, 47, 48, 49, 50, 51, 52, 53, 54, 55, 56, 57, 58, 59, 60, 61, 62, 63, 64, 65, 66, 67, 68, 69, 70, 71, 72, 73, 74, 75, 76, 77, 78] (by decide +kernel) (by decide +kernel)
set_option maxRecDepth 20000 in
theorem gX4_settings_X4_rows : GoodIn wsX4_settings (wsV RX4 205 RX4 yX4_rows wsX4_rows) := goodIn_app (goodIn_of _ (by decide +kernel)) ggX4_settings_X4_rows
set_option maxRecDepth 20000 in
theorem ggX4_settings_X4_turnAll : GoodIn wsX4_settings wsX4_turnAll := goodIn_r _ [16, 7, 8, 47, 48, 49, 50, 51, 52, 53, 54, 55, 56, 57, 58, 59, 60, 61, 62, 63, 64, 65, 66, 67, 68, 69, 70, 71, 72, 73, 74, 75, 76, 77, 78] (by decide +kernel) (by decide +kernel)
set_option maxRecDepth 20000 in
theorem gX4_settings_X4_turnAll : GoodIn wsX4_settings (wsV RX4 185 RX4 yX4_turnAll wsX4_turnAll) := goodIn_app (goodIn_of _ (by decide +kernel)) ggX4_settings_X4_turnAll
set_option maxRecDepth 20000 in
theorem ggX4_settings_X4_areSo : GoodIn wsX4_settings wsX4_areSo := goodIn_r _ [20, 21, 22, 23, 24, 25, 26, 5, 27, 7, 28, 29, 30, 31, 32, 33, 34, 8, 35, 47, 48, 49, 50, 51, 52, 53, 54, 55, 56, 57, 58, 59, 60, 61, 62, 63, 64, 65, 66, 67, 68, 69, 70, 71, 72, 73, 74, 75, 76, 77, 78] (by decide +kernel) (by decide +kernel)
set_option maxRecDepth 20000 in
theorem gX4_settings_X4_areSo : GoodIn wsX4_settings (wsV RX4 223 RX4 yX4_areSo wsX4_areSo) := goodIn_app (goodIn_of _ (by decide +kernel)) ggX4_settings_X4_areSo
set_option maxRecDepth 20000 in
theorem ggX4_settings_X4_noWork : GoodIn wsX4_settings wsX4_noWork := goodIn_r _ [39, 7, 40, 41, 5, 42, 47, 48, 49, 50, 51, 52, 53, 54, 55, 56, 57, 58, 59, 60, 61, 62, 63, 64, 65, 66, 67, 68, 69, 70, 71, 72, 73, 74, 75, 76, 77, 78] (by decide +kernel) (by decide +kernel)
set_option maxRecDepth 20000 in
theorem gX4_settings_X4_noWork : GoodIn wsX4_settings (wsV RX4 161 RX4 yX4_noWork wsX4_noWork) := goodIn_app (goodIn_of _ (by decide +kernel)) ggX4_settings_X4_noWork
set_option maxRecDepth 20000 in
theorem ggX4_settings_X4_vaneIn : GoodIn wsX4_settings wsX4_vaneIn := goodIn_r _ [46, 7, 47, 48, 49, 50, 51, 52, 53, 54, 55, 56, 57, 58, 59, 60, 61, 62, 63, 64, 65, 66, 67, 68, 69, 70, 71, 72, 73, 74, 75, 76, 77, 78] (by decide +kernel) (by decide +kernel)
set_option maxRecDepth 20000 in
theorem gX4_settings_X4_vaneIn : GoodIn wsX4_settings (wsV RX4 215 RX4 yX4_vaneIn wsX4_vaneIn) := goodIn_app (goodIn_of _ (by decide +kernel)) ggX4_settings_X4_vaneIn
theorem dX4_settings_0 : decode cX4_settings 0 = .ok (.iload_n 1, 1) := by decide +kernel
theorem dX4_settings_1 : decode cX4_settings 1 = .ok (.iconst (-1), 1) := by decide +kernel
theorem dX4_settings_2 : decode cX4_settings 2 = .ok (.if_icmp .ge 5, 3) := by decide +kernel
theorem dX4_settings_5 : decode cX4_settings 5 = .ok (.iconst (-1), 1) := by decide +kernel
theorem dX4_settings_6 : decode cX4_settings 6 = .ok (.ireturn, 1) := by decide +kernel
theorem dX4_settings_7 : decode cX4_settings 7 = .ok (.aload_n 0, 1) := by decide +kernel
theorem dX4_settings_8 : decode cX4_settings 8 = .ok (.getfield 74, 3) := by decide +kernel
theorem dX4_settings_11 : decode cX4_settings 11 = .ok (.ifCond .ne 6, 3) := by decide +kernel
theorem dX4_settings_14 : decode cX4_settings 14 = .ok (.bipush (-3), 2) := by decide +kernel
theorem dX4_settings_16 : decode cX4_settings 16 = .ok (.ireturn, 1) := by decide +kernel
theorem dX4_settings_17 : decode cX4_settings 17 = .ok (.aload_n 0, 1) := by decide +kernel
theorem dX4_settings_18 : decode cX4_settings 18 = .ok (.invokevirtual 182, 3) := by decide +kernel
theorem dX4_settings_21 : decode cX4_settings 21 = .ok (.istore_n 2, 1) := by decide +kernel
theorem dX4_settings_22 : decode cX4_settings 22 = .ok (.iconst 0, 1) := by decide +kernel
theorem dX4_settings_23 : decode cX4_settings 23 = .ok (.istore_n 3, 1) := by decide +kernel
theorem dX4_settings_24 : decode cX4_settings 24 = .ok (.bipush (-9), 2) := by decide +kernel
theorem dX4_settings_26 : decode cX4_settings 26 = .ok (.istore 4, 2) := by decide +kernel
theorem dX4_settings_28 : decode cX4_settings 28 = .ok (.iconst 0, 1) := by decide +kernel
theorem dX4_settings_29 : decode cX4_settings 29 = .ok (.istore 5, 2) := by decide +kernel
theorem dX4_settings_31 : decode cX4_settings 31 = .ok (.iload 5, 2) := by decide +kernel
theorem dX4_settings_33 : decode cX4_settings 33 = .ok (.aload_n 0, 1) := by decide +kernel
theorem dX4_settings_34 : decode cX4_settings 34 = .ok (.invokevirtual 205, 3) := by decide +kernel
theorem dX4_settings_37 : decode cX4_settings 37 = .ok (.if_icmp .ge 39, 3) := by decide +kernel
theorem dX4_settings_40 : decode cX4_settings 40 = .ok (.aload_n 0, 1) := by decide +kernel
theorem dX4_settings_41 : decode cX4_settings 41 = .ok (.iload 5, 2) := by decide +kernel
theorem dX4_settings_43 : decode cX4_settings 43 = .ok (.invokevirtual 185, 3) := by decide +kernel
theorem dX4_settings_46 : decode cX4_settings 46 = .ok (.aload_n 0, 1) := by decide +kernel
theorem dX4_settings_47 : decode cX4_settings 47 = .ok (.invokevirtual 223, 3) := by decide +kernel
theorem dX4_settings_50 : decode cX4_settings 50 = .ok (.ifCond .eq 20, 3) := by decide +kernel
theorem dX4_settings_53 : decode cX4_settings 53 = .ok (.iinc 3 1, 3) := by decide +kernel
theorem dX4_settings_56 : decode cX4_settings 56 = .ok (.iload 4, 2) := by decide +kernel
theorem dX4_settings_58 : decode cX4_settings 58 = .ok (.ifCond .ge 8, 3) := by decide +kernel
theorem dX4_settings_61 : decode cX4_settings 61 = .ok (.iload 5, 2) := by decide +kernel
theorem dX4_settings_63 : decode cX4_settings 63 = .ok (.goto 5, 3) := by decide +kernel
theorem dX4_settings_66 : decode cX4_settings 66 = .ok (.iload 4, 2) := by decide +kernel
theorem dX4_settings_68 : decode cX4_settings 68 = .ok (.istore 4, 2) := by decide +kernel
theorem dX4_settings_70 : decode cX4_settings 70 = .ok (.iinc 5 1, 3) := by decide +kernel
theorem dX4_settings_73 : decode cX4_settings 73 = .ok (.goto (-42), 3) := by decide +kernel
theorem dX4_settings_76 : decode cX4_settings 76 = .ok (.aload_n 0, 1) := by decide +kernel
theorem dX4_settings_77 : decode cX4_settings 77 = .ok (.iload_n 2, 1) := by decide +kernel
theorem dX4_settings_78 : decode cX4_settings 78 = .ok (.invokevirtual 185, 3) := by decide +kernel
theorem dX4_settings_81 : decode cX4_settings 81 = .ok (.iload_n 1, 1) := by decide +kernel
theorem dX4_settings_82 : decode cX4_settings 82 = .ok (.ifCond .ge 7, 3) := by decide +kernel
theorem dX4_settings_85 : decode cX4_settings 85 = .ok (.iload_n 3, 1) := by decide +kernel
theorem dX4_settings_86 : decode cX4_settings 86 = .ok (.goto 28, 3) := by decide +kernel
theorem dX4_settings_89 : decode cX4_settings 89 = .ok (.iload 4, 2) := by decide +kernel
theorem dX4_settings_91 : decode cX4_settings 91 = .ok (.ifCond .lt 11, 3) := by decide +kernel
theorem dX4_settings_94 : decode cX4_settings 94 = .ok (.aload_n 0, 1) := by decide +kernel
theorem dX4_settings_95 : decode cX4_settings 95 = .ok (.iload_n 1, 1) := by decide +kernel
theorem dX4_settings_96 : decode cX4_settings 96 = .ok (.invokevirtual 161, 3) := by decide +kernel
theorem dX4_settings_99 : decode cX4_settings 99 = .ok (.ifCond .eq 8, 3) := by decide +kernel
theorem dX4_settings_102 : decode cX4_settings 102 = .ok (.bipush (-9), 2) := by decide +kernel
theorem dX4_settings_104 : decode cX4_settings 104 = .ok (.goto 10, 3) := by decide +kernel
theorem dX4_settings_107 : decode cX4_settings 107 = .ok (.aload_n 0, 1) := by decide +kernel
theorem dX4_settings_108 : decode cX4_settings 108 = .ok (.iload 4, 2) := by decide +kernel
theorem dX4_settings_110 : decode cX4_settings 110 = .ok (.iload_n 1, 1) := by decide +kernel
theorem dX4_settings_111 : decode cX4_settings 111 = .ok (.invokevirtual 215, 3) := by decide +kernel
theorem dX4_settings_114 : decode cX4_settings 114 = .ok (.ireturn, 1) := by decide +kernel
set_option maxRecDepth 20000 in
theorem ggX4_laws_X4_areSo : GoodIn wsX4_laws wsX4_areSo := goodIn_r _ [7, 8, 9, 10, 11, 12, 13, 6, 14, 15, 2, 16, 17, 18, 19, 20, 21, 22, 23, 24, 25, 26, 27, 28, 29, 30, 31, 32, 33, 34, 35, 36, 37, 38, 39, 40, 41, 42, 43, 44, 45, 46, 47, 48, 49, 50, 51, 52, 53, 54, 55] (by decide +kernel) (by decide +kernel)
set_option maxRecDepth 20000 in
theorem gX4_laws_X4_areSo : GoodIn wsX4_laws (wsV RX4 223 RX4 yX4_areSo wsX4_areSo) := goodIn_app (goodIn_of _ (by decide +kernel)) ggX4_laws_X4_areSo
theorem dX4_laws_0 : decode cX4_laws 0 = .ok (.aload_n 0, 1) := by decide +kernel
theorem dX4_laws_1 : decode cX4_laws 1 = .ok (.getfield 74, 3) := by decide +kernel
theorem dX4_laws_4 : decode cX4_laws 4 = .ok (.ifCond .ne 6, 3) := by decide +kernel
theorem dX4_laws_7 : decode cX4_laws 7 = .ok (.bipush (-3), 2) := by decide +kernel
theorem dX4_laws_9 : decode cX4_laws 9 = .ok (.ireturn, 1) := by decide +kernel
theorem dX4_laws_10 : decode cX4_laws 10 = .ok (.aload_n 0, 1) := by decide +kernel
theorem dX4_laws_11 : decode cX4_laws 11 = .ok (.getfield 149, 3) := by decide +kernel
theorem dX4_laws_14 : decode cX4_laws 14 = .ok (.istore_n 1, 1) := by decide +kernel
theorem dX4_laws_15 : decode cX4_laws 15 = .ok (.iconst 0, 1) := by decide +kernel
theorem dX4_laws_16 : decode cX4_laws 16 = .ok (.istore_n 2, 1) := by decide +kernel
theorem dX4_laws_17 : decode cX4_laws 17 = .ok (.iconst 0, 1) := by decide +kernel
theorem dX4_laws_18 : decode cX4_laws 18 = .ok (.istore_n 3, 1) := by decide +kernel
theorem dX4_laws_19 : decode cX4_laws 19 = .ok (.iload_n 3, 1) := by decide +kernel
theorem dX4_laws_20 : decode cX4_laws 20 = .ok (.iconst 3, 1) := by decide +kernel
theorem dX4_laws_21 : decode cX4_laws 21 = .ok (.if_icmp .ge 31, 3) := by decide +kernel
theorem dX4_laws_24 : decode cX4_laws 24 = .ok (.aload_n 0, 1) := by decide +kernel
theorem dX4_laws_25 : decode cX4_laws 25 = .ok (.iload_n 3, 1) := by decide +kernel
theorem dX4_laws_26 : decode cX4_laws 26 = .ok (.putfield 149, 3) := by decide +kernel
theorem dX4_laws_29 : decode cX4_laws 29 = .ok (.iload_n 2, 1) := by decide +kernel
theorem dX4_laws_30 : decode cX4_laws 30 = .ok (.aload_n 0, 1) := by decide +kernel
theorem dX4_laws_31 : decode cX4_laws 31 = .ok (.invokevirtual 223, 3) := by decide +kernel
theorem dX4_laws_34 : decode cX4_laws 34 = .ok (.ifCond .eq 9, 3) := by decide +kernel
theorem dX4_laws_37 : decode cX4_laws 37 = .ok (.iconst 1, 1) := by decide +kernel
theorem dX4_laws_38 : decode cX4_laws 38 = .ok (.iload_n 3, 1) := by decide +kernel
theorem dX4_laws_39 : decode cX4_laws 39 = .ok (.ishl, 1) := by decide +kernel
theorem dX4_laws_40 : decode cX4_laws 40 = .ok (.goto 4, 3) := by decide +kernel
theorem dX4_laws_43 : decode cX4_laws 43 = .ok (.iconst 0, 1) := by decide +kernel
theorem dX4_laws_44 : decode cX4_laws 44 = .ok (.ior, 1) := by decide +kernel
theorem dX4_laws_45 : decode cX4_laws 45 = .ok (.istore_n 2, 1) := by decide +kernel
theorem dX4_laws_46 : decode cX4_laws 46 = .ok (.iinc 3 1, 3) := by decide +kernel
theorem dX4_laws_49 : decode cX4_laws 49 = .ok (.goto (-30), 3) := by decide +kernel
theorem dX4_laws_52 : decode cX4_laws 52 = .ok (.aload_n 0, 1) := by decide +kernel
theorem dX4_laws_53 : decode cX4_laws 53 = .ok (.iload_n 1, 1) := by decide +kernel
theorem dX4_laws_54 : decode cX4_laws 54 = .ok (.putfield 149, 3) := by decide +kernel
theorem dX4_laws_57 : decode cX4_laws 57 = .ok (.iload_n 2, 1) := by decide +kernel
theorem dX4_laws_58 : decode cX4_laws 58 = .ok (.ireturn, 1) := by decide +kernel
set_option maxRecDepth 20000 in
theorem ggX4_powers_X4_noWork : GoodIn wsX4_powers wsX4_noWork := goodIn_r _ [6, 7, 8, 9, 5, 10, 30, 31, 32, 33, 34, 35, 36, 37, 38, 39, 40, 41, 42, 43, 44, 45, 46, 47, 48, 49, 50, 51, 52, 53, 54, 55, 56, 57, 58, 59, 60, 61] (by decide +kernel) (by decide +kernel)
set_option maxRecDepth 20000 in
theorem gX4_powers_X4_noWork : GoodIn wsX4_powers (wsV RX4 161 RX4 yX4_noWork wsX4_noWork) := goodIn_app (goodIn_of _ (by decide +kernel)) ggX4_powers_X4_noWork
set_option maxRecDepth 20000 in
theorem ggX4_powers_X4_areSo : GoodIn wsX4_powers wsX4_areSo := goodIn_r _ [14, 15, 16, 17, 18, 19, 20, 5, 21, 7, 22, 23, 24, 25, 26, 27, 28, 29, 1, 30, 31, 32, 33, 34, 35, 36, 37, 38, 39, 40, 41, 42, 43, 44, 45, 46, 47, 48, 49, 50, 51, 52, 53, 54, 55, 56, 57, 58, 59, 60, 61] (by decide +kernel) (by decide +kernel)
set_option maxRecDepth 20000 in
theorem gX4_powers_X4_areSo : GoodIn wsX4_powers (wsV RX4 223 RX4 yX4_areSo wsX4_areSo) := goodIn_app (goodIn_of _ (by decide +kernel)) ggX4_powers_X4_areSo
theorem dX4_powers_0 : decode cX4_powers 0 = .ok (.aload_n 0, 1) := by decide +kernel
theorem dX4_powers_1 : decode cX4_powers 1 = .ok (.iload_n 1, 1) := by decide +kernel
theorem dX4_powers_2 : decode cX4_powers 2 = .ok (.invokevirtual 161, 3) := by decide +kernel
theorem dX4_powers_5 : decode cX4_powers 5 = .ok (.ifCond .eq 5, 3) := by decide +kernel
theorem dX4_powers_8 : decode cX4_powers 8 = .ok (.iconst (-1), 1) := by decide +kernel
theorem dX4_powers_9 : decode cX4_powers 9 = .ok (.ireturn, 1) := by decide +kernel
theorem dX4_powers_10 : decode cX4_powers 10 = .ok (.aload_n 0, 1) := by decide +kernel
theorem dX4_powers_11 : decode cX4_powers 11 = .ok (.getfield 13, 3) := by decide +kernel
theorem dX4_powers_14 : decode cX4_powers 14 = .ok (.iload_n 1, 1) := by decide +kernel
theorem dX4_powers_15 : decode cX4_powers 15 = .ok (.iaload, 1) := by decide +kernel
theorem dX4_powers_16 : decode cX4_powers 16 = .ok (.istore_n 2, 1) := by decide +kernel
theorem dX4_powers_17 : decode cX4_powers 17 = .ok (.iconst 0, 1) := by decide +kernel
theorem dX4_powers_18 : decode cX4_powers 18 = .ok (.istore_n 3, 1) := by decide +kernel
theorem dX4_powers_19 : decode cX4_powers 19 = .ok (.iconst 1, 1) := by decide +kernel
theorem dX4_powers_20 : decode cX4_powers 20 = .ok (.istore 4, 2) := by decide +kernel
theorem dX4_powers_22 : decode cX4_powers 22 = .ok (.iload 4, 2) := by decide +kernel
theorem dX4_powers_24 : decode cX4_powers 24 = .ok (.bipush 10, 2) := by decide +kernel
theorem dX4_powers_26 : decode cX4_powers 26 = .ok (.if_icmp .ge 35, 3) := by decide +kernel
theorem dX4_powers_29 : decode cX4_powers 29 = .ok (.aload_n 0, 1) := by decide +kernel
theorem dX4_powers_30 : decode cX4_powers 30 = .ok (.getfield 13, 3) := by decide +kernel
theorem dX4_powers_33 : decode cX4_powers 33 = .ok (.iload_n 1, 1) := by decide +kernel
theorem dX4_powers_34 : decode cX4_powers 34 = .ok (.iload 4, 2) := by decide +kernel
theorem dX4_powers_36 : decode cX4_powers 36 = .ok (.iastore, 1) := by decide +kernel
theorem dX4_powers_37 : decode cX4_powers 37 = .ok (.iload_n 3, 1) := by decide +kernel
theorem dX4_powers_38 : decode cX4_powers 38 = .ok (.aload_n 0, 1) := by decide +kernel
theorem dX4_powers_39 : decode cX4_powers 39 = .ok (.invokevirtual 223, 3) := by decide +kernel
theorem dX4_powers_42 : decode cX4_powers 42 = .ok (.ifCond .eq 10, 3) := by decide +kernel
theorem dX4_powers_45 : decode cX4_powers 45 = .ok (.iconst 1, 1) := by decide +kernel
theorem dX4_powers_46 : decode cX4_powers 46 = .ok (.iload 4, 2) := by decide +kernel
theorem dX4_powers_48 : decode cX4_powers 48 = .ok (.ishl, 1) := by decide +kernel
theorem dX4_powers_49 : decode cX4_powers 49 = .ok (.goto 4, 3) := by decide +kernel
theorem dX4_powers_52 : decode cX4_powers 52 = .ok (.iconst 0, 1) := by decide +kernel
theorem dX4_powers_53 : decode cX4_powers 53 = .ok (.ior, 1) := by decide +kernel
theorem dX4_powers_54 : decode cX4_powers 54 = .ok (.istore_n 3, 1) := by decide +kernel
theorem dX4_powers_55 : decode cX4_powers 55 = .ok (.iinc 4 1, 3) := by decide +kernel
theorem dX4_powers_58 : decode cX4_powers 58 = .ok (.goto (-36), 3) := by decide +kernel
theorem dX4_powers_61 : decode cX4_powers 61 = .ok (.aload_n 0, 1) := by decide +kernel
theorem dX4_powers_62 : decode cX4_powers 62 = .ok (.getfield 13, 3) := by decide +kernel
theorem dX4_powers_65 : decode cX4_powers 65 = .ok (.iload_n 1, 1) := by decide +kernel
theorem dX4_powers_66 : decode cX4_powers 66 = .ok (.iload_n 2, 1) := by decide +kernel
theorem dX4_powers_67 : decode cX4_powers 67 = .ok (.iastore, 1) := by decide +kernel
theorem dX4_powers_68 : decode cX4_powers 68 = .ok (.iload_n 3, 1) := by decide +kernel
theorem dX4_powers_69 : decode cX4_powers 69 = .ok (.ireturn, 1) := by decide +kernel
set_option maxRecDepth 20000 in
theorem ggX4_odds_X4_noSpot : GoodIn wsX4_odds wsX4_noSpot := goodIn_r _ [6, 7, 8, 9, 10, 5, 11, 44, 45, 46, 47, 48, 49, 50, 51, 52, 53, 54, 55, 56, 57, 58, 59, 60, 61, 62, 63, 64, 65, 66, 67, 68, 69, 70, 71, 72, 73, 74, 75] (by decide +kernel) (by decide +kernel)
set_option maxRecDepth 20000 in
theorem gX4_odds_X4_noSpot : GoodIn wsX4_odds (wsV RX4 169 RX4 yX4_noSpot wsX4_noSpot) := goodIn_app (goodIn_of _ (by decide +kernel)) ggX4_odds_X4_noSpot
set_option maxRecDepth 20000 in
theorem ggX4_odds_X4_in : GoodIn wsX4_odds wsX4_in := goodIn_r _ [11] (by decide +kernel) (by decide +kernel)
set_option maxRecDepth 20000 in
theorem gX4_odds_X4_in : GoodIn wsX4_odds (va_wsS RX4 80 yX4_in wsX4_in) := goodIn_app (goodIn_of _ (by decide +kernel)) ggX4_odds_X4_in
set_option maxRecDepth 20000 in
theorem ggX4_odds_X4_lost : GoodIn wsX4_odds wsX4_lost := goodIn_r _ [14, 15] (by decide +kernel) (by decide +kernel)
set_option maxRecDepth 20000 in
theorem gX4_odds_X4_lost : GoodIn wsX4_odds (va_wsS RX4 70 yX4_lost wsX4_lost) := goodIn_app (goodIn_of _ (by decide +kernel)) ggX4_odds_X4_lost
set_option maxRecDepth 20000 in
theorem ggX4_odds_X4_vanesNow : GoodIn wsX4_odds wsX4_vanesNow := goodIn_r _ [19, 20, 21, 44, 45, 46, 47, 48, 49, 50, 51, 52, 53, 54, 55, 56, 57, 58, 59, 60, 61, 62, 63, 64, 65, 66, 67, 68, 69, 70, 71, 72, 73, 74, 75] (by decide +kernel) (by decide +kernel)
set_option maxRecDepth 20000 in
theorem gX4_odds_X4_vanesNow : GoodIn wsX4_odds (wsV RX4 182 RX4 yX4_vanesNow wsX4_vanesNow) := goodIn_app (goodIn_of _ (by decide +kernel)) ggX4_odds_X4_vanesNow
set_option maxRecDepth 20000 in
theorem ggX4_odds_X4_rows : GoodIn wsX4_odds wsX4_rows := goodIn_r _ [25, 20, 44, 45, 46, 47, 48, 49, 50, 51, 52, 53, 54, 55, 56, 57, 58, 59, 60, 61, 62, 63, 64, 65, 66, 67, 68, 69, 70, 71, 72, 73, 74, 75] (by decide +kernel) (by decide +kernel)
set_option maxRecDepth 20000 in
theorem gX4_odds_X4_rows : GoodIn wsX4_odds (wsV RX4 205 RX4 yX4_rows wsX4_rows) := goodIn_app (goodIn_of _ (by decide +kernel)) ggX4_odds_X4_rows
set_option maxRecDepth 20000 in
theorem ggX4_odds_X4_turnAll : GoodIn wsX4_odds wsX4_turnAll := goodIn_r _ [29, 20, 21, 44, 45, 46, 47, 48, 49, 50, 51, 52, 53, 54, 55, 56, 57, 58, 59, 60, 61, 62, 63, 64, 65, 66, 67, 68, 69, 70, 71, 72, 73, 74, 75] (by decide +kernel) (by decide +kernel)
set_option maxRecDepth 20000 in
theorem gX4_odds_X4_turnAll : GoodIn wsX4_odds (wsV RX4 185 RX4 yX4_turnAll wsX4_turnAll) := goodIn_app (goodIn_of _ (by decide +kernel)) ggX4_odds_X4_turnAll
set_option maxRecDepth 20000 in
theorem ggX4_odds_X4_smellOf : GoodIn wsX4_odds wsX4_smellOf := goodIn_r _ [33, 20, 34, 35, 36, 37, 5, 38, 8, 39, 21, 40, 44, 45, 46, 47, 48, 49, 50, 51, 52, 53, 54, 55, 56, 57, 58, 59, 60, 61, 62, 63, 64, 65, 66, 67, 68, 69, 70, 71, 72, 73, 74, 75] (by decide +kernel) (by decide +kernel)
set_option maxRecDepth 20000 in
theorem gX4_odds_X4_smellOf : GoodIn wsX4_odds (wsV RX4 172 RX4 yX4_smellOf wsX4_smellOf) := goodIn_app (goodIn_of _ (by decide +kernel)) ggX4_odds_X4_smellOf
set_option maxRecDepth 20000 in
theorem ggX4_odds_X4_share : GoodIn wsX4_odds wsX4_share := goodIn_r _ [43] (by decide +kernel) (by decide +kernel)
set_option maxRecDepth 20000 in
theorem gX4_odds_X4_share : GoodIn wsX4_odds (va_wsS RX4 227 yX4_share wsX4_share) := goodIn_app (goodIn_of _ (by decide +kernel)) ggX4_odds_X4_share
theorem dX4_odds_0 : decode cX4_odds 0 = .ok (.aload_n 0, 1) := by decide +kernel
theorem dX4_odds_1 : decode cX4_odds 1 = .ok (.iload_n 1, 1) := by decide +kernel
theorem dX4_odds_2 : decode cX4_odds 2 = .ok (.invokevirtual 169, 3) := by decide +kernel
theorem dX4_odds_5 : decode cX4_odds 5 = .ok (.ifCond .ne 25, 3) := by decide +kernel
theorem dX4_odds_8 : decode cX4_odds 8 = .ok (.iload_n 2, 1) := by decide +kernel
theorem dX4_odds_9 : decode cX4_odds 9 = .ok (.i2l, 1) := by decide +kernel
theorem dX4_odds_10 : decode cX4_odds 10 = .ok (.lconst 0, 1) := by decide +kernel
theorem dX4_odds_11 : decode cX4_odds 11 = .ok (.ldc2_w 221, 3) := by decide +kernel
theorem dX4_odds_14 : decode cX4_odds 14 = .ok (.invokestatic 80, 3) := by decide +kernel
theorem dX4_odds_17 : decode cX4_odds 17 = .ok (.ifCond .eq 13, 3) := by decide +kernel
theorem dX4_odds_20 : decode cX4_odds 20 = .ok (.iload_n 3, 1) := by decide +kernel
theorem dX4_odds_21 : decode cX4_odds 21 = .ok (.i2l, 1) := by decide +kernel
theorem dX4_odds_22 : decode cX4_odds 22 = .ok (.lconst 0, 1) := by decide +kernel
theorem dX4_odds_23 : decode cX4_odds 23 = .ok (.lconst 1, 1) := by decide +kernel
theorem dX4_odds_24 : decode cX4_odds 24 = .ok (.invokestatic 80, 3) := by decide +kernel
theorem dX4_odds_27 : decode cX4_odds 27 = .ok (.ifCond .ne 7, 3) := by decide +kernel
theorem dX4_odds_30 : decode cX4_odds 30 = .ok (.invokestatic 70, 3) := by decide +kernel
theorem dX4_odds_33 : decode cX4_odds 33 = .ok (.lreturn, 1) := by decide +kernel
theorem dX4_odds_34 : decode cX4_odds 34 = .ok (.aload_n 0, 1) := by decide +kernel
theorem dX4_odds_35 : decode cX4_odds 35 = .ok (.invokevirtual 182, 3) := by decide +kernel
theorem dX4_odds_38 : decode cX4_odds 38 = .ok (.istore 4, 2) := by decide +kernel
theorem dX4_odds_40 : decode cX4_odds 40 = .ok (.lconst 0, 1) := by decide +kernel
theorem dX4_odds_41 : decode cX4_odds 41 = .ok (.lstore 5, 2) := by decide +kernel
theorem dX4_odds_43 : decode cX4_odds 43 = .ok (.iconst 0, 1) := by decide +kernel
theorem dX4_odds_44 : decode cX4_odds 44 = .ok (.istore 7, 2) := by decide +kernel
theorem dX4_odds_46 : decode cX4_odds 46 = .ok (.iload 7, 2) := by decide +kernel
theorem dX4_odds_48 : decode cX4_odds 48 = .ok (.aload_n 0, 1) := by decide +kernel
theorem dX4_odds_49 : decode cX4_odds 49 = .ok (.invokevirtual 205, 3) := by decide +kernel
theorem dX4_odds_52 : decode cX4_odds 52 = .ok (.if_icmp .ge 34, 3) := by decide +kernel
theorem dX4_odds_55 : decode cX4_odds 55 = .ok (.aload_n 0, 1) := by decide +kernel
theorem dX4_odds_56 : decode cX4_odds 56 = .ok (.iload 7, 2) := by decide +kernel
theorem dX4_odds_58 : decode cX4_odds 58 = .ok (.invokevirtual 185, 3) := by decide +kernel
theorem dX4_odds_61 : decode cX4_odds 61 = .ok (.lload 5, 2) := by decide +kernel
theorem dX4_odds_63 : decode cX4_odds 63 = .ok (.aload_n 0, 1) := by decide +kernel
theorem dX4_odds_64 : decode cX4_odds 64 = .ok (.iload_n 1, 1) := by decide +kernel
theorem dX4_odds_65 : decode cX4_odds 65 = .ok (.invokevirtual 172, 3) := by decide +kernel
theorem dX4_odds_68 : decode cX4_odds 68 = .ok (.iload_n 2, 1) := by decide +kernel
theorem dX4_odds_69 : decode cX4_odds 69 = .ok (.if_icmp .lt 7, 3) := by decide +kernel
theorem dX4_odds_72 : decode cX4_odds 72 = .ok (.lconst 1, 1) := by decide +kernel
theorem dX4_odds_73 : decode cX4_odds 73 = .ok (.goto 4, 3) := by decide +kernel
theorem dX4_odds_76 : decode cX4_odds 76 = .ok (.lconst 0, 1) := by decide +kernel
theorem dX4_odds_77 : decode cX4_odds 77 = .ok (.ladd, 1) := by decide +kernel
theorem dX4_odds_78 : decode cX4_odds 78 = .ok (.lstore 5, 2) := by decide +kernel
theorem dX4_odds_80 : decode cX4_odds 80 = .ok (.iinc 7 1, 3) := by decide +kernel
theorem dX4_odds_83 : decode cX4_odds 83 = .ok (.goto (-37), 3) := by decide +kernel
theorem dX4_odds_86 : decode cX4_odds 86 = .ok (.aload_n 0, 1) := by decide +kernel
theorem dX4_odds_87 : decode cX4_odds 87 = .ok (.iload 4, 2) := by decide +kernel
theorem dX4_odds_89 : decode cX4_odds 89 = .ok (.invokevirtual 185, 3) := by decide +kernel
theorem dX4_odds_92 : decode cX4_odds 92 = .ok (.lload 5, 2) := by decide +kernel
theorem dX4_odds_94 : decode cX4_odds 94 = .ok (.aload_n 0, 1) := by decide +kernel
theorem dX4_odds_95 : decode cX4_odds 95 = .ok (.invokevirtual 205, 3) := by decide +kernel
theorem dX4_odds_98 : decode cX4_odds 98 = .ok (.i2l, 1) := by decide +kernel
theorem dX4_odds_99 : decode cX4_odds 99 = .ok (.iload_n 3, 1) := by decide +kernel
theorem dX4_odds_100 : decode cX4_odds 100 = .ok (.invokestatic 227, 3) := by decide +kernel
theorem dX4_odds_103 : decode cX4_odds 103 = .ok (.lreturn, 1) := by decide +kernel
set_option maxRecDepth 20000 in
theorem ggX4_noSheet_X4_in : GoodIn wsX4_noSheet wsX4_in := goodIn_r _ [5] (by decide +kernel) (by decide +kernel)
set_option maxRecDepth 20000 in
theorem gX4_noSheet_X4_in : GoodIn wsX4_noSheet (va_wsS RX4 80 yX4_in wsX4_in) := goodIn_app (goodIn_of _ (by decide +kernel)) ggX4_noSheet_X4_in
theorem dX4_noSheet_0 : decode cX4_noSheet 0 = .ok (.iload_n 0, 1) := by decide +kernel
theorem dX4_noSheet_1 : decode cX4_noSheet 1 = .ok (.i2l, 1) := by decide +kernel
theorem dX4_noSheet_2 : decode cX4_noSheet 2 = .ok (.lconst 0, 1) := by decide +kernel
theorem dX4_noSheet_3 : decode cX4_noSheet 3 = .ok (.ldc2_w 164, 3) := by decide +kernel
theorem dX4_noSheet_6 : decode cX4_noSheet 6 = .ok (.invokestatic 80, 3) := by decide +kernel
theorem dX4_noSheet_9 : decode cX4_noSheet 9 = .ok (.ifCond .ne 7, 3) := by decide +kernel
theorem dX4_noSheet_12 : decode cX4_noSheet 12 = .ok (.iconst 1, 1) := by decide +kernel
theorem dX4_noSheet_13 : decode cX4_noSheet 13 = .ok (.goto 4, 3) := by decide +kernel
theorem dX4_noSheet_16 : decode cX4_noSheet 16 = .ok (.iconst 0, 1) := by decide +kernel
theorem dX4_noSheet_17 : decode cX4_noSheet 17 = .ok (.ireturn, 1) := by decide +kernel
set_option maxRecDepth 20000 in
theorem ggX4_sheet_X4_noSheet : GoodIn wsX4_sheet wsX4_noSheet := goodIn_r _ [8, 9, 10, 11, 7, 12] (by decide +kernel) (by decide +kernel)
set_option maxRecDepth 20000 in
theorem gX4_sheet_X4_noSheet : GoodIn wsX4_sheet (va_wsS RX4 132 yX4_noSheet wsX4_noSheet) := goodIn_app (goodIn_of _ (by decide +kernel)) ggX4_sheet_X4_noSheet
set_option maxRecDepth 20000 in
theorem ggX4_sheet_X4_refused : GoodIn wsX4_sheet wsX4_refused := goodIn_r _ [16, 17, 22, 23, 24, 25, 26, 27, 28, 29, 30, 31, 32, 33, 34, 35, 36, 37, 38, 39, 40, 41, 42, 43, 44, 45, 46, 47, 48, 49, 50, 51, 52, 53] (by decide +kernel) (by decide +kernel)
set_option maxRecDepth 20000 in
theorem gX4_sheet_X4_refused : GoodIn wsX4_sheet (wsV RX4 136 RX4 yX4_refused wsX4_refused) := goodIn_app (goodIn_of _ (by decide +kernel)) ggX4_sheet_X4_refused
set_option maxRecDepth 20000 in
theorem ggX4_sheet_X4_in : GoodIn wsX4_sheet wsX4_in := goodIn_r _ [12] (by decide +kernel) (by decide +kernel)
set_option maxRecDepth 20000 in
theorem gX4_sheet_X4_in : GoodIn wsX4_sheet (va_wsS RX4 80 yX4_in wsX4_in) := goodIn_app (goodIn_of _ (by decide +kernel)) ggX4_sheet_X4_in
set_option maxRecDepth 20000 in
theorem ggX4_sheet_X4_failed : GoodIn wsX4_sheet wsX4_failed := goodIn_r _ [21, 17, 22, 23, 24, 25, 26, 27, 28, 29, 30, 31, 32, 33, 34, 35, 36, 37, 38, 39, 40, 41, 42, 43, 44, 45, 46, 47, 48, 49, 50, 51, 52, 53] (by decide +kernel) (by decide +kernel)
set_option maxRecDepth 20000 in
theorem gX4_sheet_X4_failed : GoodIn wsX4_sheet (wsV RX4 124 RX4 yX4_failed wsX4_failed) := goodIn_app (goodIn_of _ (by decide +kernel)) ggX4_sheet_X4_failed
theorem dX4_sheet_0 : decode cX4_sheet 0 = .ok (.iload_n 1, 1) := by decide +kernel
theorem dX4_sheet_1 : decode cX4_sheet 1 = .ok (.invokestatic 132, 3) := by decide +kernel
theorem dX4_sheet_4 : decode cX4_sheet 4 = .ok (.ifCond .eq 9, 3) := by decide +kernel
theorem dX4_sheet_7 : decode cX4_sheet 7 = .ok (.aload_n 0, 1) := by decide +kernel
theorem dX4_sheet_8 : decode cX4_sheet 8 = .ok (.iconst (-1), 1) := by decide +kernel
theorem dX4_sheet_9 : decode cX4_sheet 9 = .ok (.invokevirtual 136, 3) := by decide +kernel
theorem dX4_sheet_12 : decode cX4_sheet 12 = .ok (.ireturn, 1) := by decide +kernel
theorem dX4_sheet_13 : decode cX4_sheet 13 = .ok (.iload_n 2, 1) := by decide +kernel
theorem dX4_sheet_14 : decode cX4_sheet 14 = .ok (.i2l, 1) := by decide +kernel
theorem dX4_sheet_15 : decode cX4_sheet 15 = .ok (.lconst 0, 1) := by decide +kernel
theorem dX4_sheet_16 : decode cX4_sheet 16 = .ok (.ldc2_w 139, 3) := by decide +kernel
theorem dX4_sheet_19 : decode cX4_sheet 19 = .ok (.invokestatic 80, 3) := by decide +kernel
theorem dX4_sheet_22 : decode cX4_sheet 22 = .ok (.ifCond .eq 9, 3) := by decide +kernel
theorem dX4_sheet_25 : decode cX4_sheet 25 = .ok (.iload_n 3, 1) := by decide +kernel
theorem dX4_sheet_26 : decode cX4_sheet 26 = .ok (.bipush 60, 2) := by decide +kernel
theorem dX4_sheet_28 : decode cX4_sheet 28 = .ok (.if_icmp .le 10, 3) := by decide +kernel
theorem dX4_sheet_31 : decode cX4_sheet 31 = .ok (.aload_n 0, 1) := by decide +kernel
theorem dX4_sheet_32 : decode cX4_sheet 32 = .ok (.bipush (-2), 2) := by decide +kernel
theorem dX4_sheet_34 : decode cX4_sheet 34 = .ok (.invokevirtual 136, 3) := by decide +kernel
theorem dX4_sheet_37 : decode cX4_sheet 37 = .ok (.ireturn, 1) := by decide +kernel
theorem dX4_sheet_38 : decode cX4_sheet 38 = .ok (.iload_n 3, 1) := by decide +kernel
theorem dX4_sheet_39 : decode cX4_sheet 39 = .ok (.ifCond .ge 9, 3) := by decide +kernel
theorem dX4_sheet_42 : decode cX4_sheet 42 = .ok (.aload_n 0, 1) := by decide +kernel
theorem dX4_sheet_43 : decode cX4_sheet 43 = .ok (.iconst 4, 1) := by decide +kernel
theorem dX4_sheet_44 : decode cX4_sheet 44 = .ok (.invokevirtual 124, 3) := by decide +kernel
theorem dX4_sheet_47 : decode cX4_sheet 47 = .ok (.ireturn, 1) := by decide +kernel
theorem dX4_sheet_48 : decode cX4_sheet 48 = .ok (.aload_n 0, 1) := by decide +kernel
theorem dX4_sheet_49 : decode cX4_sheet 49 = .ok (.getfield 52, 3) := by decide +kernel
theorem dX4_sheet_52 : decode cX4_sheet 52 = .ok (.iload_n 1, 1) := by decide +kernel
theorem dX4_sheet_53 : decode cX4_sheet 53 = .ok (.iload_n 3, 1) := by decide +kernel
theorem dX4_sheet_54 : decode cX4_sheet 54 = .ok (.iastore, 1) := by decide +kernel
theorem dX4_sheet_55 : decode cX4_sheet 55 = .ok (.aload_n 0, 1) := by decide +kernel
theorem dX4_sheet_56 : decode cX4_sheet 56 = .ok (.getfield 55, 3) := by decide +kernel
theorem dX4_sheet_59 : decode cX4_sheet 59 = .ok (.iload_n 1, 1) := by decide +kernel
theorem dX4_sheet_60 : decode cX4_sheet 60 = .ok (.iload_n 2, 1) := by decide +kernel
theorem dX4_sheet_61 : decode cX4_sheet 61 = .ok (.iastore, 1) := by decide +kernel
theorem dX4_sheet_62 : decode cX4_sheet 62 = .ok (.iconst 0, 1) := by decide +kernel
theorem dX4_sheet_63 : decode cX4_sheet 63 = .ok (.istore 4, 2) := by decide +kernel
theorem dX4_sheet_65 : decode cX4_sheet 65 = .ok (.iload 4, 2) := by decide +kernel
theorem dX4_sheet_67 : decode cX4_sheet 67 = .ok (.iload_n 3, 1) := by decide +kernel
theorem dX4_sheet_68 : decode cX4_sheet 68 = .ok (.if_icmp .ge 22, 3) := by decide +kernel
theorem dX4_sheet_71 : decode cX4_sheet 71 = .ok (.aload_n 0, 1) := by decide +kernel
theorem dX4_sheet_72 : decode cX4_sheet 72 = .ok (.getfield 58, 3) := by decide +kernel
theorem dX4_sheet_75 : decode cX4_sheet 75 = .ok (.bipush 60, 2) := by decide +kernel
theorem dX4_sheet_77 : decode cX4_sheet 77 = .ok (.iload_n 1, 1) := by decide +kernel
theorem dX4_sheet_78 : decode cX4_sheet 78 = .ok (.imul, 1) := by decide +kernel
theorem dX4_sheet_79 : decode cX4_sheet 79 = .ok (.iload 4, 2) := by decide +kernel
theorem dX4_sheet_81 : decode cX4_sheet 81 = .ok (.iadd, 1) := by decide +kernel
theorem dX4_sheet_82 : decode cX4_sheet 82 = .ok (.iconst 0, 1) := by decide +kernel
theorem dX4_sheet_83 : decode cX4_sheet 83 = .ok (.iastore, 1) := by decide +kernel
theorem dX4_sheet_84 : decode cX4_sheet 84 = .ok (.iinc 4 1, 3) := by decide +kernel
theorem dX4_sheet_87 : decode cX4_sheet 87 = .ok (.goto (-22), 3) := by decide +kernel
theorem dX4_sheet_90 : decode cX4_sheet 90 = .ok (.aload_n 0, 1) := by decide +kernel
theorem dX4_sheet_91 : decode cX4_sheet 91 = .ok (.iconst 1, 1) := by decide +kernel
theorem dX4_sheet_92 : decode cX4_sheet 92 = .ok (.invokevirtual 136, 3) := by decide +kernel
theorem dX4_sheet_95 : decode cX4_sheet 95 = .ok (.ireturn, 1) := by decide +kernel
set_option maxRecDepth 20000 in
theorem ggX4_lose_X4_noSheet : GoodIn wsX4_lose wsX4_noSheet := goodIn_r _ [5, 6, 7, 8, 4, 9] (by decide +kernel) (by decide +kernel)
set_option maxRecDepth 20000 in
theorem gX4_lose_X4_noSheet : GoodIn wsX4_lose (va_wsS RX4 132 yX4_noSheet wsX4_noSheet) := goodIn_app (goodIn_of _ (by decide +kernel)) ggX4_lose_X4_noSheet
theorem dX4_lose_0 : decode cX4_lose 0 = .ok (.iload_n 1, 1) := by decide +kernel
theorem dX4_lose_1 : decode cX4_lose 1 = .ok (.invokestatic 132, 3) := by decide +kernel
theorem dX4_lose_4 : decode cX4_lose 4 = .ok (.ifCond .eq 5, 3) := by decide +kernel
theorem dX4_lose_7 : decode cX4_lose 7 = .ok (.iconst (-1), 1) := by decide +kernel
theorem dX4_lose_8 : decode cX4_lose 8 = .ok (.ireturn, 1) := by decide +kernel
theorem dX4_lose_9 : decode cX4_lose 9 = .ok (.aload_n 0, 1) := by decide +kernel
theorem dX4_lose_10 : decode cX4_lose 10 = .ok (.getfield 52, 3) := by decide +kernel
theorem dX4_lose_13 : decode cX4_lose 13 = .ok (.iload_n 1, 1) := by decide +kernel
theorem dX4_lose_14 : decode cX4_lose 14 = .ok (.iaload, 1) := by decide +kernel
theorem dX4_lose_15 : decode cX4_lose 15 = .ok (.ifCond .ge 7, 3) := by decide +kernel
theorem dX4_lose_18 : decode cX4_lose 18 = .ok (.iconst 0, 1) := by decide +kernel
theorem dX4_lose_19 : decode cX4_lose 19 = .ok (.goto 4, 3) := by decide +kernel
theorem dX4_lose_22 : decode cX4_lose 22 = .ok (.iconst 1, 1) := by decide +kernel
theorem dX4_lose_23 : decode cX4_lose 23 = .ok (.istore_n 2, 1) := by decide +kernel
theorem dX4_lose_24 : decode cX4_lose 24 = .ok (.aload_n 0, 1) := by decide +kernel
theorem dX4_lose_25 : decode cX4_lose 25 = .ok (.getfield 52, 3) := by decide +kernel
theorem dX4_lose_28 : decode cX4_lose 28 = .ok (.iload_n 1, 1) := by decide +kernel
theorem dX4_lose_29 : decode cX4_lose 29 = .ok (.iconst (-1), 1) := by decide +kernel
theorem dX4_lose_30 : decode cX4_lose 30 = .ok (.iastore, 1) := by decide +kernel
theorem dX4_lose_31 : decode cX4_lose 31 = .ok (.iload_n 2, 1) := by decide +kernel
theorem dX4_lose_32 : decode cX4_lose 32 = .ok (.ireturn, 1) := by decide +kernel
set_option maxRecDepth 20000 in
theorem ggX4_noCell_X4_in : GoodIn wsX4_noCell wsX4_in := goodIn_r _ [5] (by decide +kernel) (by decide +kernel)
set_option maxRecDepth 20000 in
theorem gX4_noCell_X4_in : GoodIn wsX4_noCell (va_wsS RX4 80 yX4_in wsX4_in) := goodIn_app (goodIn_of _ (by decide +kernel)) ggX4_noCell_X4_in
theorem dX4_noCell_0 : decode cX4_noCell 0 = .ok (.aload_n 0, 1) := by decide +kernel
theorem dX4_noCell_1 : decode cX4_noCell 1 = .ok (.getfield 52, 3) := by decide +kernel
theorem dX4_noCell_4 : decode cX4_noCell 4 = .ok (.iload_n 1, 1) := by decide +kernel
theorem dX4_noCell_5 : decode cX4_noCell 5 = .ok (.iaload, 1) := by decide +kernel
theorem dX4_noCell_6 : decode cX4_noCell 6 = .ok (.ifCond .ge 7, 3) := by decide +kernel
theorem dX4_noCell_9 : decode cX4_noCell 9 = .ok (.iconst 1, 1) := by decide +kernel
theorem dX4_noCell_10 : decode cX4_noCell 10 = .ok (.goto 26, 3) := by decide +kernel
theorem dX4_noCell_13 : decode cX4_noCell 13 = .ok (.iload_n 2, 1) := by decide +kernel
theorem dX4_noCell_14 : decode cX4_noCell 14 = .ok (.i2l, 1) := by decide +kernel
theorem dX4_noCell_15 : decode cX4_noCell 15 = .ok (.lconst 0, 1) := by decide +kernel
theorem dX4_noCell_16 : decode cX4_noCell 16 = .ok (.aload_n 0, 1) := by decide +kernel
theorem dX4_noCell_17 : decode cX4_noCell 17 = .ok (.getfield 52, 3) := by decide +kernel
theorem dX4_noCell_20 : decode cX4_noCell 20 = .ok (.iload_n 1, 1) := by decide +kernel
theorem dX4_noCell_21 : decode cX4_noCell 21 = .ok (.iaload, 1) := by decide +kernel
theorem dX4_noCell_22 : decode cX4_noCell 22 = .ok (.i2l, 1) := by decide +kernel
theorem dX4_noCell_23 : decode cX4_noCell 23 = .ok (.lconst 1, 1) := by decide +kernel
theorem dX4_noCell_24 : decode cX4_noCell 24 = .ok (.lsub, 1) := by decide +kernel
theorem dX4_noCell_25 : decode cX4_noCell 25 = .ok (.invokestatic 80, 3) := by decide +kernel
theorem dX4_noCell_28 : decode cX4_noCell 28 = .ok (.ifCond .eq 7, 3) := by decide +kernel
theorem dX4_noCell_31 : decode cX4_noCell 31 = .ok (.iconst 0, 1) := by decide +kernel
theorem dX4_noCell_32 : decode cX4_noCell 32 = .ok (.goto 4, 3) := by decide +kernel
theorem dX4_noCell_35 : decode cX4_noCell 35 = .ok (.iconst 3, 1) := by decide +kernel
theorem dX4_noCell_36 : decode cX4_noCell 36 = .ok (.ireturn, 1) := by decide +kernel
set_option maxRecDepth 20000 in
theorem ggX4_put_X4_noSheet : GoodIn wsX4_put wsX4_noSheet := goodIn_r _ [6, 7, 8, 9, 5, 10] (by decide +kernel) (by decide +kernel)
set_option maxRecDepth 20000 in
theorem gX4_put_X4_noSheet : GoodIn wsX4_put (va_wsS RX4 132 yX4_noSheet wsX4_noSheet) := goodIn_app (goodIn_of _ (by decide +kernel)) ggX4_put_X4_noSheet
set_option maxRecDepth 20000 in
theorem ggX4_put_X4_refused : GoodIn wsX4_put wsX4_refused := goodIn_r _ [14, 15, 25, 26, 27, 28, 29, 30, 31, 32, 33, 34, 35, 36, 37, 38, 39, 40, 41, 42, 43, 44, 45, 46, 47, 48, 49, 50, 51, 52, 53, 54, 55, 56] (by decide +kernel) (by decide +kernel)
set_option maxRecDepth 20000 in
theorem gX4_put_X4_refused : GoodIn wsX4_put (wsV RX4 136 RX4 yX4_refused wsX4_refused) := goodIn_app (goodIn_of _ (by decide +kernel)) ggX4_put_X4_refused
set_option maxRecDepth 20000 in
theorem ggX4_put_X4_noCell : GoodIn wsX4_put wsX4_noCell := goodIn_r _ [19, 20, 8, 9, 5, 10, 25, 26, 27, 28, 29, 30, 31, 32, 33, 34, 35, 36, 37, 38, 39, 40, 41, 42, 43, 44, 45, 46, 47, 48, 49, 50, 51, 52, 53, 54, 55, 56] (by decide +kernel) (by decide +kernel)
set_option maxRecDepth 20000 in
theorem gX4_put_X4_noCell : GoodIn wsX4_put (wsV RX4 231 RX4 yX4_noCell wsX4_noCell) := goodIn_app (goodIn_of _ (by decide +kernel)) ggX4_put_X4_noCell
set_option maxRecDepth 20000 in
theorem ggX4_put_X4_failed : GoodIn wsX4_put wsX4_failed := goodIn_r _ [24, 15, 25, 26, 27, 28, 29, 30, 31, 32, 33, 34, 35, 36, 37, 38, 39, 40, 41, 42, 43, 44, 45, 46, 47, 48, 49, 50, 51, 52, 53, 54, 55, 56] (by decide +kernel) (by decide +kernel)
set_option maxRecDepth 20000 in
theorem gX4_put_X4_failed : GoodIn wsX4_put (wsV RX4 124 RX4 yX4_failed wsX4_failed) := goodIn_app (goodIn_of _ (by decide +kernel)) ggX4_put_X4_failed
theorem dX4_put_0 : decode cX4_put 0 = .ok (.iload_n 1, 1) := by decide +kernel
theorem dX4_put_1 : decode cX4_put 1 = .ok (.invokestatic 132, 3) := by decide +kernel
theorem dX4_put_4 : decode cX4_put 4 = .ok (.ifCond .eq 9, 3) := by decide +kernel
theorem dX4_put_7 : decode cX4_put 7 = .ok (.aload_n 0, 1) := by decide +kernel
theorem dX4_put_8 : decode cX4_put 8 = .ok (.iconst (-1), 1) := by decide +kernel
theorem dX4_put_9 : decode cX4_put 9 = .ok (.invokevirtual 136, 3) := by decide +kernel
theorem dX4_put_12 : decode cX4_put 12 = .ok (.ireturn, 1) := by decide +kernel
theorem dX4_put_13 : decode cX4_put 13 = .ok (.aload_n 0, 1) := by decide +kernel
theorem dX4_put_14 : decode cX4_put 14 = .ok (.iload_n 1, 1) := by decide +kernel
theorem dX4_put_15 : decode cX4_put 15 = .ok (.iload_n 2, 1) := by decide +kernel
theorem dX4_put_16 : decode cX4_put 16 = .ok (.invokevirtual 231, 3) := by decide +kernel
theorem dX4_put_19 : decode cX4_put 19 = .ok (.ifCond .le 14, 3) := by decide +kernel
theorem dX4_put_22 : decode cX4_put 22 = .ok (.aload_n 0, 1) := by decide +kernel
theorem dX4_put_23 : decode cX4_put 23 = .ok (.aload_n 0, 1) := by decide +kernel
theorem dX4_put_24 : decode cX4_put 24 = .ok (.iload_n 1, 1) := by decide +kernel
theorem dX4_put_25 : decode cX4_put 25 = .ok (.iload_n 2, 1) := by decide +kernel
theorem dX4_put_26 : decode cX4_put 26 = .ok (.invokevirtual 231, 3) := by decide +kernel
theorem dX4_put_29 : decode cX4_put 29 = .ok (.invokevirtual 124, 3) := by decide +kernel
theorem dX4_put_32 : decode cX4_put 32 = .ok (.ireturn, 1) := by decide +kernel
theorem dX4_put_33 : decode cX4_put 33 = .ok (.aload_n 0, 1) := by decide +kernel
theorem dX4_put_34 : decode cX4_put 34 = .ok (.getfield 58, 3) := by decide +kernel
theorem dX4_put_37 : decode cX4_put 37 = .ok (.bipush 60, 2) := by decide +kernel
theorem dX4_put_39 : decode cX4_put 39 = .ok (.iload_n 1, 1) := by decide +kernel
theorem dX4_put_40 : decode cX4_put 40 = .ok (.imul, 1) := by decide +kernel
theorem dX4_put_41 : decode cX4_put 41 = .ok (.iload_n 2, 1) := by decide +kernel
theorem dX4_put_42 : decode cX4_put 42 = .ok (.iadd, 1) := by decide +kernel
theorem dX4_put_43 : decode cX4_put 43 = .ok (.aload_n 0, 1) := by decide +kernel
theorem dX4_put_44 : decode cX4_put 44 = .ok (.getfield 55, 3) := by decide +kernel
theorem dX4_put_47 : decode cX4_put 47 = .ok (.iload_n 1, 1) := by decide +kernel
theorem dX4_put_48 : decode cX4_put 48 = .ok (.iaload, 1) := by decide +kernel
theorem dX4_put_49 : decode cX4_put 49 = .ok (.ifCond .ne 8, 3) := by decide +kernel
theorem dX4_put_52 : decode cX4_put 52 = .ok (.iload_n 3, 1) := by decide +kernel
theorem dX4_put_53 : decode cX4_put 53 = .ok (.i2b, 1) := by decide +kernel
theorem dX4_put_54 : decode cX4_put 54 = .ok (.goto 19, 3) := by decide +kernel
theorem dX4_put_57 : decode cX4_put 57 = .ok (.aload_n 0, 1) := by decide +kernel
theorem dX4_put_58 : decode cX4_put 58 = .ok (.getfield 55, 3) := by decide +kernel
theorem dX4_put_61 : decode cX4_put 61 = .ok (.iload_n 1, 1) := by decide +kernel
theorem dX4_put_62 : decode cX4_put 62 = .ok (.iaload, 1) := by decide +kernel
theorem dX4_put_63 : decode cX4_put 63 = .ok (.iconst 1, 1) := by decide +kernel
theorem dX4_put_64 : decode cX4_put 64 = .ok (.if_icmp .ne 8, 3) := by decide +kernel
theorem dX4_put_67 : decode cX4_put 67 = .ok (.iload_n 3, 1) := by decide +kernel
theorem dX4_put_68 : decode cX4_put 68 = .ok (.i2s, 1) := by decide +kernel
theorem dX4_put_69 : decode cX4_put 69 = .ok (.goto 4, 3) := by decide +kernel
theorem dX4_put_72 : decode cX4_put 72 = .ok (.iload_n 3, 1) := by decide +kernel
theorem dX4_put_73 : decode cX4_put 73 = .ok (.iastore, 1) := by decide +kernel
theorem dX4_put_74 : decode cX4_put 74 = .ok (.aload_n 0, 1) := by decide +kernel
theorem dX4_put_75 : decode cX4_put 75 = .ok (.iconst 1, 1) := by decide +kernel
theorem dX4_put_76 : decode cX4_put 76 = .ok (.invokevirtual 136, 3) := by decide +kernel
theorem dX4_put_79 : decode cX4_put 79 = .ok (.ireturn, 1) := by decide +kernel
set_option maxRecDepth 20000 in
theorem ggX4_cell_X4_noSheet : GoodIn wsX4_cell wsX4_noSheet := goodIn_r _ [9, 10, 11, 12, 8, 13] (by decide +kernel) (by decide +kernel)
set_option maxRecDepth 20000 in
theorem gX4_cell_X4_noSheet : GoodIn wsX4_cell (va_wsS RX4 132 yX4_noSheet wsX4_noSheet) := goodIn_app (goodIn_of _ (by decide +kernel)) ggX4_cell_X4_noSheet
set_option maxRecDepth 20000 in
theorem ggX4_cell_X4_in : GoodIn wsX4_cell wsX4_in := goodIn_r _ [13] (by decide +kernel) (by decide +kernel)
set_option maxRecDepth 20000 in
theorem gX4_cell_X4_in : GoodIn wsX4_cell (va_wsS RX4 80 yX4_in wsX4_in) := goodIn_app (goodIn_of _ (by decide +kernel)) ggX4_cell_X4_in
set_option maxRecDepth 20000 in
theorem ggX4_cell_X4_lost : GoodIn wsX4_cell wsX4_lost := goodIn_r _ [16, 17] (by decide +kernel) (by decide +kernel)
set_option maxRecDepth 20000 in
theorem gX4_cell_X4_lost : GoodIn wsX4_cell (va_wsS RX4 70 yX4_lost wsX4_lost) := goodIn_app (goodIn_of _ (by decide +kernel)) ggX4_cell_X4_lost
set_option maxRecDepth 20000 in
theorem ggX4_cell_X4_failedLong : GoodIn wsX4_cell wsX4_failedLong := goodIn_r _ [21, 1, 14, 15, 8, 16, 17, 26, 27, 28, 29, 30, 31, 32, 33, 34, 35, 36, 37, 38, 39, 40, 41, 42, 43, 44, 45, 46, 47, 48, 49, 50, 51, 52, 53, 54, 55, 56, 57] (by decide +kernel) (by decide +kernel)
set_option maxRecDepth 20000 in
theorem gX4_cell_X4_failedLong : GoodIn wsX4_cell (wsV RX4 234 RX4 yX4_failedLong wsX4_failedLong) := goodIn_app (goodIn_of _ (by decide +kernel)) ggX4_cell_X4_failedLong
set_option maxRecDepth 20000 in
theorem ggX4_cell_X4_noCell : GoodIn wsX4_cell wsX4_noCell := goodIn_r _ [25, 3, 11, 12, 8, 13, 26, 27, 28, 29, 30, 31, 32, 33, 34, 35, 36, 37, 38, 39, 40, 41, 42, 43, 44, 45, 46, 47, 48, 49, 50, 51, 52, 53, 54, 55, 56, 57] (by decide +kernel) (by decide +kernel)
set_option maxRecDepth 20000 in
theorem gX4_cell_X4_noCell : GoodIn wsX4_cell (wsV RX4 231 RX4 yX4_noCell wsX4_noCell) := goodIn_app (goodIn_of _ (by decide +kernel)) ggX4_cell_X4_noCell
theorem dX4_cell_0 : decode cX4_cell 0 = .ok (.aload_n 0, 1) := by decide +kernel
theorem dX4_cell_1 : decode cX4_cell 1 = .ok (.iconst 0, 1) := by decide +kernel
theorem dX4_cell_2 : decode cX4_cell 2 = .ok (.putfield 66, 3) := by decide +kernel
theorem dX4_cell_5 : decode cX4_cell 5 = .ok (.iload_n 1, 1) := by decide +kernel
theorem dX4_cell_6 : decode cX4_cell 6 = .ok (.invokestatic 132, 3) := by decide +kernel
theorem dX4_cell_9 : decode cX4_cell 9 = .ok (.ifCond .ne 15, 3) := by decide +kernel
theorem dX4_cell_12 : decode cX4_cell 12 = .ok (.iload_n 3, 1) := by decide +kernel
theorem dX4_cell_13 : decode cX4_cell 13 = .ok (.i2l, 1) := by decide +kernel
theorem dX4_cell_14 : decode cX4_cell 14 = .ok (.lconst 0, 1) := by decide +kernel
theorem dX4_cell_15 : decode cX4_cell 15 = .ok (.ldc2_w 139, 3) := by decide +kernel
theorem dX4_cell_18 : decode cX4_cell 18 = .ok (.invokestatic 80, 3) := by decide +kernel
theorem dX4_cell_21 : decode cX4_cell 21 = .ok (.ifCond .ne 7, 3) := by decide +kernel
theorem dX4_cell_24 : decode cX4_cell 24 = .ok (.invokestatic 70, 3) := by decide +kernel
theorem dX4_cell_27 : decode cX4_cell 27 = .ok (.lreturn, 1) := by decide +kernel
theorem dX4_cell_28 : decode cX4_cell 28 = .ok (.aload_n 0, 1) := by decide +kernel
theorem dX4_cell_29 : decode cX4_cell 29 = .ok (.getfield 52, 3) := by decide +kernel
theorem dX4_cell_32 : decode cX4_cell 32 = .ok (.iload_n 1, 1) := by decide +kernel
theorem dX4_cell_33 : decode cX4_cell 33 = .ok (.iaload, 1) := by decide +kernel
theorem dX4_cell_34 : decode cX4_cell 34 = .ok (.ifCond .lt 19, 3) := by decide +kernel
theorem dX4_cell_37 : decode cX4_cell 37 = .ok (.aload_n 0, 1) := by decide +kernel
theorem dX4_cell_38 : decode cX4_cell 38 = .ok (.getfield 55, 3) := by decide +kernel
theorem dX4_cell_41 : decode cX4_cell 41 = .ok (.iload_n 1, 1) := by decide +kernel
theorem dX4_cell_42 : decode cX4_cell 42 = .ok (.iaload, 1) := by decide +kernel
theorem dX4_cell_43 : decode cX4_cell 43 = .ok (.iload_n 3, 1) := by decide +kernel
theorem dX4_cell_44 : decode cX4_cell 44 = .ok (.if_icmp .eq 9, 3) := by decide +kernel
theorem dX4_cell_47 : decode cX4_cell 47 = .ok (.aload_n 0, 1) := by decide +kernel
theorem dX4_cell_48 : decode cX4_cell 48 = .ok (.iconst 2, 1) := by decide +kernel
theorem dX4_cell_49 : decode cX4_cell 49 = .ok (.invokevirtual 234, 3) := by decide +kernel
theorem dX4_cell_52 : decode cX4_cell 52 = .ok (.lreturn, 1) := by decide +kernel
theorem dX4_cell_53 : decode cX4_cell 53 = .ok (.aload_n 0, 1) := by decide +kernel
theorem dX4_cell_54 : decode cX4_cell 54 = .ok (.iload_n 1, 1) := by decide +kernel
theorem dX4_cell_55 : decode cX4_cell 55 = .ok (.iload_n 2, 1) := by decide +kernel
theorem dX4_cell_56 : decode cX4_cell 56 = .ok (.invokevirtual 231, 3) := by decide +kernel
theorem dX4_cell_59 : decode cX4_cell 59 = .ok (.ifCond .le 16, 3) := by decide +kernel
theorem dX4_cell_62 : decode cX4_cell 62 = .ok (.aload_n 0, 1) := by decide +kernel
theorem dX4_cell_63 : decode cX4_cell 63 = .ok (.aload_n 0, 1) := by decide +kernel
theorem dX4_cell_64 : decode cX4_cell 64 = .ok (.iload_n 1, 1) := by decide +kernel
theorem dX4_cell_65 : decode cX4_cell 65 = .ok (.iload_n 2, 1) := by decide +kernel
theorem dX4_cell_66 : decode cX4_cell 66 = .ok (.invokevirtual 231, 3) := by decide +kernel
theorem dX4_cell_69 : decode cX4_cell 69 = .ok (.invokevirtual 234, 3) := by decide +kernel
theorem dX4_cell_72 : decode cX4_cell 72 = .ok (.goto 15, 3) := by decide +kernel
theorem dX4_cell_75 : decode cX4_cell 75 = .ok (.aload_n 0, 1) := by decide +kernel
theorem dX4_cell_76 : decode cX4_cell 76 = .ok (.getfield 58, 3) := by decide +kernel
theorem dX4_cell_79 : decode cX4_cell 79 = .ok (.bipush 60, 2) := by decide +kernel
theorem dX4_cell_81 : decode cX4_cell 81 = .ok (.iload_n 1, 1) := by decide +kernel
theorem dX4_cell_82 : decode cX4_cell 82 = .ok (.imul, 1) := by decide +kernel
theorem dX4_cell_83 : decode cX4_cell 83 = .ok (.iload_n 2, 1) := by decide +kernel
theorem dX4_cell_84 : decode cX4_cell 84 = .ok (.iadd, 1) := by decide +kernel
theorem dX4_cell_85 : decode cX4_cell 85 = .ok (.iaload, 1) := by decide +kernel
theorem dX4_cell_86 : decode cX4_cell 86 = .ok (.i2l, 1) := by decide +kernel
theorem dX4_cell_87 : decode cX4_cell 87 = .ok (.lreturn, 1) := by decide +kernel
theorem dX4_isBeyond_0 : decode cX4_isBeyond 0 = .ok (.iload_n 0, 1) := by decide +kernel
theorem dX4_isBeyond_1 : decode cX4_isBeyond 1 = .ok (.ifCond .lt 19, 3) := by decide +kernel
theorem dX4_isBeyond_4 : decode cX4_isBeyond 4 = .ok (.lload_n 1, 1) := by decide +kernel
theorem dX4_isBeyond_5 : decode cX4_isBeyond 5 = .ok (.lconst 0, 1) := by decide +kernel
theorem dX4_isBeyond_6 : decode cX4_isBeyond 6 = .ok (.lcmp, 1) := by decide +kernel
theorem dX4_isBeyond_7 : decode cX4_isBeyond 7 = .ok (.ifCond .lt 13, 3) := by decide +kernel
theorem dX4_isBeyond_10 : decode cX4_isBeyond 10 = .ok (.iload_n 0, 1) := by decide +kernel
theorem dX4_isBeyond_11 : decode cX4_isBeyond 11 = .ok (.i2l, 1) := by decide +kernel
theorem dX4_isBeyond_12 : decode cX4_isBeyond 12 = .ok (.lload_n 1, 1) := by decide +kernel
theorem dX4_isBeyond_13 : decode cX4_isBeyond 13 = .ok (.ladd, 1) := by decide +kernel
theorem dX4_isBeyond_14 : decode cX4_isBeyond 14 = .ok (.iload_n 3, 1) := by decide +kernel
theorem dX4_isBeyond_15 : decode cX4_isBeyond 15 = .ok (.i2l, 1) := by decide +kernel
theorem dX4_isBeyond_16 : decode cX4_isBeyond 16 = .ok (.lcmp, 1) := by decide +kernel
theorem dX4_isBeyond_17 : decode cX4_isBeyond 17 = .ok (.ifCond .le 7, 3) := by decide +kernel
theorem dX4_isBeyond_20 : decode cX4_isBeyond 20 = .ok (.iconst 1, 1) := by decide +kernel
theorem dX4_isBeyond_21 : decode cX4_isBeyond 21 = .ok (.goto 4, 3) := by decide +kernel
theorem dX4_isBeyond_24 : decode cX4_isBeyond 24 = .ok (.iconst 0, 1) := by decide +kernel
theorem dX4_isBeyond_25 : decode cX4_isBeyond 25 = .ok (.ireturn, 1) := by decide +kernel
set_option maxRecDepth 20000 in
theorem ggX4_copy_X4_noSheet : GoodIn wsX4_copy wsX4_noSheet := goodIn_r _ [8, 9, 10, 11, 7, 12] (by decide +kernel) (by decide +kernel)
set_option maxRecDepth 20000 in
theorem gX4_copy_X4_noSheet : GoodIn wsX4_copy (va_wsS RX4 132 yX4_noSheet wsX4_noSheet) := goodIn_app (goodIn_of _ (by decide +kernel)) ggX4_copy_X4_noSheet
set_option maxRecDepth 20000 in
theorem ggX4_copy_X4_refused : GoodIn wsX4_copy wsX4_refused := goodIn_r _ [16, 17, 25, 26, 27, 28, 29, 30, 31, 32, 33, 34, 35, 36, 37, 38, 39, 40, 41, 42, 43, 44, 45, 46, 47, 48, 49, 50, 51, 52, 53, 54, 55, 56] (by decide +kernel) (by decide +kernel)
set_option maxRecDepth 20000 in
theorem gX4_copy_X4_refused : GoodIn wsX4_copy (wsV RX4 136 RX4 yX4_refused wsX4_refused) := goodIn_app (goodIn_of _ (by decide +kernel)) ggX4_copy_X4_refused
set_option maxRecDepth 20000 in
theorem ggX4_copy_X4_failed : GoodIn wsX4_copy wsX4_failed := goodIn_r _ [21, 17, 25, 26, 27, 28, 29, 30, 31, 32, 33, 34, 35, 36, 37, 38, 39, 40, 41, 42, 43, 44, 45, 46, 47, 48, 49, 50, 51, 52, 53, 54, 55, 56] (by decide +kernel) (by decide +kernel)
set_option maxRecDepth 20000 in
theorem gX4_copy_X4_failed : GoodIn wsX4_copy (wsV RX4 124 RX4 yX4_failed wsX4_failed) := goodIn_app (goodIn_of _ (by decide +kernel)) ggX4_copy_X4_failed
set_option maxRecDepth 20000 in
theorem ggX4_copy_X4_isBeyond : GoodIn wsX4_copy wsX4_isBeyond := goodIn_r _ [24] (by decide +kernel) (by decide +kernel)
set_option maxRecDepth 20000 in
theorem gX4_copy_X4_isBeyond : GoodIn wsX4_copy (va_wsS RX4 128 yX4_isBeyond wsX4_isBeyond) := goodIn_app (goodIn_of _ (by decide +kernel)) ggX4_copy_X4_isBeyond
theorem dX4_copy_0 : decode cX4_copy 0 = .ok (.iload_n 1, 1) := by decide +kernel
theorem dX4_copy_1 : decode cX4_copy 1 = .ok (.invokestatic 132, 3) := by decide +kernel
theorem dX4_copy_4 : decode cX4_copy 4 = .ok (.ifCond .ne 10, 3) := by decide +kernel
theorem dX4_copy_7 : decode cX4_copy 7 = .ok (.iload_n 3, 1) := by decide +kernel
theorem dX4_copy_8 : decode cX4_copy 8 = .ok (.invokestatic 132, 3) := by decide +kernel
theorem dX4_copy_11 : decode cX4_copy 11 = .ok (.ifCond .eq 9, 3) := by decide +kernel
theorem dX4_copy_14 : decode cX4_copy 14 = .ok (.aload_n 0, 1) := by decide +kernel
theorem dX4_copy_15 : decode cX4_copy 15 = .ok (.iconst (-1), 1) := by decide +kernel
theorem dX4_copy_16 : decode cX4_copy 16 = .ok (.invokevirtual 136, 3) := by decide +kernel
theorem dX4_copy_19 : decode cX4_copy 19 = .ok (.ireturn, 1) := by decide +kernel
theorem dX4_copy_20 : decode cX4_copy 20 = .ok (.aload_n 0, 1) := by decide +kernel
theorem dX4_copy_21 : decode cX4_copy 21 = .ok (.getfield 52, 3) := by decide +kernel
theorem dX4_copy_24 : decode cX4_copy 24 = .ok (.iload_n 1, 1) := by decide +kernel
theorem dX4_copy_25 : decode cX4_copy 25 = .ok (.iaload, 1) := by decide +kernel
theorem dX4_copy_26 : decode cX4_copy 26 = .ok (.ifCond .lt 12, 3) := by decide +kernel
theorem dX4_copy_29 : decode cX4_copy 29 = .ok (.aload_n 0, 1) := by decide +kernel
theorem dX4_copy_30 : decode cX4_copy 30 = .ok (.getfield 52, 3) := by decide +kernel
theorem dX4_copy_33 : decode cX4_copy 33 = .ok (.iload_n 3, 1) := by decide +kernel
theorem dX4_copy_34 : decode cX4_copy 34 = .ok (.iaload, 1) := by decide +kernel
theorem dX4_copy_35 : decode cX4_copy 35 = .ok (.ifCond .ge 9, 3) := by decide +kernel
theorem dX4_copy_38 : decode cX4_copy 38 = .ok (.aload_n 0, 1) := by decide +kernel
theorem dX4_copy_39 : decode cX4_copy 39 = .ok (.iconst 1, 1) := by decide +kernel
theorem dX4_copy_40 : decode cX4_copy 40 = .ok (.invokevirtual 124, 3) := by decide +kernel
theorem dX4_copy_43 : decode cX4_copy 43 = .ok (.ireturn, 1) := by decide +kernel
theorem dX4_copy_44 : decode cX4_copy 44 = .ok (.aload_n 0, 1) := by decide +kernel
theorem dX4_copy_45 : decode cX4_copy 45 = .ok (.getfield 55, 3) := by decide +kernel
theorem dX4_copy_48 : decode cX4_copy 48 = .ok (.iload_n 1, 1) := by decide +kernel
theorem dX4_copy_49 : decode cX4_copy 49 = .ok (.iaload, 1) := by decide +kernel
theorem dX4_copy_50 : decode cX4_copy 50 = .ok (.aload_n 0, 1) := by decide +kernel
theorem dX4_copy_51 : decode cX4_copy 51 = .ok (.getfield 55, 3) := by decide +kernel
theorem dX4_copy_54 : decode cX4_copy 54 = .ok (.iload_n 3, 1) := by decide +kernel
theorem dX4_copy_55 : decode cX4_copy 55 = .ok (.iaload, 1) := by decide +kernel
theorem dX4_copy_56 : decode cX4_copy 56 = .ok (.if_icmp .eq 9, 3) := by decide +kernel
theorem dX4_copy_59 : decode cX4_copy 59 = .ok (.aload_n 0, 1) := by decide +kernel
theorem dX4_copy_60 : decode cX4_copy 60 = .ok (.iconst 2, 1) := by decide +kernel
theorem dX4_copy_61 : decode cX4_copy 61 = .ok (.invokevirtual 124, 3) := by decide +kernel
theorem dX4_copy_64 : decode cX4_copy 64 = .ok (.ireturn, 1) := by decide +kernel
theorem dX4_copy_65 : decode cX4_copy 65 = .ok (.iload_n 2, 1) := by decide +kernel
theorem dX4_copy_66 : decode cX4_copy 66 = .ok (.iload 5, 2) := by decide +kernel
theorem dX4_copy_68 : decode cX4_copy 68 = .ok (.i2l, 1) := by decide +kernel
theorem dX4_copy_69 : decode cX4_copy 69 = .ok (.aload_n 0, 1) := by decide +kernel
theorem dX4_copy_70 : decode cX4_copy 70 = .ok (.getfield 52, 3) := by decide +kernel
theorem dX4_copy_73 : decode cX4_copy 73 = .ok (.iload_n 1, 1) := by decide +kernel
theorem dX4_copy_74 : decode cX4_copy 74 = .ok (.iaload, 1) := by decide +kernel
theorem dX4_copy_75 : decode cX4_copy 75 = .ok (.invokestatic 128, 3) := by decide +kernel
theorem dX4_copy_78 : decode cX4_copy 78 = .ok (.ifCond .ne 20, 3) := by decide +kernel
theorem dX4_copy_81 : decode cX4_copy 81 = .ok (.iload 4, 2) := by decide +kernel
theorem dX4_copy_83 : decode cX4_copy 83 = .ok (.iload 5, 2) := by decide +kernel
theorem dX4_copy_85 : decode cX4_copy 85 = .ok (.i2l, 1) := by decide +kernel
theorem dX4_copy_86 : decode cX4_copy 86 = .ok (.aload_n 0, 1) := by decide +kernel
theorem dX4_copy_87 : decode cX4_copy 87 = .ok (.getfield 52, 3) := by decide +kernel
theorem dX4_copy_90 : decode cX4_copy 90 = .ok (.iload_n 3, 1) := by decide +kernel
theorem dX4_copy_91 : decode cX4_copy 91 = .ok (.iaload, 1) := by decide +kernel
theorem dX4_copy_92 : decode cX4_copy 92 = .ok (.invokestatic 128, 3) := by decide +kernel
theorem dX4_copy_95 : decode cX4_copy 95 = .ok (.ifCond .eq 9, 3) := by decide +kernel
theorem dX4_copy_98 : decode cX4_copy 98 = .ok (.aload_n 0, 1) := by decide +kernel
theorem dX4_copy_99 : decode cX4_copy 99 = .ok (.iconst 3, 1) := by decide +kernel
theorem dX4_copy_100 : decode cX4_copy 100 = .ok (.invokevirtual 124, 3) := by decide +kernel
theorem dX4_copy_103 : decode cX4_copy 103 = .ok (.ireturn, 1) := by decide +kernel
theorem dX4_copy_104 : decode cX4_copy 104 = .ok (.iconst 0, 1) := by decide +kernel
theorem dX4_copy_105 : decode cX4_copy 105 = .ok (.istore 6, 2) := by decide +kernel
theorem dX4_copy_107 : decode cX4_copy 107 = .ok (.iload 6, 2) := by decide +kernel
theorem dX4_copy_109 : decode cX4_copy 109 = .ok (.iload 5, 2) := by decide +kernel
theorem dX4_copy_111 : decode cX4_copy 111 = .ok (.if_icmp .ge 30, 3) := by decide +kernel
theorem dX4_copy_114 : decode cX4_copy 114 = .ok (.aload_n 0, 1) := by decide +kernel
theorem dX4_copy_115 : decode cX4_copy 115 = .ok (.getfield 61, 3) := by decide +kernel
theorem dX4_copy_118 : decode cX4_copy 118 = .ok (.iload 6, 2) := by decide +kernel
theorem dX4_copy_120 : decode cX4_copy 120 = .ok (.aload_n 0, 1) := by decide +kernel
theorem dX4_copy_121 : decode cX4_copy 121 = .ok (.getfield 58, 3) := by decide +kernel
theorem dX4_copy_124 : decode cX4_copy 124 = .ok (.bipush 60, 2) := by decide +kernel
theorem dX4_copy_126 : decode cX4_copy 126 = .ok (.iload_n 1, 1) := by decide +kernel
theorem dX4_copy_127 : decode cX4_copy 127 = .ok (.imul, 1) := by decide +kernel
theorem dX4_copy_128 : decode cX4_copy 128 = .ok (.iload_n 2, 1) := by decide +kernel
theorem dX4_copy_129 : decode cX4_copy 129 = .ok (.iadd, 1) := by decide +kernel
theorem dX4_copy_130 : decode cX4_copy 130 = .ok (.iload 6, 2) := by decide +kernel
theorem dX4_copy_132 : decode cX4_copy 132 = .ok (.iadd, 1) := by decide +kernel
theorem dX4_copy_133 : decode cX4_copy 133 = .ok (.iaload, 1) := by decide +kernel
theorem dX4_copy_134 : decode cX4_copy 134 = .ok (.iastore, 1) := by decide +kernel
theorem dX4_copy_135 : decode cX4_copy 135 = .ok (.iinc 6 1, 3) := by decide +kernel
theorem dX4_copy_138 : decode cX4_copy 138 = .ok (.goto (-31), 3) := by decide +kernel
theorem dX4_copy_141 : decode cX4_copy 141 = .ok (.iconst 0, 1) := by decide +kernel
theorem dX4_copy_142 : decode cX4_copy 142 = .ok (.istore 6, 2) := by decide +kernel
theorem dX4_copy_144 : decode cX4_copy 144 = .ok (.iload 6, 2) := by decide +kernel
theorem dX4_copy_146 : decode cX4_copy 146 = .ok (.iload 5, 2) := by decide +kernel
theorem dX4_copy_148 : decode cX4_copy 148 = .ok (.if_icmp .ge 31, 3) := by decide +kernel
theorem dX4_copy_151 : decode cX4_copy 151 = .ok (.aload_n 0, 1) := by decide +kernel
theorem dX4_copy_152 : decode cX4_copy 152 = .ok (.getfield 58, 3) := by decide +kernel
theorem dX4_copy_155 : decode cX4_copy 155 = .ok (.bipush 60, 2) := by decide +kernel
theorem dX4_copy_157 : decode cX4_copy 157 = .ok (.iload_n 3, 1) := by decide +kernel
theorem dX4_copy_158 : decode cX4_copy 158 = .ok (.imul, 1) := by decide +kernel
theorem dX4_copy_159 : decode cX4_copy 159 = .ok (.iload 4, 2) := by decide +kernel
theorem dX4_copy_161 : decode cX4_copy 161 = .ok (.iadd, 1) := by decide +kernel
theorem dX4_copy_162 : decode cX4_copy 162 = .ok (.iload 6, 2) := by decide +kernel
theorem dX4_copy_164 : decode cX4_copy 164 = .ok (.iadd, 1) := by decide +kernel
theorem dX4_copy_165 : decode cX4_copy 165 = .ok (.aload_n 0, 1) := by decide +kernel
theorem dX4_copy_166 : decode cX4_copy 166 = .ok (.getfield 61, 3) := by decide +kernel
theorem dX4_copy_169 : decode cX4_copy 169 = .ok (.iload 6, 2) := by decide +kernel
theorem dX4_copy_171 : decode cX4_copy 171 = .ok (.iaload, 1) := by decide +kernel
theorem dX4_copy_172 : decode cX4_copy 172 = .ok (.iastore, 1) := by decide +kernel
theorem dX4_copy_173 : decode cX4_copy 173 = .ok (.iinc 6 1, 3) := by decide +kernel
theorem dX4_copy_176 : decode cX4_copy 176 = .ok (.goto (-32), 3) := by decide +kernel
theorem dX4_copy_179 : decode cX4_copy 179 = .ok (.aload_n 0, 1) := by decide +kernel
theorem dX4_copy_180 : decode cX4_copy 180 = .ok (.iload 5, 2) := by decide +kernel
theorem dX4_copy_182 : decode cX4_copy 182 = .ok (.invokevirtual 136, 3) := by decide +kernel
theorem dX4_copy_185 : decode cX4_copy 185 = .ok (.ireturn, 1) := by decide +kernel
theorem dX4_traced_0 : decode cX4_traced 0 = .ok (.aload_n 0, 1) := by decide +kernel
theorem dX4_traced_1 : decode cX4_traced 1 = .ok (.bipush 31, 2) := by decide +kernel
theorem dX4_traced_3 : decode cX4_traced 3 = .ok (.aload_n 0, 1) := by decide +kernel
theorem dX4_traced_4 : decode cX4_traced 4 = .ok (.getfield 238, 3) := by decide +kernel
theorem dX4_traced_7 : decode cX4_traced 7 = .ok (.imul, 1) := by decide +kernel
theorem dX4_traced_8 : decode cX4_traced 8 = .ok (.iload_n 1, 1) := by decide +kernel
theorem dX4_traced_9 : decode cX4_traced 9 = .ok (.iadd, 1) := by decide +kernel
theorem dX4_traced_10 : decode cX4_traced 10 = .ok (.putfield 238, 3) := by decide +kernel
theorem dX4_traced_13 : decode cX4_traced 13 = .ok (.return_, 1) := by decide +kernel
set_option maxRecDepth 20000 in
theorem ggX4_tell_X4_noWard : GoodIn wsX4_tell wsX4_noWard := goodIn_r _ [7, 8, 9, 10, 6, 11, 17, 18, 19, 20, 21, 22, 23, 24, 25, 26, 27, 28, 29, 30, 31, 32, 33, 34, 35, 36, 37, 38, 39, 40, 41, 42, 43, 44, 45, 46, 47, 48] (by decide +kernel) (by decide +kernel)
set_option maxRecDepth 20000 in
theorem gX4_tell_X4_noWard : GoodIn wsX4_tell (wsV RX4 155 RX4 yX4_noWard wsX4_noWard) := goodIn_app (goodIn_of _ (by decide +kernel)) ggX4_tell_X4_noWard
set_option maxRecDepth 20000 in
theorem ggX4_tell_X4_traced : GoodIn wsX4_tell wsX4_traced := goodIn_r _ [15, 16, 17, 18, 19, 20, 21, 22, 23, 24, 25, 26, 27, 28, 29, 30, 31, 32, 33, 34, 35, 36, 37, 38, 39, 40, 41, 42, 43, 44, 45, 46, 47, 48] (by decide +kernel) (by decide +kernel)
set_option maxRecDepth 20000 in
theorem gX4_tell_X4_traced : GoodIn wsX4_tell (wsV RX4 241 RX4 yX4_traced wsX4_traced) := goodIn_app (goodIn_of _ (by decide +kernel)) ggX4_tell_X4_traced
theorem dX4_tell_0 : decode cX4_tell 0 = .ok (.aload_n 0, 1) := by decide +kernel
theorem dX4_tell_1 : decode cX4_tell 1 = .ok (.iload_n 1, 1) := by decide +kernel
theorem dX4_tell_2 : decode cX4_tell 2 = .ok (.invokevirtual 155, 3) := by decide +kernel
theorem dX4_tell_5 : decode cX4_tell 5 = .ok (.ifCond .eq 5, 3) := by decide +kernel
theorem dX4_tell_8 : decode cX4_tell 8 = .ok (.iconst (-1), 1) := by decide +kernel
theorem dX4_tell_9 : decode cX4_tell 9 = .ok (.ireturn, 1) := by decide +kernel
theorem dX4_tell_10 : decode cX4_tell 10 = .ok (.aload_n 0, 1) := by decide +kernel
theorem dX4_tell_11 : decode cX4_tell 11 = .ok (.getfield 22, 3) := by decide +kernel
theorem dX4_tell_14 : decode cX4_tell 14 = .ok (.iload_n 1, 1) := by decide +kernel
theorem dX4_tell_15 : decode cX4_tell 15 = .ok (.iaload, 1) := by decide +kernel
theorem dX4_tell_16 : decode cX4_tell 16 = .ok (.istore_n 2, 1) := by decide +kernel
theorem dX4_tell_17 : decode cX4_tell 17 = .ok (.iload_n 2, 1) := by decide +kernel
theorem dX4_tell_18 : decode cX4_tell 18 = .ok (.iconst 2, 1) := by decide +kernel
theorem dX4_tell_19 : decode cX4_tell 19 = .ok (.if_icmp .ne 8, 3) := by decide +kernel
theorem dX4_tell_22 : decode cX4_tell 22 = .ok (.aload_n 0, 1) := by decide +kernel
theorem dX4_tell_23 : decode cX4_tell 23 = .ok (.iconst 3, 1) := by decide +kernel
theorem dX4_tell_24 : decode cX4_tell 24 = .ok (.invokevirtual 241, 3) := by decide +kernel
theorem dX4_tell_27 : decode cX4_tell 27 = .ok (.iload_n 2, 1) := by decide +kernel
theorem dX4_tell_28 : decode cX4_tell 28 = .ok (.ifCond .le 8, 3) := by decide +kernel
theorem dX4_tell_31 : decode cX4_tell 31 = .ok (.aload_n 0, 1) := by decide +kernel
theorem dX4_tell_32 : decode cX4_tell 32 = .ok (.iconst 2, 1) := by decide +kernel
theorem dX4_tell_33 : decode cX4_tell 33 = .ok (.invokevirtual 241, 3) := by decide +kernel
theorem dX4_tell_36 : decode cX4_tell 36 = .ok (.aload_n 0, 1) := by decide +kernel
theorem dX4_tell_37 : decode cX4_tell 37 = .ok (.iconst 1, 1) := by decide +kernel
theorem dX4_tell_38 : decode cX4_tell 38 = .ok (.invokevirtual 241, 3) := by decide +kernel
theorem dX4_tell_41 : decode cX4_tell 41 = .ok (.iload_n 2, 1) := by decide +kernel
theorem dX4_tell_42 : decode cX4_tell 42 = .ok (.iconst 2, 1) := by decide +kernel
theorem dX4_tell_43 : decode cX4_tell 43 = .ok (.if_icmp .ne 8, 3) := by decide +kernel
theorem dX4_tell_46 : decode cX4_tell 46 = .ok (.aload_n 0, 1) := by decide +kernel
theorem dX4_tell_47 : decode cX4_tell 47 = .ok (.iconst 1, 1) := by decide +kernel
theorem dX4_tell_48 : decode cX4_tell 48 = .ok (.invokevirtual 241, 3) := by decide +kernel
theorem dX4_tell_51 : decode cX4_tell 51 = .ok (.aload_n 0, 1) := by decide +kernel
theorem dX4_tell_52 : decode cX4_tell 52 = .ok (.getfield 25, 3) := by decide +kernel
theorem dX4_tell_55 : decode cX4_tell 55 = .ok (.iload_n 1, 1) := by decide +kernel
theorem dX4_tell_56 : decode cX4_tell 56 = .ok (.iaload, 1) := by decide +kernel
theorem dX4_tell_57 : decode cX4_tell 57 = .ok (.istore_n 3, 1) := by decide +kernel
theorem dX4_tell_58 : decode cX4_tell 58 = .ok (.iload_n 2, 1) := by decide +kernel
theorem dX4_tell_59 : decode cX4_tell 59 = .ok (.ifCond .ne 7, 3) := by decide +kernel
theorem dX4_tell_62 : decode cX4_tell 62 = .ok (.iload_n 3, 1) := by decide +kernel
theorem dX4_tell_63 : decode cX4_tell 63 = .ok (.goto 21, 3) := by decide +kernel
theorem dX4_tell_66 : decode cX4_tell 66 = .ok (.iload_n 2, 1) := by decide +kernel
theorem dX4_tell_67 : decode cX4_tell 67 = .ok (.iconst 1, 1) := by decide +kernel
theorem dX4_tell_68 : decode cX4_tell 68 = .ok (.if_icmp .ne 10, 3) := by decide +kernel
theorem dX4_tell_71 : decode cX4_tell 71 = .ok (.iload_n 3, 1) := by decide +kernel
theorem dX4_tell_72 : decode cX4_tell 72 = .ok (.bipush 100, 2) := by decide +kernel
theorem dX4_tell_74 : decode cX4_tell 74 = .ok (.iadd, 1) := by decide +kernel
theorem dX4_tell_75 : decode cX4_tell 75 = .ok (.goto 9, 3) := by decide +kernel
theorem dX4_tell_78 : decode cX4_tell 78 = .ok (.iconst 2, 1) := by decide +kernel
theorem dX4_tell_79 : decode cX4_tell 79 = .ok (.iload_n 3, 1) := by decide +kernel
theorem dX4_tell_80 : decode cX4_tell 80 = .ok (.imul, 1) := by decide +kernel
theorem dX4_tell_81 : decode cX4_tell 81 = .ok (.bipush 100, 2) := by decide +kernel
theorem dX4_tell_83 : decode cX4_tell 83 = .ok (.iadd, 1) := by decide +kernel
theorem dX4_tell_84 : decode cX4_tell 84 = .ok (.ireturn, 1) := by decide +kernel
set_option maxRecDepth 20000 in
theorem ggX4_woo_X4_noWard : GoodIn wsX4_woo wsX4_noWard := goodIn_r _ [6, 7, 8, 9, 5, 10, 16, 17, 18, 19, 20, 21, 22, 23, 24, 25, 26, 27, 28, 29, 30, 31, 32, 33, 34, 35, 36, 37, 38, 39, 40, 41, 42, 43, 44, 45, 46, 47] (by decide +kernel) (by decide +kernel)
set_option maxRecDepth 20000 in
theorem gX4_woo_X4_noWard : GoodIn wsX4_woo (wsV RX4 155 RX4 yX4_noWard wsX4_noWard) := goodIn_app (goodIn_of _ (by decide +kernel)) ggX4_woo_X4_noWard
set_option maxRecDepth 20000 in
theorem ggX4_woo_X4_traced : GoodIn wsX4_woo wsX4_traced := goodIn_r _ [14, 15, 16, 17, 18, 19, 20, 21, 22, 23, 24, 25, 26, 27, 28, 29, 30, 31, 32, 33, 34, 35, 36, 37, 38, 39, 40, 41, 42, 43, 44, 45, 46, 47] (by decide +kernel) (by decide +kernel)
set_option maxRecDepth 20000 in
theorem gX4_woo_X4_traced : GoodIn wsX4_woo (wsV RX4 241 RX4 yX4_traced wsX4_traced) := goodIn_app (goodIn_of _ (by decide +kernel)) ggX4_woo_X4_traced
theorem dX4_woo_0 : decode cX4_woo 0 = .ok (.aload_n 0, 1) := by decide +kernel
theorem dX4_woo_1 : decode cX4_woo 1 = .ok (.iload_n 1, 1) := by decide +kernel
theorem dX4_woo_2 : decode cX4_woo 2 = .ok (.invokevirtual 155, 3) := by decide +kernel
theorem dX4_woo_5 : decode cX4_woo 5 = .ok (.ifCond .eq 5, 3) := by decide +kernel
theorem dX4_woo_8 : decode cX4_woo 8 = .ok (.iconst (-1), 1) := by decide +kernel
theorem dX4_woo_9 : decode cX4_woo 9 = .ok (.ireturn, 1) := by decide +kernel
theorem dX4_woo_10 : decode cX4_woo 10 = .ok (.aload_n 0, 1) := by decide +kernel
theorem dX4_woo_11 : decode cX4_woo 11 = .ok (.aload_n 0, 1) := by decide +kernel
theorem dX4_woo_12 : decode cX4_woo 12 = .ok (.getfield 22, 3) := by decide +kernel
theorem dX4_woo_15 : decode cX4_woo 15 = .ok (.iload_n 1, 1) := by decide +kernel
theorem dX4_woo_16 : decode cX4_woo 16 = .ok (.iaload, 1) := by decide +kernel
theorem dX4_woo_17 : decode cX4_woo 17 = .ok (.iconst 2, 1) := by decide +kernel
theorem dX4_woo_18 : decode cX4_woo 18 = .ok (.if_icmp .ne 7, 3) := by decide +kernel
theorem dX4_woo_21 : decode cX4_woo 21 = .ok (.iconst 5, 1) := by decide +kernel
theorem dX4_woo_22 : decode cX4_woo 22 = .ok (.goto 4, 3) := by decide +kernel
theorem dX4_woo_25 : decode cX4_woo 25 = .ok (.iconst 4, 1) := by decide +kernel
theorem dX4_woo_26 : decode cX4_woo 26 = .ok (.invokevirtual 241, 3) := by decide +kernel
theorem dX4_woo_29 : decode cX4_woo 29 = .ok (.aload_n 0, 1) := by decide +kernel
theorem dX4_woo_30 : decode cX4_woo 30 = .ok (.getfield 22, 3) := by decide +kernel
theorem dX4_woo_33 : decode cX4_woo 33 = .ok (.iload_n 1, 1) := by decide +kernel
theorem dX4_woo_34 : decode cX4_woo 34 = .ok (.iaload, 1) := by decide +kernel
theorem dX4_woo_35 : decode cX4_woo 35 = .ok (.iconst 2, 1) := by decide +kernel
theorem dX4_woo_36 : decode cX4_woo 36 = .ok (.if_icmp .ne 8, 3) := by decide +kernel
theorem dX4_woo_39 : decode cX4_woo 39 = .ok (.bipush 60, 2) := by decide +kernel
theorem dX4_woo_41 : decode cX4_woo 41 = .ok (.goto 4, 3) := by decide +kernel
theorem dX4_woo_44 : decode cX4_woo 44 = .ok (.iload_n 1, 1) := by decide +kernel
theorem dX4_woo_45 : decode cX4_woo 45 = .ok (.ireturn, 1) := by decide +kernel
set_option maxRecDepth 20000 in
theorem ggX4_as_X4_noWard : GoodIn wsX4_as wsX4_noWard := goodIn_r _ [7, 8, 9, 10, 6, 11, 21, 22, 23, 24, 25, 26, 27, 28, 29, 30, 31, 32, 33, 34, 35, 36, 37, 38, 39, 40, 41, 42, 43, 44, 45, 46, 47, 48, 49, 50, 51, 52] (by decide +kernel) (by decide +kernel)
set_option maxRecDepth 20000 in
theorem gX4_as_X4_noWard : GoodIn wsX4_as (wsV RX4 155 RX4 yX4_noWard wsX4_noWard) := goodIn_app (goodIn_of _ (by decide +kernel)) ggX4_as_X4_noWard
set_option maxRecDepth 20000 in
theorem ggX4_as_X4_refused : GoodIn wsX4_as wsX4_refused := goodIn_r _ [15, 16, 21, 22, 23, 24, 25, 26, 27, 28, 29, 30, 31, 32, 33, 34, 35, 36, 37, 38, 39, 40, 41, 42, 43, 44, 45, 46, 47, 48, 49, 50, 51, 52] (by decide +kernel) (by decide +kernel)
set_option maxRecDepth 20000 in
theorem gX4_as_X4_refused : GoodIn wsX4_as (wsV RX4 136 RX4 yX4_refused wsX4_refused) := goodIn_app (goodIn_of _ (by decide +kernel)) ggX4_as_X4_refused
set_option maxRecDepth 20000 in
theorem ggX4_as_X4_in : GoodIn wsX4_as wsX4_in := goodIn_r _ [11] (by decide +kernel) (by decide +kernel)
set_option maxRecDepth 20000 in
theorem gX4_as_X4_in : GoodIn wsX4_as (va_wsS RX4 80 yX4_in wsX4_in) := goodIn_app (goodIn_of _ (by decide +kernel)) ggX4_as_X4_in
set_option maxRecDepth 20000 in
theorem ggX4_as_X4_failed : GoodIn wsX4_as wsX4_failed := goodIn_r _ [20, 16, 21, 22, 23, 24, 25, 26, 27, 28, 29, 30, 31, 32, 33, 34, 35, 36, 37, 38, 39, 40, 41, 42, 43, 44, 45, 46, 47, 48, 49, 50, 51, 52] (by decide +kernel) (by decide +kernel)
set_option maxRecDepth 20000 in
theorem gX4_as_X4_failed : GoodIn wsX4_as (wsV RX4 124 RX4 yX4_failed wsX4_failed) := goodIn_app (goodIn_of _ (by decide +kernel)) ggX4_as_X4_failed
theorem dX4_as_0 : decode cX4_as 0 = .ok (.aload_n 0, 1) := by decide +kernel
theorem dX4_as_1 : decode cX4_as 1 = .ok (.iload_n 1, 1) := by decide +kernel
theorem dX4_as_2 : decode cX4_as 2 = .ok (.invokevirtual 155, 3) := by decide +kernel
theorem dX4_as_5 : decode cX4_as 5 = .ok (.ifCond .eq 9, 3) := by decide +kernel
theorem dX4_as_8 : decode cX4_as 8 = .ok (.aload_n 0, 1) := by decide +kernel
theorem dX4_as_9 : decode cX4_as 9 = .ok (.iconst (-1), 1) := by decide +kernel
theorem dX4_as_10 : decode cX4_as 10 = .ok (.invokevirtual 136, 3) := by decide +kernel
theorem dX4_as_13 : decode cX4_as 13 = .ok (.ireturn, 1) := by decide +kernel
theorem dX4_as_14 : decode cX4_as 14 = .ok (.iload_n 2, 1) := by decide +kernel
theorem dX4_as_15 : decode cX4_as 15 = .ok (.i2l, 1) := by decide +kernel
theorem dX4_as_16 : decode cX4_as 16 = .ok (.lconst 0, 1) := by decide +kernel
theorem dX4_as_17 : decode cX4_as 17 = .ok (.ldc2_w 139, 3) := by decide +kernel
theorem dX4_as_20 : decode cX4_as 20 = .ok (.invokestatic 80, 3) := by decide +kernel
theorem dX4_as_23 : decode cX4_as 23 = .ok (.ifCond .ne 10, 3) := by decide +kernel
theorem dX4_as_26 : decode cX4_as 26 = .ok (.aload_n 0, 1) := by decide +kernel
theorem dX4_as_27 : decode cX4_as 27 = .ok (.bipush (-2), 2) := by decide +kernel
theorem dX4_as_29 : decode cX4_as 29 = .ok (.invokevirtual 136, 3) := by decide +kernel
theorem dX4_as_32 : decode cX4_as 32 = .ok (.ireturn, 1) := by decide +kernel
theorem dX4_as_33 : decode cX4_as 33 = .ok (.aload_n 0, 1) := by decide +kernel
theorem dX4_as_34 : decode cX4_as 34 = .ok (.getfield 22, 3) := by decide +kernel
theorem dX4_as_37 : decode cX4_as 37 = .ok (.iload_n 1, 1) := by decide +kernel
theorem dX4_as_38 : decode cX4_as 38 = .ok (.iaload, 1) := by decide +kernel
theorem dX4_as_39 : decode cX4_as 39 = .ok (.iload_n 2, 1) := by decide +kernel
theorem dX4_as_40 : decode cX4_as 40 = .ok (.if_icmp .lt 11, 3) := by decide +kernel
theorem dX4_as_43 : decode cX4_as 43 = .ok (.aload_n 0, 1) := by decide +kernel
theorem dX4_as_44 : decode cX4_as 44 = .ok (.iconst 1, 1) := by decide +kernel
theorem dX4_as_45 : decode cX4_as 45 = .ok (.invokevirtual 136, 3) := by decide +kernel
theorem dX4_as_48 : decode cX4_as 48 = .ok (.goto 8, 3) := by decide +kernel
theorem dX4_as_51 : decode cX4_as 51 = .ok (.aload_n 0, 1) := by decide +kernel
theorem dX4_as_52 : decode cX4_as 52 = .ok (.iconst 2, 1) := by decide +kernel
theorem dX4_as_53 : decode cX4_as 53 = .ok (.invokevirtual 124, 3) := by decide +kernel
theorem dX4_as_56 : decode cX4_as 56 = .ok (.ireturn, 1) := by decide +kernel
theorem dX4_trace_0 : decode cX4_trace 0 = .ok (.aload_n 0, 1) := by decide +kernel
theorem dX4_trace_1 : decode cX4_trace 1 = .ok (.getfield 238, 3) := by decide +kernel
theorem dX4_trace_4 : decode cX4_trace 4 = .ok (.ireturn, 1) := by decide +kernel
theorem dX4_fault_0 : decode cX4_fault 0 = .ok (.aload_n 0, 1) := by decide +kernel
theorem dX4_fault_1 : decode cX4_fault 1 = .ok (.getfield 66, 3) := by decide +kernel
theorem dX4_fault_4 : decode cX4_fault 4 = .ok (.ireturn, 1) := by decide +kernel
theorem dX4_many_0 : decode cX4_many 0 = .ok (.iload_n 1, 1) := by decide +kernel
theorem dX4_many_1 : decode cX4_many 1 = .ok (.tableswitch 65 0 4 #[35, 45, 50, 55, 60], 35) := by decide +kernel
theorem dX4_many_36 : decode cX4_many 36 = .ok (.aload_n 0, 1) := by decide +kernel
theorem dX4_many_37 : decode cX4_many 37 = .ok (.getfield 74, 3) := by decide +kernel
theorem dX4_many_40 : decode cX4_many 40 = .ok (.aload_n 0, 1) := by decide +kernel
theorem dX4_many_41 : decode cX4_many 41 = .ok (.getfield 77, 3) := by decide +kernel
theorem dX4_many_44 : decode cX4_many 44 = .ok (.imul, 1) := by decide +kernel
theorem dX4_many_45 : decode cX4_many 45 = .ok (.ireturn, 1) := by decide +kernel
theorem dX4_many_46 : decode cX4_many 46 = .ok (.aload_n 0, 1) := by decide +kernel
theorem dX4_many_47 : decode cX4_many 47 = .ok (.getfield 84, 3) := by decide +kernel
theorem dX4_many_50 : decode cX4_many 50 = .ok (.ireturn, 1) := by decide +kernel
theorem dX4_many_51 : decode cX4_many 51 = .ok (.aload_n 0, 1) := by decide +kernel
theorem dX4_many_52 : decode cX4_many 52 = .ok (.getfield 87, 3) := by decide +kernel
theorem dX4_many_55 : decode cX4_many 55 = .ok (.ireturn, 1) := by decide +kernel
theorem dX4_many_56 : decode cX4_many 56 = .ok (.aload_n 0, 1) := by decide +kernel
theorem dX4_many_57 : decode cX4_many 57 = .ok (.getfield 149, 3) := by decide +kernel
theorem dX4_many_60 : decode cX4_many 60 = .ok (.ireturn, 1) := by decide +kernel
theorem dX4_many_61 : decode cX4_many 61 = .ok (.aload_n 0, 1) := by decide +kernel
theorem dX4_many_62 : decode cX4_many 62 = .ok (.getfield 152, 3) := by decide +kernel
theorem dX4_many_65 : decode cX4_many 65 = .ok (.ireturn, 1) := by decide +kernel
theorem dX4_many_66 : decode cX4_many 66 = .ok (.bipush (-2), 2) := by decide +kernel
theorem dX4_many_68 : decode cX4_many 68 = .ok (.ireturn, 1) := by decide +kernel
end
section
theorem dJ6_bitCount_0f7a4_0 : decode cJ6_bitCount_0f7a4 0 = .ok (.iload_n 0, 1) := by decide +kernel
theorem dJ6_bitCount_0f7a4_1 : decode cJ6_bitCount_0f7a4 1 = .ok (.iload_n 0, 1) := by decide +kernel
theorem dJ6_bitCount_0f7a4_2 : decode cJ6_bitCount_0f7a4 2 = .ok (.iconst 1, 1) := by decide +kernel
theorem dJ6_bitCount_0f7a4_3 : decode cJ6_bitCount_0f7a4 3 = .ok (.iushr, 1) := by decide +kernel
theorem dJ6_bitCount_0f7a4_4 : decode cJ6_bitCount_0f7a4 4 = .ok (.ldc_w 265, 3) := by decide +kernel
theorem dJ6_bitCount_0f7a4_7 : decode cJ6_bitCount_0f7a4 7 = .ok (.iand, 1) := by decide +kernel
theorem dJ6_bitCount_0f7a4_8 : decode cJ6_bitCount_0f7a4 8 = .ok (.isub, 1) := by decide +kernel
theorem dJ6_bitCount_0f7a4_9 : decode cJ6_bitCount_0f7a4 9 = .ok (.istore_n 0, 1) := by decide +kernel
theorem dJ6_bitCount_0f7a4_10 : decode cJ6_bitCount_0f7a4 10 = .ok (.iload_n 0, 1) := by decide +kernel
theorem dJ6_bitCount_0f7a4_11 : decode cJ6_bitCount_0f7a4 11 = .ok (.ldc_w 266, 3) := by decide +kernel
theorem dJ6_bitCount_0f7a4_14 : decode cJ6_bitCount_0f7a4 14 = .ok (.iand, 1) := by decide +kernel
theorem dJ6_bitCount_0f7a4_15 : decode cJ6_bitCount_0f7a4 15 = .ok (.iload_n 0, 1) := by decide +kernel
theorem dJ6_bitCount_0f7a4_16 : decode cJ6_bitCount_0f7a4 16 = .ok (.iconst 2, 1) := by decide +kernel
theorem dJ6_bitCount_0f7a4_17 : decode cJ6_bitCount_0f7a4 17 = .ok (.iushr, 1) := by decide +kernel
theorem dJ6_bitCount_0f7a4_18 : decode cJ6_bitCount_0f7a4 18 = .ok (.ldc_w 266, 3) := by decide +kernel
theorem dJ6_bitCount_0f7a4_21 : decode cJ6_bitCount_0f7a4 21 = .ok (.iand, 1) := by decide +kernel
theorem dJ6_bitCount_0f7a4_22 : decode cJ6_bitCount_0f7a4 22 = .ok (.iadd, 1) := by decide +kernel
theorem dJ6_bitCount_0f7a4_23 : decode cJ6_bitCount_0f7a4 23 = .ok (.istore_n 0, 1) := by decide +kernel
theorem dJ6_bitCount_0f7a4_24 : decode cJ6_bitCount_0f7a4 24 = .ok (.iload_n 0, 1) := by decide +kernel
theorem dJ6_bitCount_0f7a4_25 : decode cJ6_bitCount_0f7a4 25 = .ok (.iload_n 0, 1) := by decide +kernel
theorem dJ6_bitCount_0f7a4_26 : decode cJ6_bitCount_0f7a4 26 = .ok (.iconst 4, 1) := by decide +kernel
theorem dJ6_bitCount_0f7a4_27 : decode cJ6_bitCount_0f7a4 27 = .ok (.iushr, 1) := by decide +kernel
theorem dJ6_bitCount_0f7a4_28 : decode cJ6_bitCount_0f7a4 28 = .ok (.iadd, 1) := by decide +kernel
theorem dJ6_bitCount_0f7a4_29 : decode cJ6_bitCount_0f7a4 29 = .ok (.ldc_w 267, 3) := by decide +kernel
theorem dJ6_bitCount_0f7a4_32 : decode cJ6_bitCount_0f7a4 32 = .ok (.iand, 1) := by decide +kernel
theorem dJ6_bitCount_0f7a4_33 : decode cJ6_bitCount_0f7a4 33 = .ok (.istore_n 0, 1) := by decide +kernel
theorem dJ6_bitCount_0f7a4_34 : decode cJ6_bitCount_0f7a4 34 = .ok (.iload_n 0, 1) := by decide +kernel
theorem dJ6_bitCount_0f7a4_35 : decode cJ6_bitCount_0f7a4 35 = .ok (.iload_n 0, 1) := by decide +kernel
theorem dJ6_bitCount_0f7a4_36 : decode cJ6_bitCount_0f7a4 36 = .ok (.bipush 8, 2) := by decide +kernel
theorem dJ6_bitCount_0f7a4_38 : decode cJ6_bitCount_0f7a4 38 = .ok (.iushr, 1) := by decide +kernel
theorem dJ6_bitCount_0f7a4_39 : decode cJ6_bitCount_0f7a4 39 = .ok (.iadd, 1) := by decide +kernel
theorem dJ6_bitCount_0f7a4_40 : decode cJ6_bitCount_0f7a4 40 = .ok (.istore_n 0, 1) := by decide +kernel
theorem dJ6_bitCount_0f7a4_41 : decode cJ6_bitCount_0f7a4 41 = .ok (.iload_n 0, 1) := by decide +kernel
theorem dJ6_bitCount_0f7a4_42 : decode cJ6_bitCount_0f7a4 42 = .ok (.iload_n 0, 1) := by decide +kernel
theorem dJ6_bitCount_0f7a4_43 : decode cJ6_bitCount_0f7a4 43 = .ok (.bipush 16, 2) := by decide +kernel
theorem dJ6_bitCount_0f7a4_45 : decode cJ6_bitCount_0f7a4 45 = .ok (.iushr, 1) := by decide +kernel
theorem dJ6_bitCount_0f7a4_46 : decode cJ6_bitCount_0f7a4 46 = .ok (.iadd, 1) := by decide +kernel
theorem dJ6_bitCount_0f7a4_47 : decode cJ6_bitCount_0f7a4 47 = .ok (.istore_n 0, 1) := by decide +kernel
theorem dJ6_bitCount_0f7a4_48 : decode cJ6_bitCount_0f7a4 48 = .ok (.iload_n 0, 1) := by decide +kernel
theorem dJ6_bitCount_0f7a4_49 : decode cJ6_bitCount_0f7a4 49 = .ok (.bipush 63, 2) := by decide +kernel
theorem dJ6_bitCount_0f7a4_51 : decode cJ6_bitCount_0f7a4 51 = .ok (.iand, 1) := by decide +kernel
theorem dJ6_bitCount_0f7a4_52 : decode cJ6_bitCount_0f7a4 52 = .ok (.ireturn, 1) := by decide +kernel
theorem dJ9_abs_0f7a4_0 : decode cJ9_abs_0f7a4 0 = .ok (.iload_n 0, 1) := by decide +kernel
theorem dJ9_abs_0f7a4_1 : decode cJ9_abs_0f7a4 1 = .ok (.ifCond .ge 8, 3) := by decide +kernel
theorem dJ9_abs_0f7a4_4 : decode cJ9_abs_0f7a4 4 = .ok (.iload_n 0, 1) := by decide +kernel
theorem dJ9_abs_0f7a4_5 : decode cJ9_abs_0f7a4 5 = .ok (.ineg, 1) := by decide +kernel
theorem dJ9_abs_0f7a4_6 : decode cJ9_abs_0f7a4 6 = .ok (.goto 4, 3) := by decide +kernel
theorem dJ9_abs_0f7a4_9 : decode cJ9_abs_0f7a4 9 = .ok (.iload_n 0, 1) := by decide +kernel
theorem dJ9_abs_0f7a4_10 : decode cJ9_abs_0f7a4 10 = .ok (.ireturn, 1) := by decide +kernel
theorem dJ9_max_7cf53_0 : decode cJ9_max_7cf53 0 = .ok (.iload_n 0, 1) := by decide +kernel
theorem dJ9_max_7cf53_1 : decode cJ9_max_7cf53 1 = .ok (.iload_n 1, 1) := by decide +kernel
theorem dJ9_max_7cf53_2 : decode cJ9_max_7cf53 2 = .ok (.if_icmp .lt 7, 3) := by decide +kernel
theorem dJ9_max_7cf53_5 : decode cJ9_max_7cf53 5 = .ok (.iload_n 0, 1) := by decide +kernel
theorem dJ9_max_7cf53_6 : decode cJ9_max_7cf53 6 = .ok (.goto 4, 3) := by decide +kernel
theorem dJ9_max_7cf53_9 : decode cJ9_max_7cf53 9 = .ok (.iload_n 1, 1) := by decide +kernel
theorem dJ9_max_7cf53_10 : decode cJ9_max_7cf53 10 = .ok (.ireturn, 1) := by decide +kernel
theorem dJ7_fill_53178_0 : decode cJ7_fill_53178 0 = .ok (.iconst 0, 1) := by decide +kernel
theorem dJ7_fill_53178_1 : decode cJ7_fill_53178 1 = .ok (.istore_n 2, 1) := by decide +kernel
theorem dJ7_fill_53178_2 : decode cJ7_fill_53178 2 = .ok (.aload_n 0, 1) := by decide +kernel
theorem dJ7_fill_53178_3 : decode cJ7_fill_53178 3 = .ok (.arraylength, 1) := by decide +kernel
theorem dJ7_fill_53178_4 : decode cJ7_fill_53178 4 = .ok (.istore_n 3, 1) := by decide +kernel
theorem dJ7_fill_53178_5 : decode cJ7_fill_53178 5 = .ok (.iload_n 2, 1) := by decide +kernel
theorem dJ7_fill_53178_6 : decode cJ7_fill_53178 6 = .ok (.iload_n 3, 1) := by decide +kernel
theorem dJ7_fill_53178_7 : decode cJ7_fill_53178 7 = .ok (.if_icmp .ge 13, 3) := by decide +kernel
theorem dJ7_fill_53178_10 : decode cJ7_fill_53178 10 = .ok (.aload_n 0, 1) := by decide +kernel
theorem dJ7_fill_53178_11 : decode cJ7_fill_53178 11 = .ok (.iload_n 2, 1) := by decide +kernel
theorem dJ7_fill_53178_12 : decode cJ7_fill_53178 12 = .ok (.iload_n 1, 1) := by decide +kernel
theorem dJ7_fill_53178_13 : decode cJ7_fill_53178 13 = .ok (.iastore, 1) := by decide +kernel
theorem dJ7_fill_53178_14 : decode cJ7_fill_53178 14 = .ok (.iinc 2 1, 3) := by decide +kernel
theorem dJ7_fill_53178_17 : decode cJ7_fill_53178 17 = .ok (.goto (-12), 3) := by decide +kernel
theorem dJ7_fill_53178_20 : decode cJ7_fill_53178 20 = .ok (.return_, 1) := by decide +kernel
set_option maxRecDepth 20000 in
theorem ggL_law_X3_init : GoodIn wsL_law wsX3_init := goodIn_r _ [8, 9, 10, 11, 12, 13, 14, 15, 16, 17, 18, 19, 20, 21, 22, 23, 24, 25, 26, 27, 28, 29, 30, 31, 32, 33, 34, 35, 36, 37, 38, 39, 40, 41, 42, 43, 44, 45, 46, 47, 48, 49, 50, 51, 52, 53, 54, 55, 56, 57, 58, 59, 60, 61, 757, 758, 759, 760, 761, 762, 763, 796, 797, 798, 799, 800, 801, 802, 803, 804, 805, 806, 807, 808, 809, 810, 811, 812, 813, 814, 815, 816, 817, 818, 819] (by decide +kernel) (by decide +kernel)
set_option maxRecDepth 20000 in
theorem gL_law_X3_init : GoodIn wsL_law (wsX3_init) := ggL_law_X3_init
set_option maxRecDepth 20000 in
theorem ggL_law_X4_init : GoodIn wsL_law wsX4_init := goodIn_r _ [64, 65, 10, 11, 18, 66, 67, 68, 69, 70, 71, 72, 73, 74, 75, 76, 77, 78, 79, 80, 81, 82, 83, 764, 765, 766, 767, 768, 769, 770, 771, 772, 773, 774, 775, 776, 777, 778, 779, 780, 781, 782, 783, 784, 785, 786, 787, 788, 789, 790, 791, 792, 793, 794, 795] (by decide +kernel) (by decide +kernel)
set_option maxRecDepth 20000 in
theorem gL_law_X4_init : GoodIn wsL_law (wsX4_init) := ggL_law_X4_init
set_option maxRecDepth 20000 in
theorem ggL_law_X3_town : GoodIn wsL_law wsX3_town := goodIn_r _ [87, 26, 17, 24, 88, 23, 89, 90, 91, 92, 2, 93, 13, 94, 95, 96, 97, 98, 99, 28, 100, 60, 101, 102, 103, 104, 105, 106, 107, 108, 61, 109, 110, 111, 112, 113, 114, 115, 16, 116, 34, 33, 32, 117, 118, 119, 120, 121, 122, 123, 124, 125, 126, 127, 128, 129, 22, 130, 47, 51, 52, 53, 54, 55, 131, 132, 133, 134, 48, 49, 50, 135, 136, 137, 138, 139, 140, 141, 142, 143, 144, 145, 146, 147, 148, 149, 150, 151, 152, 153, 154, 155, 156, 157, 158, 159, 160, 161, 162, 163, 164, 165, 41, 42, 166, 167, 168, 169, 45, 170, 171, 172, 173, 174, 175, 176, 177, 38, 40, 39, 757, 758, 759, 760, 761, 762, 763, 796, 797, 798, 799, 800, 801, 802, 803, 804, 805, 806, 807, 808, 809, 810, 811, 812, 813, 814, 815, 816, 817, 818, 819] (by decide +kernel) (by decide +kernel)
set_option maxRecDepth 20000 in
theorem gL_law_X3_town : GoodIn wsL_law (wsV RL 13 RX3 yX3_town wsX3_town) := goodIn_app (goodIn_of _ (by decide +kernel)) ggL_law_X3_town
set_option maxRecDepth 20000 in
theorem ggL_law_X4_town : GoodIn wsL_law wsX4_town := goodIn_r _ [181, 182, 183, 184, 185, 186, 187, 188, 189, 190, 191, 66, 72, 67, 73, 68, 69, 74, 70, 75, 71, 76, 192, 193, 194, 195, 5, 196, 197, 198, 199, 200, 201, 202, 203, 204, 205, 206, 207, 208, 209, 80, 81, 210, 211, 212, 213, 214, 215, 216, 217, 218, 219, 220, 221, 222, 223, 224, 82, 225, 226, 227, 228, 229, 230, 231, 232, 233, 234, 235, 236, 237, 238, 239, 240, 764, 765, 766, 767, 768, 769, 770, 771, 772, 773, 774, 775, 776, 777, 778, 779, 780, 781, 782, 783, 784, 785, 786, 787, 788, 789, 790, 791, 792, 793, 794, 795] (by decide +kernel) (by decide +kernel)
set_option maxRecDepth 20000 in
theorem gL_law_X4_town : GoodIn wsL_law (wsV RL 17 RX4 yX4_town wsX4_town) := goodIn_app (goodIn_of _ (by decide +kernel)) ggL_law_X4_town
set_option maxRecDepth 20000 in
theorem ggL_law_X3_ofWard : GoodIn wsL_law wsX3_ofWard := goodIn_r _ [244, 23, 245, 246, 247, 248, 249, 250, 22, 251, 52, 252, 118, 2, 119, 253, 254, 255, 256, 39, 38, 757, 758, 759, 760, 761, 762, 763, 799, 800, 801, 802, 803, 804, 805, 806, 807, 808, 809, 810, 811, 812, 813, 814, 815, 816] (by decide +kernel) (by decide +kernel)
set_option maxRecDepth 20000 in
theorem gL_law_X3_ofWard : GoodIn wsL_law (wsV RL 18 RX3 yX3_ofWard wsX3_ofWard) := goodIn_app (goodIn_of _ (by decide +kernel)) ggL_law_X3_ofWard
set_option maxRecDepth 20000 in
theorem ggL_law_X4_ofWard : GoodIn wsL_law wsX4_ofWard := goodIn_r _ [260, 70, 71, 69, 261, 262, 263, 5, 264, 191, 198, 199, 200, 265, 266, 267, 268, 764, 765, 766, 767, 768, 769, 770, 771, 772, 773, 774, 775, 776, 777, 778, 779, 780, 781, 782, 783, 784, 785, 786, 787, 788, 789, 790, 791, 792, 793, 794, 795] (by decide +kernel) (by decide +kernel)
set_option maxRecDepth 20000 in
theorem gL_law_X4_ofWard : GoodIn wsL_law (wsV RL 22 RX4 yX4_ofWard wsX4_ofWard) := goodIn_app (goodIn_of _ (by decide +kernel)) ggL_law_X4_ofWard
set_option maxRecDepth 20000 in
theorem ggL_law_X3_ofWork : GoodIn wsL_law wsX3_ofWork := goodIn_r _ [272, 23, 273, 274, 275, 276, 277, 278, 22, 279, 51, 252, 118, 2, 119, 280, 281, 282, 283, 757, 758, 759, 760, 761, 762, 763, 799, 800, 801, 802, 803, 804, 805, 806, 807, 808, 809, 810, 811, 812, 813, 814, 815, 816] (by decide +kernel) (by decide +kernel)
set_option maxRecDepth 20000 in
theorem gL_law_X3_ofWork : GoodIn wsL_law (wsV RL 23 RX3 yX3_ofWork wsX3_ofWork) := goodIn_app (goodIn_of _ (by decide +kernel)) ggL_law_X3_ofWork
set_option maxRecDepth 20000 in
theorem ggL_law_X4_ofWork : GoodIn wsL_law wsX4_ofWork := goodIn_r _ [287, 66, 67, 68, 288, 289, 290, 5, 291, 189, 198, 199, 200, 764, 765, 766, 767, 768, 769, 770, 771, 772, 773, 774, 775, 776, 777, 778, 779, 780, 781, 782, 783, 784, 785, 786, 787, 788, 789, 790, 791, 792, 793, 794, 795] (by decide +kernel) (by decide +kernel)
set_option maxRecDepth 20000 in
theorem gL_law_X4_ofWork : GoodIn wsL_law (wsV RL 26 RX4 yX4_ofWork wsX4_ofWork) := goodIn_app (goodIn_of _ (by decide +kernel)) ggL_law_X4_ofWork
set_option maxRecDepth 20000 in
theorem ggL_law_X3_law : GoodIn wsL_law wsX3_law := goodIn_r _ [295, 23, 296, 297, 94, 95, 2, 96, 757, 758, 759, 760, 761, 762, 763, 799, 800, 801, 802, 803, 804, 805, 806, 807, 808, 809, 810, 811, 812, 813, 814, 815, 816] (by decide +kernel) (by decide +kernel)
set_option maxRecDepth 20000 in
theorem gL_law_X3_law : GoodIn wsL_law (wsV RL 27 RX3 yX3_law wsX3_law) := goodIn_app (goodIn_of _ (by decide +kernel)) ggL_law_X3_law
set_option maxRecDepth 20000 in
theorem ggL_law_X4_law : GoodIn wsL_law wsX4_law := goodIn_r _ [301, 182, 185, 192, 198, 199, 5, 200, 764, 765, 766, 767, 768, 769, 770, 771, 772, 773, 774, 775, 776, 777, 778, 779, 780, 781, 782, 783, 784, 785, 786, 787, 788, 789, 790, 791, 792, 793, 794, 795] (by decide +kernel) (by decide +kernel)
set_option maxRecDepth 20000 in
theorem gL_law_X4_law : GoodIn wsL_law (wsV RL 31 RX4 yX4_law wsX4_law) := goodIn_app (goodIn_of _ (by decide +kernel)) ggL_law_X4_law
set_option maxRecDepth 20000 in
theorem ggL_law_X3_turn : GoodIn wsL_law wsX3_turn := goodIn_r _ [305, 23, 275, 276, 277, 278, 22, 279, 51, 94, 95, 2, 96, 280, 281, 282, 283, 306, 307, 308, 309, 757, 758, 759, 760, 761, 762, 763, 799, 800, 801, 802, 803, 804, 805, 806, 807, 808, 809, 810, 811, 812, 813, 814, 815, 816] (by decide +kernel) (by decide +kernel)
set_option maxRecDepth 20000 in
theorem gL_law_X3_turn : GoodIn wsL_law (wsV RL 32 RX3 yX3_turn wsX3_turn) := goodIn_app (goodIn_of _ (by decide +kernel)) ggL_law_X3_turn
set_option maxRecDepth 20000 in
theorem ggL_law_X4_turn : GoodIn wsL_law wsX4_turn := goodIn_r _ [313, 197, 68, 288, 289, 290, 5, 291, 189, 198, 199, 200, 764, 765, 766, 767, 768, 769, 770, 771, 772, 773, 774, 775, 776, 777, 778, 779, 780, 781, 782, 783, 784, 785, 786, 787, 788, 789, 790, 791, 792, 793, 794, 795] (by decide +kernel) (by decide +kernel)
set_option maxRecDepth 20000 in
theorem gL_law_X4_turn : GoodIn wsL_law (wsV RL 35 RX4 yX4_turn wsX4_turn) := goodIn_app (goodIn_of _ (by decide +kernel)) ggL_law_X4_turn
set_option maxRecDepth 20000 in
theorem ggL_law_X3_smell : GoodIn wsL_law wsX3_smell := goodIn_r _ [317, 23, 275, 318, 319, 320, 22, 321, 50, 322, 323, 324, 325, 51, 42, 45, 326, 327, 328, 329, 53, 330, 331, 332, 333, 281, 282, 283, 171, 172, 173, 118, 2, 119, 757, 758, 759, 760, 761, 762, 763, 799, 800, 801, 802, 803, 804, 805, 806, 807, 808, 809, 810, 811, 812, 813, 814, 815, 816] (by decide +kernel) (by decide +kernel)
set_option maxRecDepth 20000 in
theorem gL_law_X3_smell : GoodIn wsL_law (wsV RL 36 RX3 yX3_smell wsX3_smell) := goodIn_app (goodIn_of _ (by decide +kernel)) ggL_law_X3_smell
set_option maxRecDepth 20000 in
theorem ggL_law_X4_smell : GoodIn wsL_law wsX4_smell := goodIn_r _ [337, 338, 339, 340, 5, 341, 185, 187, 198, 199, 200, 342, 343, 344, 345, 189, 192, 346, 347, 348, 349, 66, 68, 67, 764, 765, 766, 767, 768, 769, 770, 771, 772, 773, 774, 775, 776, 777, 778, 779, 780, 781, 782, 783, 784, 785, 786, 787, 788, 789, 790, 791, 792, 793, 794, 795] (by decide +kernel) (by decide +kernel)
set_option maxRecDepth 20000 in
theorem gL_law_X4_smell : GoodIn wsL_law (wsV RL 39 RX4 yX4_smell wsX4_smell) := goodIn_app (goodIn_of _ (by decide +kernel)) ggL_law_X4_smell
set_option maxRecDepth 20000 in
theorem ggL_law_X3_minds : GoodIn wsL_law wsX3_minds := goodIn_r _ [353, 23, 275, 248, 249, 250, 22, 251, 52, 354, 355, 356, 357, 40, 358, 254, 255, 256, 39, 38, 118, 2, 119, 359, 323, 324, 325, 51, 42, 45, 326, 327, 328, 329, 53, 330, 331, 332, 333, 281, 282, 283, 171, 172, 173, 757, 758, 759, 760, 761, 762, 763, 799, 800, 801, 802, 803, 804, 805, 806, 807, 808, 809, 810, 811, 812, 813, 814, 815, 816] (by decide +kernel) (by decide +kernel)
set_option maxRecDepth 20000 in
theorem gL_law_X3_minds : GoodIn wsL_law (wsV RL 40 RX3 yX3_minds wsX3_minds) := goodIn_app (goodIn_of _ (by decide +kernel)) ggL_law_X3_minds
set_option maxRecDepth 20000 in
theorem ggL_law_X4_minds : GoodIn wsL_law wsX4_minds := goodIn_r _ [363, 261, 262, 263, 5, 264, 191, 198, 199, 200, 364, 365, 366, 367, 69, 265, 266, 267, 268, 71, 70, 342, 343, 344, 345, 189, 192, 346, 347, 348, 349, 187, 66, 68, 67, 764, 765, 766, 767, 768, 769, 770, 771, 772, 773, 774, 775, 776, 777, 778, 779, 780, 781, 782, 783, 784, 785, 786, 787, 788, 789, 790, 791, 792, 793, 794, 795] (by decide +kernel) (by decide +kernel)
set_option maxRecDepth 20000 in
theorem gL_law_X4_minds : GoodIn wsL_law (wsV RL 43 RX4 yX4_minds wsX4_minds) := goodIn_app (goodIn_of _ (by decide +kernel)) ggL_law_X4_minds
set_option maxRecDepth 20000 in
theorem ggL_law_X3_burden : GoodIn wsL_law wsX3_burden := goodIn_r _ [371, 23, 296, 275, 372, 373, 374, 22, 375, 52, 376, 355, 356, 357, 40, 358, 254, 255, 256, 39, 38, 118, 2, 119, 359, 323, 324, 325, 51, 42, 45, 326, 327, 328, 329, 53, 330, 331, 332, 333, 281, 282, 283, 171, 172, 173, 757, 758, 759, 760, 761, 762, 763, 799, 800, 801, 802, 803, 804, 805, 806, 807, 808, 809, 810, 811, 812, 813, 814, 815, 816] (by decide +kernel) (by decide +kernel)
set_option maxRecDepth 20000 in
theorem gL_law_X3_burden : GoodIn wsL_law (wsV RL 44 RX3 yX3_burden wsX3_burden) := goodIn_app (goodIn_of _ (by decide +kernel)) ggL_law_X3_burden
set_option maxRecDepth 20000 in
theorem ggL_law_X4_burden : GoodIn wsL_law wsX4_burden := goodIn_r _ [380, 185, 381, 382, 383, 5, 384, 191, 364, 365, 366, 367, 69, 265, 266, 267, 268, 71, 70, 342, 343, 344, 345, 189, 192, 346, 347, 348, 349, 187, 66, 68, 67, 764, 765, 766, 767, 768, 769, 770, 771, 772, 773, 774, 775, 776, 777, 778, 779, 780, 781, 782, 783, 784, 785, 786, 787, 788, 789, 790, 791, 792, 793, 794, 795] (by decide +kernel) (by decide +kernel)
set_option maxRecDepth 20000 in
theorem gL_law_X4_burden : GoodIn wsL_law (wsV RL 48 RX4 yX4_burden wsX4_burden) := goodIn_app (goodIn_of _ (by decide +kernel)) ggL_law_X4_burden
set_option maxRecDepth 20000 in
theorem ggL_law_X3_told : GoodIn wsL_law wsX3_told := goodIn_r _ [388, 26, 23, 296, 389, 390, 90, 91, 92, 2, 93, 13, 94, 95, 96, 97, 98, 99, 28, 100, 60, 101, 102, 103, 104, 105, 106, 107, 108, 61, 109, 110, 111, 112, 252, 118, 119, 306, 307, 308, 22, 309, 51, 372, 373, 374, 375, 52, 376, 355, 356, 357, 40, 358, 254, 255, 256, 39, 38, 359, 323, 324, 325, 42, 45, 326, 327, 328, 329, 53, 330, 331, 332, 333, 281, 282, 283, 171, 172, 173, 757, 758, 759, 760, 761, 762, 763, 799, 800, 801, 802, 803, 804, 805, 806, 807, 808, 809, 810, 811, 812, 813, 814, 815, 816, 817, 818, 819] (by decide +kernel) (by decide +kernel)
set_option maxRecDepth 20000 in
theorem gL_law_X3_told : GoodIn wsL_law (wsV RL 49 RX3 yX3_told wsX3_told) := goodIn_app (goodIn_of _ (by decide +kernel)) ggL_law_X3_told
set_option maxRecDepth 20000 in
theorem ggL_law_X4_told : GoodIn wsL_law wsX4_told := goodIn_r _ [394, 182, 185, 189, 82, 197, 68, 194, 195, 5, 196, 198, 199, 200, 201, 202, 203, 204, 205, 206, 207, 208, 209, 80, 81, 210, 211, 212, 213, 214, 215, 216, 395, 396, 397, 398, 381, 382, 383, 384, 191, 364, 365, 366, 367, 69, 265, 266, 267, 268, 71, 70, 342, 343, 344, 345, 192, 346, 347, 348, 349, 187, 66, 67, 399, 400, 401, 402, 764, 765, 766, 767, 768, 769, 770, 771, 772, 773, 774, 775, 776, 777, 778, 779, 780, 781, 782, 783, 784, 785, 786, 787, 788, 789, 790, 791, 792, 793, 794, 795] (by decide +kernel) (by decide +kernel)
set_option maxRecDepth 20000 in
theorem gL_law_X4_told : GoodIn wsL_law (wsV RL 52 RX4 yX4_told wsX4_told) := goodIn_app (goodIn_of _ (by decide +kernel)) ggL_law_X4_told
set_option maxRecDepth 20000 in
theorem ggL_law_X3_vote : GoodIn wsL_law wsX3_vote := goodIn_r _ [406, 23, 275, 248, 249, 250, 22, 251, 52, 276, 277, 278, 279, 51, 407, 408, 409, 410, 170, 411, 307, 308, 309, 376, 355, 356, 357, 40, 358, 254, 255, 256, 39, 38, 118, 2, 119, 359, 323, 324, 325, 42, 45, 326, 327, 328, 329, 53, 330, 331, 332, 333, 281, 282, 283, 171, 172, 173, 757, 758, 759, 760, 761, 762, 763, 799, 800, 801, 802, 803, 804, 805, 806, 807, 808, 809, 810, 811, 812, 813, 814, 815, 816] (by decide +kernel) (by decide +kernel)
set_option maxRecDepth 20000 in
theorem gL_law_X3_vote : GoodIn wsL_law (wsV RL 53 RX3 yX3_vote wsX3_vote) := goodIn_app (goodIn_of _ (by decide +kernel)) ggL_law_X3_vote
set_option maxRecDepth 20000 in
theorem ggL_law_X4_vote : GoodIn wsL_law wsX4_vote := goodIn_r _ [415, 261, 262, 263, 5, 264, 191, 198, 199, 200, 288, 289, 290, 291, 189, 416, 417, 418, 419, 68, 364, 365, 366, 367, 69, 265, 266, 267, 268, 71, 70, 342, 343, 344, 345, 192, 346, 347, 348, 349, 187, 66, 67, 764, 765, 766, 767, 768, 769, 770, 771, 772, 773, 774, 775, 776, 777, 778, 779, 780, 781, 782, 783, 784, 785, 786, 787, 788, 789, 790, 791, 792, 793, 794, 795] (by decide +kernel) (by decide +kernel)
set_option maxRecDepth 20000 in
theorem gL_law_X4_vote : GoodIn wsL_law (wsV RL 56 RX4 yX4_vote wsX4_vote) := goodIn_app (goodIn_of _ (by decide +kernel)) ggL_law_X4_vote
set_option maxRecDepth 20000 in
theorem ggL_law_X3_ballot : GoodIn wsL_law wsX3_ballot := goodIn_r _ [423, 23, 275, 276, 277, 278, 22, 279, 51, 424, 425, 426, 427, 428, 429, 430, 431, 52, 46, 432, 408, 409, 410, 170, 411, 307, 308, 309, 376, 355, 356, 357, 40, 358, 254, 255, 256, 39, 38, 118, 2, 119, 359, 323, 324, 325, 42, 45, 326, 327, 328, 329, 53, 330, 331, 332, 333, 281, 282, 283, 171, 172, 173, 120, 121, 433, 434, 435, 436, 757, 758, 759, 760, 761, 762, 763, 799, 800, 801, 802, 803, 804, 805, 806, 807, 808, 809, 810, 811, 812, 813, 814, 815, 816] (by decide +kernel) (by decide +kernel)
set_option maxRecDepth 20000 in
theorem gL_law_X3_ballot : GoodIn wsL_law (wsV RL 57 RX3 yX3_ballot wsX3_ballot) := goodIn_app (goodIn_of _ (by decide +kernel)) ggL_law_X3_ballot
set_option maxRecDepth 20000 in
theorem ggL_law_X4_ballot : GoodIn wsL_law wsX4_ballot := goodIn_r _ [440, 288, 289, 290, 5, 291, 189, 198, 199, 200, 441, 442, 443, 444, 191, 445, 446, 447, 416, 417, 418, 419, 68, 364, 365, 366, 367, 69, 265, 266, 267, 268, 71, 70, 342, 343, 344, 345, 192, 346, 347, 348, 349, 187, 66, 67, 764, 765, 766, 767, 768, 769, 770, 771, 772, 773, 774, 775, 776, 777, 778, 779, 780, 781, 782, 783, 784, 785, 786, 787, 788, 789, 790, 791, 792, 793, 794, 795] (by decide +kernel) (by decide +kernel)
set_option maxRecDepth 20000 in
theorem gL_law_X4_ballot : GoodIn wsL_law (wsV RL 60 RX4 yX4_ballot wsX4_ballot) := goodIn_app (goodIn_of _ (by decide +kernel)) ggL_law_X4_ballot
set_option maxRecDepth 20000 in
theorem ggL_law_X3_year : GoodIn wsL_law wsX3_year := goodIn_r _ [451, 23, 296, 275, 389, 452, 453, 454, 22, 455, 51, 428, 429, 430, 431, 52, 46, 432, 408, 409, 410, 170, 411, 307, 308, 309, 376, 355, 356, 357, 40, 358, 254, 255, 256, 39, 38, 118, 2, 119, 359, 323, 324, 325, 42, 45, 326, 327, 328, 329, 53, 330, 331, 332, 333, 281, 282, 283, 171, 172, 173, 120, 121, 433, 434, 435, 436, 280, 757, 758, 759, 760, 761, 762, 763, 799, 800, 801, 802, 803, 804, 805, 806, 807, 808, 809, 810, 811, 812, 813, 814, 815, 816] (by decide +kernel) (by decide +kernel)
set_option maxRecDepth 20000 in
theorem gL_law_X3_year : GoodIn wsL_law (wsV RL 61 RX3 yX3_year wsX3_year) := goodIn_app (goodIn_of _ (by decide +kernel)) ggL_law_X3_year
set_option maxRecDepth 20000 in
theorem ggL_law_X4_year : GoodIn wsL_law wsX4_year := goodIn_r _ [459, 185, 460, 461, 462, 5, 463, 189, 68, 441, 442, 443, 444, 191, 445, 446, 447, 416, 417, 418, 419, 364, 365, 366, 367, 69, 265, 266, 267, 268, 71, 70, 342, 343, 344, 345, 192, 346, 347, 348, 349, 187, 66, 67, 764, 765, 766, 767, 768, 769, 770, 771, 772, 773, 774, 775, 776, 777, 778, 779, 780, 781, 782, 783, 784, 785, 786, 787, 788, 789, 790, 791, 792, 793, 794, 795] (by decide +kernel) (by decide +kernel)
set_option maxRecDepth 20000 in
theorem gL_law_X4_year : GoodIn wsL_law (wsV RL 64 RX4 yX4_year wsX4_year) := goodIn_app (goodIn_of _ (by decide +kernel)) ggL_law_X4_year
set_option maxRecDepth 20000 in
theorem ggL_law_X3_round : GoodIn wsL_law wsX3_round := goodIn_r _ [467, 23, 296, 19, 275, 94, 95, 2, 96, 468, 469, 470, 471, 252, 118, 119, 472, 120, 121, 452, 453, 454, 22, 455, 51, 428, 429, 430, 431, 52, 46, 432, 408, 409, 410, 170, 411, 307, 308, 309, 376, 355, 356, 357, 40, 358, 254, 255, 256, 39, 38, 359, 323, 324, 325, 42, 45, 326, 327, 328, 329, 53, 330, 331, 332, 333, 281, 282, 283, 171, 172, 173, 433, 434, 435, 436, 757, 758, 759, 760, 761, 762, 763, 799, 800, 801, 802, 803, 804, 805, 806, 807, 808, 809, 810, 811, 812, 813, 814, 815, 816] (by decide +kernel) (by decide +kernel)
set_option maxRecDepth 20000 in
theorem gL_law_X3_round : GoodIn wsL_law (wsV RL 65 RX3 yX3_round wsX3_round) := goodIn_app (goodIn_of _ (by decide +kernel)) ggL_law_X3_round
set_option maxRecDepth 20000 in
theorem ggL_law_X4_round : GoodIn wsL_law wsX4_round := goodIn_r _ [476, 185, 77, 198, 199, 5, 200, 395, 396, 397, 398, 189, 68, 460, 461, 462, 463, 441, 442, 443, 444, 191, 445, 446, 447, 416, 417, 418, 419, 364, 365, 366, 367, 69, 265, 266, 267, 268, 71, 70, 342, 343, 344, 345, 192, 346, 347, 348, 349, 187, 66, 67, 399, 400, 401, 402, 764, 765, 766, 767, 768, 769, 770, 771, 772, 773, 774, 775, 776, 777, 778, 779, 780, 781, 782, 783, 784, 785, 786, 787, 788, 789, 790, 791, 792, 793, 794, 795] (by decide +kernel) (by decide +kernel)
set_option maxRecDepth 20000 in
theorem gL_law_X4_round : GoodIn wsL_law (wsV RL 68 RX4 yX4_round wsX4_round) := goodIn_app (goodIn_of _ (by decide +kernel)) ggL_law_X4_round
set_option maxRecDepth 20000 in
theorem ggL_law_X3_best : GoodIn wsL_law wsX3_best := goodIn_r _ [480, 481, 482, 483, 2, 484, 23, 296, 485, 486, 487, 22, 488, 170, 489, 490, 491, 492, 51, 493, 494, 495, 496, 52, 326, 327, 328, 329, 376, 355, 356, 357, 40, 358, 254, 255, 256, 39, 38, 118, 119, 359, 323, 324, 325, 42, 45, 53, 330, 331, 332, 333, 281, 282, 283, 171, 172, 173, 497, 373, 374, 375, 498, 372, 499, 500, 501, 502, 276, 277, 278, 279, 280, 757, 758, 759, 760, 761, 762, 763, 799, 800, 801, 802, 803, 804, 805, 806, 807, 808, 809, 810, 811, 812, 813, 814, 815, 816] (by decide +kernel) (by decide +kernel)
set_option maxRecDepth 20000 in
theorem gL_law_X3_best : GoodIn wsL_law (wsV RL 69 RX3 yX3_best wsX3_best) := goodIn_app (goodIn_of _ (by decide +kernel)) ggL_law_X3_best
set_option maxRecDepth 20000 in
theorem ggL_law_X4_best : GoodIn wsL_law wsX4_best := goodIn_r _ [506, 185, 507, 508, 509, 510, 5, 511, 395, 396, 397, 398, 189, 68, 512, 513, 514, 515, 399, 400, 401, 402, 381, 382, 383, 384, 191, 364, 365, 366, 367, 69, 265, 266, 267, 268, 71, 70, 342, 343, 344, 345, 192, 346, 347, 348, 349, 187, 66, 67, 516, 517, 518, 519, 288, 289, 290, 291, 198, 199, 200, 520, 521, 522, 523, 764, 765, 766, 767, 768, 769, 770, 771, 772, 773, 774, 775, 776, 777, 778, 779, 780, 781, 782, 783, 784, 785, 786, 787, 788, 789, 790, 791, 792, 793, 794, 795] (by decide +kernel) (by decide +kernel)
set_option maxRecDepth 20000 in
theorem gL_law_X4_best : GoodIn wsL_law (wsV RL 72 RX4 yX4_best wsX4_best) := goodIn_app (goodIn_of _ (by decide +kernel)) ggL_law_X4_best
set_option maxRecDepth 20000 in
theorem ggL_law_X3_calm : GoodIn wsL_law wsX3_calm := goodIn_r _ [527, 481, 482, 483, 2, 484, 23, 296, 485, 486, 487, 22, 488, 170, 489, 490, 491, 492, 51, 493, 494, 495, 496, 52, 326, 327, 328, 329, 376, 355, 356, 357, 40, 358, 254, 255, 256, 39, 38, 118, 119, 359, 323, 324, 325, 42, 45, 53, 330, 331, 332, 333, 281, 282, 283, 171, 172, 173, 497, 373, 374, 375, 498, 372, 499, 500, 501, 502, 276, 277, 278, 279, 280, 757, 758, 759, 760, 761, 762, 763, 799, 800, 801, 802, 803, 804, 805, 806, 807, 808, 809, 810, 811, 812, 813, 814, 815, 816] (by decide +kernel) (by decide +kernel)
set_option maxRecDepth 20000 in
theorem gL_law_X3_calm : GoodIn wsL_law (wsV RL 73 RX3 yX3_calm wsX3_calm) := goodIn_app (goodIn_of _ (by decide +kernel)) ggL_law_X3_calm
set_option maxRecDepth 20000 in
theorem ggL_law_X4_calm : GoodIn wsL_law wsX4_calm := goodIn_r _ [531, 185, 507, 508, 509, 510, 5, 511, 395, 396, 397, 398, 189, 68, 512, 513, 514, 515, 399, 400, 401, 402, 381, 382, 383, 384, 191, 364, 365, 366, 367, 69, 265, 266, 267, 268, 71, 70, 342, 343, 344, 345, 192, 346, 347, 348, 349, 187, 66, 67, 516, 517, 518, 519, 288, 289, 290, 291, 198, 199, 200, 520, 521, 522, 523, 764, 765, 766, 767, 768, 769, 770, 771, 772, 773, 774, 775, 776, 777, 778, 779, 780, 781, 782, 783, 784, 785, 786, 787, 788, 789, 790, 791, 792, 793, 794, 795] (by decide +kernel) (by decide +kernel)
set_option maxRecDepth 20000 in
theorem gL_law_X4_calm : GoodIn wsL_law (wsV RL 76 RX4 yX4_calm wsX4_calm) := goodIn_app (goodIn_of _ (by decide +kernel)) ggL_law_X4_calm
set_option maxRecDepth 20000 in
theorem ggL_law_X3_bribe : GoodIn wsL_law wsX3_bribe := goodIn_r _ [535, 23, 276, 277, 278, 22, 279, 51, 94, 95, 2, 96, 536, 537, 538, 539, 54, 52, 428, 429, 430, 431, 46, 432, 408, 409, 410, 170, 411, 307, 308, 309, 376, 355, 356, 357, 40, 358, 254, 255, 256, 39, 38, 118, 119, 359, 323, 324, 325, 42, 45, 326, 327, 328, 329, 53, 330, 331, 332, 333, 281, 282, 283, 171, 172, 173, 120, 121, 540, 541, 542, 543, 544, 545, 546, 433, 434, 435, 436, 757, 758, 759, 760, 761, 762, 763, 799, 800, 801, 802, 803, 804, 805, 806, 807, 808, 809, 810, 811, 812, 813, 814, 815, 816] (by decide +kernel) (by decide +kernel)
set_option maxRecDepth 20000 in
theorem gL_law_X3_bribe : GoodIn wsL_law (wsV RL 77 RX3 yX3_bribe wsX3_bribe) := goodIn_app (goodIn_of _ (by decide +kernel)) ggL_law_X3_bribe
set_option maxRecDepth 20000 in
theorem ggL_law_X4_bribe : GoodIn wsL_law wsX4_bribe := goodIn_r _ [550, 197, 191, 288, 289, 290, 5, 291, 189, 198, 199, 200, 551, 552, 553, 441, 442, 443, 444, 445, 446, 447, 416, 417, 418, 419, 68, 364, 365, 366, 367, 69, 265, 266, 267, 268, 71, 70, 342, 343, 344, 345, 192, 346, 347, 348, 349, 187, 66, 67, 764, 765, 766, 767, 768, 769, 770, 771, 772, 773, 774, 775, 776, 777, 778, 779, 780, 781, 782, 783, 784, 785, 786, 787, 788, 789, 790, 791, 792, 793, 794, 795] (by decide +kernel) (by decide +kernel)
set_option maxRecDepth 20000 in
theorem gL_law_X4_bribe : GoodIn wsL_law (wsV RL 80 RX4 yX4_bribe wsX4_bribe) := goodIn_app (goodIn_of _ (by decide +kernel)) ggL_law_X4_bribe
set_option maxRecDepth 20000 in
theorem ggL_law_X3_reading : GoodIn wsL_law wsX3_reading := goodIn_r _ [557, 23, 558, 559, 560, 318, 319, 320, 22, 321, 50, 94, 95, 2, 96, 472, 120, 121, 757, 758, 759, 760, 761, 762, 763, 799, 800, 801, 802, 803, 804, 805, 806, 807, 808, 809, 810, 811, 812, 813, 814, 815, 816] (by decide +kernel) (by decide +kernel)
set_option maxRecDepth 20000 in
theorem gL_law_X3_reading : GoodIn wsL_law (wsV RL 81 RX3 yX3_reading wsX3_reading) := goodIn_app (goodIn_of _ (by decide +kernel)) ggL_law_X3_reading
set_option maxRecDepth 20000 in
theorem ggL_law_X4_reading : GoodIn wsL_law wsX4_reading := goodIn_r _ [564, 565, 193, 78, 79, 338, 339, 340, 5, 341, 185, 187, 198, 199, 200, 764, 765, 766, 767, 768, 769, 770, 771, 772, 773, 774, 775, 776, 777, 778, 779, 780, 781, 782, 783, 784, 785, 786, 787, 788, 789, 790, 791, 792, 793, 794, 795] (by decide +kernel) (by decide +kernel)
set_option maxRecDepth 20000 in
theorem gL_law_X4_reading : GoodIn wsL_law (wsV RL 84 RX4 yX4_reading wsX4_reading) := goodIn_app (goodIn_of _ (by decide +kernel)) ggL_law_X4_reading
set_option maxRecDepth 20000 in
theorem ggL_law_X3_back : GoodIn wsL_law wsX3_back := goodIn_r _ [569, 23, 558, 94, 95, 2, 96, 757, 758, 759, 760, 761, 762, 763, 799, 800, 801, 802, 803, 804, 805, 806, 807, 808, 809, 810, 811, 812, 813, 814, 815, 816] (by decide +kernel) (by decide +kernel)
set_option maxRecDepth 20000 in
theorem gL_law_X3_back : GoodIn wsL_law (wsV RL 85 RX3 yX3_back wsX3_back) := goodIn_app (goodIn_of _ (by decide +kernel)) ggL_law_X3_back
set_option maxRecDepth 20000 in
theorem ggL_law_X4_back : GoodIn wsL_law wsX4_back := goodIn_r _ [573, 193, 198, 199, 5, 200, 764, 765, 766, 767, 768, 769, 770, 771, 772, 773, 774, 775, 776, 777, 778, 779, 780, 781, 782, 783, 784, 785, 786, 787, 788, 789, 790, 791, 792, 793, 794, 795] (by decide +kernel) (by decide +kernel)
set_option maxRecDepth 20000 in
theorem gL_law_X4_back : GoodIn wsL_law (wsV RL 88 RX4 yX4_back wsX4_back) := goodIn_app (goodIn_of _ (by decide +kernel)) ggL_law_X4_back
set_option maxRecDepth 20000 in
theorem ggL_law_X3_settings : GoodIn wsL_law wsX3_settings := goodIn_r _ [577, 23, 296, 578, 490, 491, 22, 492, 51, 579, 580, 581, 582, 55, 43, 44, 118, 2, 119, 359, 323, 324, 325, 42, 45, 326, 327, 328, 329, 53, 330, 331, 332, 333, 281, 282, 283, 171, 172, 173, 499, 500, 501, 502, 276, 277, 278, 279, 280, 757, 758, 759, 760, 761, 762, 763, 799, 800, 801, 802, 803, 804, 805, 806, 807, 808, 809, 810, 811, 812, 813, 814, 815, 816] (by decide +kernel) (by decide +kernel)
set_option maxRecDepth 20000 in
theorem gL_law_X3_settings : GoodIn wsL_law (wsV RL 89 RX3 yX3_settings wsX3_settings) := goodIn_app (goodIn_of _ (by decide +kernel)) ggL_law_X3_settings
set_option maxRecDepth 20000 in
theorem ggL_law_X4_settings : GoodIn wsL_law wsX4_settings := goodIn_r _ [586, 185, 395, 396, 397, 5, 398, 189, 68, 512, 513, 514, 515, 399, 400, 401, 402, 587, 588, 589, 590, 193, 78, 79, 342, 343, 344, 345, 192, 346, 347, 348, 349, 187, 66, 67, 288, 289, 290, 291, 198, 199, 200, 520, 521, 522, 523, 764, 765, 766, 767, 768, 769, 770, 771, 772, 773, 774, 775, 776, 777, 778, 779, 780, 781, 782, 783, 784, 785, 786, 787, 788, 789, 790, 791, 792, 793, 794, 795] (by decide +kernel) (by decide +kernel)
set_option maxRecDepth 20000 in
theorem gL_law_X4_settings : GoodIn wsL_law (wsV RL 92 RX4 yX4_settings wsX4_settings) := goodIn_app (goodIn_of _ (by decide +kernel)) ggL_law_X4_settings
set_option maxRecDepth 20000 in
theorem ggL_law_X3_laws : GoodIn wsL_law wsX3_laws := goodIn_r _ [594, 23, 296, 297, 275, 579, 580, 581, 22, 582, 55, 43, 44, 118, 2, 119, 359, 323, 324, 325, 51, 42, 45, 326, 327, 328, 329, 53, 330, 331, 332, 333, 281, 282, 283, 171, 172, 173, 757, 758, 759, 760, 761, 762, 763, 799, 800, 801, 802, 803, 804, 805, 806, 807, 808, 809, 810, 811, 812, 813, 814, 815, 816] (by decide +kernel) (by decide +kernel)
set_option maxRecDepth 20000 in
theorem gL_law_X3_laws : GoodIn wsL_law (wsV RL 93 RX3 yX3_laws wsX3_laws) := goodIn_app (goodIn_of _ (by decide +kernel)) ggL_law_X3_laws
set_option maxRecDepth 20000 in
theorem ggL_law_X4_laws : GoodIn wsL_law wsX4_laws := goodIn_r _ [598, 185, 192, 587, 588, 589, 5, 590, 193, 78, 79, 342, 343, 344, 345, 189, 346, 347, 348, 349, 187, 66, 68, 67, 764, 765, 766, 767, 768, 769, 770, 771, 772, 773, 774, 775, 776, 777, 778, 779, 780, 781, 782, 783, 784, 785, 786, 787, 788, 789, 790, 791, 792, 793, 794, 795] (by decide +kernel) (by decide +kernel)
set_option maxRecDepth 20000 in
theorem gL_law_X4_laws : GoodIn wsL_law (wsV RL 96 RX4 yX4_laws wsX4_laws) := goodIn_app (goodIn_of _ (by decide +kernel)) ggL_law_X4_laws
set_option maxRecDepth 20000 in
theorem ggL_law_X3_powers : GoodIn wsL_law wsX3_powers := goodIn_r _ [602, 23, 274, 275, 276, 277, 278, 22, 279, 51, 252, 118, 2, 119, 472, 120, 121, 579, 580, 581, 582, 55, 43, 44, 359, 323, 324, 325, 42, 45, 326, 327, 328, 329, 53, 330, 331, 332, 333, 281, 282, 283, 171, 172, 173, 757, 758, 759, 760, 761, 762, 763, 799, 800, 801, 802, 803, 804, 805, 806, 807, 808, 809, 810, 811, 812, 813, 814, 815, 816] (by decide +kernel) (by decide +kernel)
set_option maxRecDepth 20000 in
theorem gL_law_X3_powers : GoodIn wsL_law (wsV RL 97 RX3 yX3_powers wsX3_powers) := goodIn_app (goodIn_of _ (by decide +kernel)) ggL_law_X3_powers
set_option maxRecDepth 20000 in
theorem ggL_law_X4_powers : GoodIn wsL_law wsX4_powers := goodIn_r _ [606, 67, 288, 289, 290, 5, 291, 189, 198, 199, 200, 587, 588, 589, 590, 193, 78, 79, 342, 343, 344, 345, 192, 346, 347, 348, 349, 187, 66, 68, 764, 765, 766, 767, 768, 769, 770, 771, 772, 773, 774, 775, 776, 777, 778, 779, 780, 781, 782, 783, 784, 785, 786, 787, 788, 789, 790, 791, 792, 793, 794, 795] (by decide +kernel) (by decide +kernel)
set_option maxRecDepth 20000 in
theorem gL_law_X4_powers : GoodIn wsL_law (wsV RL 100 RX4 yX4_powers wsX4_powers) := goodIn_app (goodIn_of _ (by decide +kernel)) ggL_law_X4_powers
set_option maxRecDepth 20000 in
theorem ggL_law_X3_odds : GoodIn wsL_law wsX3_odds := goodIn_r _ [610, 23, 611, 318, 319, 320, 22, 321, 50, 94, 95, 2, 96, 578, 490, 491, 492, 51, 322, 323, 324, 325, 42, 45, 326, 327, 328, 329, 53, 330, 331, 332, 333, 281, 282, 283, 171, 172, 173, 118, 119, 757, 758, 759, 760, 761, 762, 763, 799, 800, 801, 802, 803, 804, 805, 806, 807, 808, 809, 810, 811, 812, 813, 814, 815, 816] (by decide +kernel) (by decide +kernel)
set_option maxRecDepth 20000 in
theorem gL_law_X3_odds : GoodIn wsL_law (wsV RL 101 RX3 yX3_odds wsX3_odds) := goodIn_app (goodIn_of _ (by decide +kernel)) ggL_law_X3_odds
set_option maxRecDepth 20000 in
theorem ggL_law_X4_odds : GoodIn wsL_law wsX4_odds := goodIn_r _ [615, 565, 338, 339, 340, 5, 341, 185, 187, 198, 199, 200, 616, 617, 618, 619, 395, 396, 397, 398, 189, 68, 512, 513, 514, 515, 399, 400, 401, 402, 342, 343, 344, 345, 192, 346, 347, 348, 349, 66, 67, 620, 621, 622, 764, 765, 766, 767, 768, 769, 770, 771, 772, 773, 774, 775, 776, 777, 778, 779, 780, 781, 782, 783, 784, 785, 786, 787, 788, 789, 790, 791, 792, 793, 794, 795] (by decide +kernel) (by decide +kernel)
set_option maxRecDepth 20000 in
theorem gL_law_X4_odds : GoodIn wsL_law (wsV RL 105 RX4 yX4_odds wsX4_odds) := goodIn_app (goodIn_of _ (by decide +kernel)) ggL_law_X4_odds
set_option maxRecDepth 20000 in
theorem ggL_law_X3_sheet : GoodIn wsL_law wsX3_sheet := goodIn_r _ [626, 26, 90, 91, 92, 2, 93, 13, 94, 95, 96, 109, 110, 111, 112, 627, 628, 629, 28, 630, 60, 61, 59, 631, 469, 470, 471, 757, 758, 759, 760, 761, 762, 763, 817, 818, 819] (by decide +kernel) (by decide +kernel)
set_option maxRecDepth 20000 in
theorem gL_law_X3_sheet : GoodIn wsL_law (wsV RL 106 RX3 yX3_sheet wsX3_sheet) := goodIn_app (goodIn_of _ (by decide +kernel)) ggL_law_X3_sheet
set_option maxRecDepth 20000 in
theorem ggL_law_X4_sheet : GoodIn wsL_law wsX4_sheet := goodIn_r _ [635, 182, 80, 81, 82, 194, 195, 5, 196, 197, 198, 199, 200, 201, 202, 203, 204, 205, 210, 211, 212, 213, 764, 765, 766, 767, 768, 769, 770, 771, 772, 773, 774, 775, 776, 777, 778, 779, 780, 781, 782, 783, 784, 785, 786, 787, 788, 789, 790, 791, 792, 793, 794, 795] (by decide +kernel) (by decide +kernel)
set_option maxRecDepth 20000 in
theorem gL_law_X4_sheet : GoodIn wsL_law (wsV RL 110 RX4 yX4_sheet wsX4_sheet) := goodIn_app (goodIn_of _ (by decide +kernel)) ggL_law_X4_sheet
set_option maxRecDepth 20000 in
theorem ggL_law_X3_lose : GoodIn wsL_law wsX3_lose := goodIn_r _ [639, 90, 91, 92, 2, 93, 13, 640, 102, 103, 28, 104, 60, 627, 628, 629, 630, 61, 59, 631, 469, 470, 471, 757, 758, 759, 760, 761, 762, 763, 817, 818, 819] (by decide +kernel) (by decide +kernel)
set_option maxRecDepth 20000 in
theorem gL_law_X3_lose : GoodIn wsL_law (wsV RL 111 RX3 yX3_lose wsX3_lose) := goodIn_app (goodIn_of _ (by decide +kernel)) ggL_law_X3_lose
set_option maxRecDepth 20000 in
theorem ggL_law_X4_lose : GoodIn wsL_law wsX4_lose := goodIn_r _ [644, 80, 194, 195, 5, 196, 197, 198, 199, 200, 764, 765, 766, 767, 768, 769, 770, 771, 772, 773, 774, 775, 776, 777, 778, 779, 780, 781, 782, 783, 784, 785, 786, 787, 788, 789, 790, 791, 792, 793, 794, 795] (by decide +kernel) (by decide +kernel)
set_option maxRecDepth 20000 in
theorem gL_law_X4_lose : GoodIn wsL_law (wsV RL 114 RX4 yX4_lose wsX4_lose) := goodIn_app (goodIn_of _ (by decide +kernel)) ggL_law_X4_lose
set_option maxRecDepth 20000 in
theorem ggL_law_X3_put : GoodIn wsL_law wsX3_put := goodIn_r _ [648, 26, 649, 390, 90, 91, 92, 2, 93, 13, 97, 98, 99, 28, 100, 60, 101, 102, 103, 104, 105, 106, 107, 108, 61, 109, 110, 111, 112, 650, 651, 652, 653, 472, 120, 121, 757, 758, 759, 760, 761, 762, 763, 817, 818, 819] (by decide +kernel) (by decide +kernel)
set_option maxRecDepth 20000 in
theorem gL_law_X3_put : GoodIn wsL_law (wsV RL 115 RX3 yX3_put wsX3_put) := goodIn_app (goodIn_of _ (by decide +kernel)) ggL_law_X3_put
set_option maxRecDepth 20000 in
theorem ggL_law_X4_put : GoodIn wsL_law wsX4_put := goodIn_r _ [657, 82, 81, 194, 195, 5, 196, 197, 198, 199, 200, 201, 202, 203, 204, 205, 658, 659, 660, 661, 80, 210, 211, 212, 213, 764, 765, 766, 767, 768, 769, 770, 771, 772, 773, 774, 775, 776, 777, 778, 779, 780, 781, 782, 783, 784, 785, 786, 787, 788, 789, 790, 791, 792, 793, 794, 795] (by decide +kernel) (by decide +kernel)
set_option maxRecDepth 20000 in
theorem gL_law_X4_put : GoodIn wsL_law (wsV RL 118 RX4 yX4_put wsX4_put) := goodIn_app (goodIn_of _ (by decide +kernel)) ggL_law_X4_put
set_option maxRecDepth 20000 in
theorem ggL_law_X3_cell : GoodIn wsL_law wsX3_cell := goodIn_r _ [665, 26, 611, 390, 90, 91, 92, 2, 93, 13, 94, 95, 96, 97, 98, 99, 28, 100, 60, 101, 102, 103, 104, 105, 106, 107, 108, 61, 252, 118, 119, 757, 758, 759, 760, 761, 762, 763, 817, 818, 819] (by decide +kernel) (by decide +kernel)
set_option maxRecDepth 20000 in
theorem gL_law_X3_cell : GoodIn wsL_law (wsV RL 119 RX3 yX3_cell wsX3_cell) := goodIn_app (goodIn_of _ (by decide +kernel)) ggL_law_X3_cell
set_option maxRecDepth 20000 in
theorem ggL_law_X4_cell : GoodIn wsL_law wsX4_cell := goodIn_r _ [669, 205, 182, 80, 81, 82, 194, 195, 5, 196, 197, 198, 199, 200, 616, 617, 618, 619, 670, 671, 672, 673, 658, 659, 660, 661, 764, 765, 766, 767, 768, 769, 770, 771, 772, 773, 774, 775, 776, 777, 778, 779, 780, 781, 782, 783, 784, 785, 786, 787, 788, 789, 790, 791, 792, 793, 794, 795] (by decide +kernel) (by decide +kernel)
set_option maxRecDepth 20000 in
theorem gL_law_X4_cell : GoodIn wsL_law (wsV RL 122 RX4 yX4_cell wsX4_cell) := goodIn_app (goodIn_of _ (by decide +kernel)) ggL_law_X4_cell
set_option maxRecDepth 20000 in
theorem ggL_law_X3_copy : GoodIn wsL_law wsX3_copy := goodIn_r _ [677, 26, 649, 390, 678, 679, 680, 681, 90, 91, 92, 2, 93, 13, 640, 102, 103, 28, 104, 60, 109, 110, 111, 112, 682, 106, 107, 108, 61, 757, 758, 759, 760, 761, 762, 763, 817, 818, 819] (by decide +kernel) (by decide +kernel)
set_option maxRecDepth 20000 in
theorem gL_law_X3_copy : GoodIn wsL_law (wsV RL 123 RX3 yX3_copy wsX3_copy) := goodIn_app (goodIn_of _ (by decide +kernel)) ggL_law_X3_copy
set_option maxRecDepth 20000 in
theorem ggL_law_X4_copy : GoodIn wsL_law wsX4_copy := goodIn_r _ [686, 80, 81, 83, 82, 194, 195, 5, 196, 197, 198, 199, 200, 201, 202, 203, 204, 205, 210, 211, 212, 213, 214, 215, 216, 764, 765, 766, 767, 768, 769, 770, 771, 772, 773, 774, 775, 776, 777, 778, 779, 780, 781, 782, 783, 784, 785, 786, 787, 788, 789, 790, 791, 792, 793, 794, 795] (by decide +kernel) (by decide +kernel)
set_option maxRecDepth 20000 in
theorem gL_law_X4_copy : GoodIn wsL_law (wsV RL 127 RX4 yX4_copy wsX4_copy) := goodIn_app (goodIn_of _ (by decide +kernel)) ggL_law_X4_copy
set_option maxRecDepth 20000 in
theorem ggL_law_X3_tell : GoodIn wsL_law wsX3_tell := goodIn_r _ [690, 23, 245, 248, 249, 250, 22, 251, 52, 252, 118, 2, 119, 691, 692, 693, 694, 695, 696, 697, 698, 25, 699, 700, 701, 702, 703, 704, 705, 706, 246, 757, 758, 759, 760, 761, 762, 763, 799, 800, 801, 802, 803, 804, 805, 806, 807, 808, 809, 810, 811, 812, 813, 814, 815, 816] (by decide +kernel) (by decide +kernel)
set_option maxRecDepth 20000 in
theorem gL_law_X3_tell : GoodIn wsL_law (wsV RL 128 RX3 yX3_tell wsX3_tell) := goodIn_app (goodIn_of _ (by decide +kernel)) ggL_law_X3_tell
set_option maxRecDepth 20000 in
theorem ggL_law_X4_tell : GoodIn wsL_law wsX4_tell := goodIn_r _ [710, 70, 71, 261, 262, 263, 5, 264, 191, 198, 199, 200, 711, 712, 713, 714, 715, 764, 765, 766, 767, 768, 769, 770, 771, 772, 773, 774, 775, 776, 777, 778, 779, 780, 781, 782, 783, 784, 785, 786, 787, 788, 789, 790, 791, 792, 793, 794, 795] (by decide +kernel) (by decide +kernel)
set_option maxRecDepth 20000 in
theorem gL_law_X4_tell : GoodIn wsL_law (wsV RL 131 RX4 yX4_tell wsX4_tell) := goodIn_app (goodIn_of _ (by decide +kernel)) ggL_law_X4_tell
set_option maxRecDepth 20000 in
theorem ggL_law_X3_woo : GoodIn wsL_law wsX3_woo := goodIn_r _ [719, 23, 245, 248, 249, 250, 22, 251, 52, 252, 118, 2, 119, 695, 696, 697, 698, 25, 757, 758, 759, 760, 761, 762, 763, 799, 800, 801, 802, 803, 804, 805, 806, 807, 808, 809, 810, 811, 812, 813, 814, 815, 816] (by decide +kernel) (by decide +kernel)
set_option maxRecDepth 20000 in
theorem gL_law_X3_woo : GoodIn wsL_law (wsV RL 132 RX3 yX3_woo wsX3_woo) := goodIn_app (goodIn_of _ (by decide +kernel)) ggL_law_X3_woo
set_option maxRecDepth 20000 in
theorem ggL_law_X4_woo : GoodIn wsL_law wsX4_woo := goodIn_r _ [723, 70, 261, 262, 263, 5, 264, 191, 198, 199, 200, 711, 712, 713, 714, 715, 764, 765, 766, 767, 768, 769, 770, 771, 772, 773, 774, 775, 776, 777, 778, 779, 780, 781, 782, 783, 784, 785, 786, 787, 788, 789, 790, 791, 792, 793, 794, 795] (by decide +kernel) (by decide +kernel)
set_option maxRecDepth 20000 in
theorem gL_law_X4_woo : GoodIn wsL_law (wsV RL 135 RX4 yX4_woo wsX4_woo) := goodIn_app (goodIn_of _ (by decide +kernel)) ggL_law_X4_woo
set_option maxRecDepth 20000 in
theorem ggL_law_X3_as : GoodIn wsL_law wsX3_as := goodIn_r _ [727, 26, 23, 245, 248, 249, 250, 22, 251, 52, 94, 95, 2, 96, 252, 118, 119, 109, 110, 111, 112, 757, 758, 759, 760, 761, 762, 763, 799, 800, 801, 802, 803, 804, 805, 806, 807, 808, 809, 810, 811, 812, 813, 814, 815, 816] (by decide +kernel) (by decide +kernel)
set_option maxRecDepth 20000 in
theorem gL_law_X3_as : GoodIn wsL_law (wsV RL 136 RX3 yX3_as wsX3_as) := goodIn_app (goodIn_of _ (by decide +kernel)) ggL_law_X3_as
set_option maxRecDepth 20000 in
theorem ggL_law_X4_as : GoodIn wsL_law wsX4_as := goodIn_r _ [731, 182, 70, 261, 262, 263, 5, 264, 191, 198, 199, 200, 201, 202, 203, 204, 205, 210, 211, 212, 213, 764, 765, 766, 767, 768, 769, 770, 771, 772, 773, 774, 775, 776, 777, 778, 779, 780, 781, 782, 783, 784, 785, 786, 787, 788, 789, 790, 791, 792, 793, 794, 795] (by decide +kernel) (by decide +kernel)
set_option maxRecDepth 20000 in
theorem gL_law_X4_as : GoodIn wsL_law (wsV RL 139 RX4 yX4_as wsX4_as) := goodIn_app (goodIn_of _ (by decide +kernel)) ggL_law_X4_as
set_option maxRecDepth 20000 in
theorem ggL_law_X3_trace : GoodIn wsL_law wsX3_trace := goodIn_r _ [735, 25, 757, 758, 759, 760, 761, 762, 763] (by decide +kernel) (by decide +kernel)
set_option maxRecDepth 20000 in
theorem gL_law_X3_trace : GoodIn wsL_law (wsV RL 140 RX3 yX3_trace wsX3_trace) := goodIn_app (goodIn_of _ (by decide +kernel)) ggL_law_X3_trace
set_option maxRecDepth 20000 in
theorem ggL_law_X4_trace : GoodIn wsL_law wsX4_trace := goodIn_r _ [739, 715, 764, 765, 766, 767, 768, 769, 770, 771, 772, 773, 774, 775, 776, 777, 778, 779, 780, 781, 782, 783, 784, 785, 786, 787, 788, 789, 790, 791, 792, 793, 794, 795] (by decide +kernel) (by decide +kernel)
set_option maxRecDepth 20000 in
theorem gL_law_X4_trace : GoodIn wsL_law (wsV RL 143 RX4 yX4_trace wsX4_trace) := goodIn_app (goodIn_of _ (by decide +kernel)) ggL_law_X4_trace
set_option maxRecDepth 20000 in
theorem ggL_law_X3_fault : GoodIn wsL_law wsX3_fault := goodIn_r _ [743, 26, 757, 758, 759, 760, 761, 762, 763] (by decide +kernel) (by decide +kernel)
set_option maxRecDepth 20000 in
theorem gL_law_X3_fault : GoodIn wsL_law (wsV RL 144 RX3 yX3_fault wsX3_fault) := goodIn_app (goodIn_of _ (by decide +kernel)) ggL_law_X3_fault
set_option maxRecDepth 20000 in
theorem ggL_law_X4_fault : GoodIn wsL_law wsX4_fault := goodIn_r _ [747, 205, 764, 765, 766, 767, 768, 769, 770, 771, 772, 773, 774, 775, 776, 777, 778, 779, 780, 781, 782, 783, 784, 785, 786, 787, 788, 789, 790, 791, 792, 793, 794, 795] (by decide +kernel) (by decide +kernel)
set_option maxRecDepth 20000 in
theorem gL_law_X4_fault : GoodIn wsL_law (wsV RL 147 RX4 yX4_fault wsX4_fault) := goodIn_app (goodIn_of _ (by decide +kernel)) ggL_law_X4_fault
set_option maxRecDepth 20000 in
theorem ggL_law_X3_many : GoodIn wsL_law wsX3_many := goodIn_r _ [751, 23, 752, 389, 89, 297, 558, 757, 758, 759, 760, 761, 762, 763, 799, 800, 801, 802, 803, 804, 805, 806, 807, 808, 809, 810, 811, 812, 813, 814, 815, 816] (by decide +kernel) (by decide +kernel)
set_option maxRecDepth 20000 in
theorem gL_law_X3_many : GoodIn wsL_law (wsV RL 148 RX3 yX3_many wsX3_many) := goodIn_app (goodIn_of _ (by decide +kernel)) ggL_law_X3_many
set_option maxRecDepth 20000 in
theorem ggL_law_X4_many : GoodIn wsL_law wsX4_many := goodIn_r _ [756, 185, 187, 189, 191, 192, 193, 764, 765, 766, 767, 768, 769, 770, 771, 772, 773, 774, 775, 776, 777, 778, 779, 780, 781, 782, 783, 784, 785, 786, 787, 788, 789, 790, 791, 792, 793, 794, 795] (by decide +kernel) (by decide +kernel)
set_option maxRecDepth 20000 in
theorem gL_law_X4_many : GoodIn wsL_law (wsV RL 151 RX4 yX4_many wsX4_many) := goodIn_app (goodIn_of _ (by decide +kernel)) ggL_law_X4_many
end
section
theorem dL_law_0 : decode cL_law 0 = .ok (.new 7, 3) := by decide +kernel
theorem dL_law_3 : decode cL_law 3 = .ok (.dup, 1) := by decide +kernel
theorem dL_law_4 : decode cL_law 4 = .ok (.invokespecial 9, 3) := by decide +kernel
theorem dL_law_7 : decode cL_law 7 = .ok (.astore_n 1, 1) := by decide +kernel
theorem dL_law_8 : decode cL_law 8 = .ok (.new 10, 3) := by decide +kernel
theorem dL_law_11 : decode cL_law 11 = .ok (.dup, 1) := by decide +kernel
theorem dL_law_12 : decode cL_law 12 = .ok (.invokespecial 12, 3) := by decide +kernel
theorem dL_law_15 : decode cL_law 15 = .ok (.astore_n 2, 1) := by decide +kernel
theorem dL_law_16 : decode cL_law 16 = .ok (.iconst 0, 1) := by decide +kernel
theorem dL_law_17 : decode cL_law 17 = .ok (.istore_n 3, 1) := by decide +kernel
theorem dL_law_18 : decode cL_law 18 = .ok (.iload_n 3, 1) := by decide +kernel
theorem dL_law_19 : decode cL_law 19 = .ok (.aload_n 0, 1) := by decide +kernel
theorem dL_law_20 : decode cL_law 20 = .ok (.arraylength, 1) := by decide +kernel
theorem dL_law_21 : decode cL_law 21 = .ok (.bipush 6, 2) := by decide +kernel
theorem dL_law_23 : decode cL_law 23 = .ok (.isub, 1) := by decide +kernel
theorem dL_law_24 : decode cL_law 24 = .ok (.if_icmp .gt 1123, 3) := by decide +kernel
theorem dL_law_27 : decode cL_law 27 = .ok (.aload_n 0, 1) := by decide +kernel
theorem dL_law_28 : decode cL_law 28 = .ok (.iload_n 3, 1) := by decide +kernel
theorem dL_law_29 : decode cL_law 29 = .ok (.iaload, 1) := by decide +kernel
theorem dL_law_30 : decode cL_law 30 = .ok (.bipush 63, 2) := by decide +kernel
theorem dL_law_32 : decode cL_law 32 = .ok (.iand, 1) := by decide +kernel
theorem dL_law_33 : decode cL_law 33 = .ok (.tableswitch 1108 0 32 #[147, 200, 233, 266, 289, 322, 345, 368, 381, 434, 467, 490, 503, 526, 549, 572, 605, 638, 661, 684, 697, 720, 764, 807, 830, 873, 917, 980, 1003, 1026, 1059, 1072, 1085], 147) := by decide +kernel
theorem dL_law_180 : decode cL_law 180 = .ok (.aload_n 1, 1) := by decide +kernel
theorem dL_law_181 : decode cL_law 181 = .ok (.aload_n 0, 1) := by decide +kernel
theorem dL_law_182 : decode cL_law 182 = .ok (.iload_n 3, 1) := by decide +kernel
theorem dL_law_183 : decode cL_law 183 = .ok (.iconst 1, 1) := by decide +kernel
theorem dL_law_184 : decode cL_law 184 = .ok (.iadd, 1) := by decide +kernel
theorem dL_law_185 : decode cL_law 185 = .ok (.iaload, 1) := by decide +kernel
theorem dL_law_186 : decode cL_law 186 = .ok (.aload_n 0, 1) := by decide +kernel
theorem dL_law_187 : decode cL_law 187 = .ok (.iload_n 3, 1) := by decide +kernel
theorem dL_law_188 : decode cL_law 188 = .ok (.iconst 2, 1) := by decide +kernel
theorem dL_law_189 : decode cL_law 189 = .ok (.iadd, 1) := by decide +kernel
theorem dL_law_190 : decode cL_law 190 = .ok (.iaload, 1) := by decide +kernel
theorem dL_law_191 : decode cL_law 191 = .ok (.aload_n 0, 1) := by decide +kernel
theorem dL_law_192 : decode cL_law 192 = .ok (.iload_n 3, 1) := by decide +kernel
theorem dL_law_193 : decode cL_law 193 = .ok (.iconst 3, 1) := by decide +kernel
theorem dL_law_194 : decode cL_law 194 = .ok (.iadd, 1) := by decide +kernel
theorem dL_law_195 : decode cL_law 195 = .ok (.iaload, 1) := by decide +kernel
theorem dL_law_196 : decode cL_law 196 = .ok (.aload_n 0, 1) := by decide +kernel
theorem dL_law_197 : decode cL_law 197 = .ok (.iload_n 3, 1) := by decide +kernel
theorem dL_law_198 : decode cL_law 198 = .ok (.iconst 4, 1) := by decide +kernel
theorem dL_law_199 : decode cL_law 199 = .ok (.iadd, 1) := by decide +kernel
theorem dL_law_200 : decode cL_law 200 = .ok (.iaload, 1) := by decide +kernel
theorem dL_law_201 : decode cL_law 201 = .ok (.invokevirtual 13, 3) := by decide +kernel
theorem dL_law_204 : decode cL_law 204 = .ok (.aload_n 2, 1) := by decide +kernel
theorem dL_law_205 : decode cL_law 205 = .ok (.aload_n 0, 1) := by decide +kernel
theorem dL_law_206 : decode cL_law 206 = .ok (.iload_n 3, 1) := by decide +kernel
theorem dL_law_207 : decode cL_law 207 = .ok (.iconst 1, 1) := by decide +kernel
theorem dL_law_208 : decode cL_law 208 = .ok (.iadd, 1) := by decide +kernel
theorem dL_law_209 : decode cL_law 209 = .ok (.iaload, 1) := by decide +kernel
theorem dL_law_210 : decode cL_law 210 = .ok (.aload_n 0, 1) := by decide +kernel
theorem dL_law_211 : decode cL_law 211 = .ok (.iload_n 3, 1) := by decide +kernel
theorem dL_law_212 : decode cL_law 212 = .ok (.iconst 2, 1) := by decide +kernel
theorem dL_law_213 : decode cL_law 213 = .ok (.iadd, 1) := by decide +kernel
theorem dL_law_214 : decode cL_law 214 = .ok (.iaload, 1) := by decide +kernel
theorem dL_law_215 : decode cL_law 215 = .ok (.aload_n 0, 1) := by decide +kernel
theorem dL_law_216 : decode cL_law 216 = .ok (.iload_n 3, 1) := by decide +kernel
theorem dL_law_217 : decode cL_law 217 = .ok (.iconst 3, 1) := by decide +kernel
theorem dL_law_218 : decode cL_law 218 = .ok (.iadd, 1) := by decide +kernel
theorem dL_law_219 : decode cL_law 219 = .ok (.iaload, 1) := by decide +kernel
theorem dL_law_220 : decode cL_law 220 = .ok (.aload_n 0, 1) := by decide +kernel
theorem dL_law_221 : decode cL_law 221 = .ok (.iload_n 3, 1) := by decide +kernel
theorem dL_law_222 : decode cL_law 222 = .ok (.iconst 4, 1) := by decide +kernel
theorem dL_law_223 : decode cL_law 223 = .ok (.iadd, 1) := by decide +kernel
theorem dL_law_224 : decode cL_law 224 = .ok (.iaload, 1) := by decide +kernel
theorem dL_law_225 : decode cL_law 225 = .ok (.invokevirtual 17, 3) := by decide +kernel
theorem dL_law_228 : decode cL_law 228 = .ok (.if_icmp .eq 913, 3) := by decide +kernel
theorem dL_law_231 : decode cL_law 231 = .ok (.iconst 0, 1) := by decide +kernel
theorem dL_law_232 : decode cL_law 232 = .ok (.ireturn, 1) := by decide +kernel
theorem dL_law_233 : decode cL_law 233 = .ok (.aload_n 1, 1) := by decide +kernel
theorem dL_law_234 : decode cL_law 234 = .ok (.aload_n 0, 1) := by decide +kernel
theorem dL_law_235 : decode cL_law 235 = .ok (.iload_n 3, 1) := by decide +kernel
theorem dL_law_236 : decode cL_law 236 = .ok (.iconst 1, 1) := by decide +kernel
theorem dL_law_237 : decode cL_law 237 = .ok (.iadd, 1) := by decide +kernel
theorem dL_law_238 : decode cL_law 238 = .ok (.iaload, 1) := by decide +kernel
theorem dL_law_239 : decode cL_law 239 = .ok (.aload_n 0, 1) := by decide +kernel
theorem dL_law_240 : decode cL_law 240 = .ok (.iload_n 3, 1) := by decide +kernel
theorem dL_law_241 : decode cL_law 241 = .ok (.iconst 2, 1) := by decide +kernel
theorem dL_law_242 : decode cL_law 242 = .ok (.iadd, 1) := by decide +kernel
theorem dL_law_243 : decode cL_law 243 = .ok (.iaload, 1) := by decide +kernel
theorem dL_law_244 : decode cL_law 244 = .ok (.invokevirtual 18, 3) := by decide +kernel
theorem dL_law_247 : decode cL_law 247 = .ok (.aload_n 2, 1) := by decide +kernel
theorem dL_law_248 : decode cL_law 248 = .ok (.aload_n 0, 1) := by decide +kernel
theorem dL_law_249 : decode cL_law 249 = .ok (.iload_n 3, 1) := by decide +kernel
theorem dL_law_250 : decode cL_law 250 = .ok (.iconst 1, 1) := by decide +kernel
theorem dL_law_251 : decode cL_law 251 = .ok (.iadd, 1) := by decide +kernel
theorem dL_law_252 : decode cL_law 252 = .ok (.iaload, 1) := by decide +kernel
theorem dL_law_253 : decode cL_law 253 = .ok (.aload_n 0, 1) := by decide +kernel
theorem dL_law_254 : decode cL_law 254 = .ok (.iload_n 3, 1) := by decide +kernel
theorem dL_law_255 : decode cL_law 255 = .ok (.iconst 2, 1) := by decide +kernel
theorem dL_law_256 : decode cL_law 256 = .ok (.iadd, 1) := by decide +kernel
theorem dL_law_257 : decode cL_law 257 = .ok (.iaload, 1) := by decide +kernel
theorem dL_law_258 : decode cL_law 258 = .ok (.invokevirtual 22, 3) := by decide +kernel
theorem dL_law_261 : decode cL_law 261 = .ok (.if_icmp .eq 880, 3) := by decide +kernel
theorem dL_law_264 : decode cL_law 264 = .ok (.iconst 0, 1) := by decide +kernel
theorem dL_law_265 : decode cL_law 265 = .ok (.ireturn, 1) := by decide +kernel
theorem dL_law_266 : decode cL_law 266 = .ok (.aload_n 1, 1) := by decide +kernel
theorem dL_law_267 : decode cL_law 267 = .ok (.aload_n 0, 1) := by decide +kernel
theorem dL_law_268 : decode cL_law 268 = .ok (.iload_n 3, 1) := by decide +kernel
theorem dL_law_269 : decode cL_law 269 = .ok (.iconst 1, 1) := by decide +kernel
theorem dL_law_270 : decode cL_law 270 = .ok (.iadd, 1) := by decide +kernel
theorem dL_law_271 : decode cL_law 271 = .ok (.iaload, 1) := by decide +kernel
theorem dL_law_272 : decode cL_law 272 = .ok (.aload_n 0, 1) := by decide +kernel
theorem dL_law_273 : decode cL_law 273 = .ok (.iload_n 3, 1) := by decide +kernel
theorem dL_law_274 : decode cL_law 274 = .ok (.iconst 2, 1) := by decide +kernel
theorem dL_law_275 : decode cL_law 275 = .ok (.iadd, 1) := by decide +kernel
theorem dL_law_276 : decode cL_law 276 = .ok (.iaload, 1) := by decide +kernel
theorem dL_law_277 : decode cL_law 277 = .ok (.invokevirtual 23, 3) := by decide +kernel
theorem dL_law_280 : decode cL_law 280 = .ok (.aload_n 2, 1) := by decide +kernel
theorem dL_law_281 : decode cL_law 281 = .ok (.aload_n 0, 1) := by decide +kernel
theorem dL_law_282 : decode cL_law 282 = .ok (.iload_n 3, 1) := by decide +kernel
theorem dL_law_283 : decode cL_law 283 = .ok (.iconst 1, 1) := by decide +kernel
theorem dL_law_284 : decode cL_law 284 = .ok (.iadd, 1) := by decide +kernel
theorem dL_law_285 : decode cL_law 285 = .ok (.iaload, 1) := by decide +kernel
theorem dL_law_286 : decode cL_law 286 = .ok (.aload_n 0, 1) := by decide +kernel
theorem dL_law_287 : decode cL_law 287 = .ok (.iload_n 3, 1) := by decide +kernel
theorem dL_law_288 : decode cL_law 288 = .ok (.iconst 2, 1) := by decide +kernel
theorem dL_law_289 : decode cL_law 289 = .ok (.iadd, 1) := by decide +kernel
theorem dL_law_290 : decode cL_law 290 = .ok (.iaload, 1) := by decide +kernel
theorem dL_law_291 : decode cL_law 291 = .ok (.invokevirtual 26, 3) := by decide +kernel
theorem dL_law_294 : decode cL_law 294 = .ok (.if_icmp .eq 847, 3) := by decide +kernel
theorem dL_law_297 : decode cL_law 297 = .ok (.iconst 0, 1) := by decide +kernel
theorem dL_law_298 : decode cL_law 298 = .ok (.ireturn, 1) := by decide +kernel
theorem dL_law_299 : decode cL_law 299 = .ok (.aload_n 1, 1) := by decide +kernel
theorem dL_law_300 : decode cL_law 300 = .ok (.aload_n 0, 1) := by decide +kernel
theorem dL_law_301 : decode cL_law 301 = .ok (.iload_n 3, 1) := by decide +kernel
theorem dL_law_302 : decode cL_law 302 = .ok (.iconst 1, 1) := by decide +kernel
theorem dL_law_303 : decode cL_law 303 = .ok (.iadd, 1) := by decide +kernel
theorem dL_law_304 : decode cL_law 304 = .ok (.iaload, 1) := by decide +kernel
theorem dL_law_305 : decode cL_law 305 = .ok (.invokevirtual 27, 3) := by decide +kernel
theorem dL_law_308 : decode cL_law 308 = .ok (.aload_n 2, 1) := by decide +kernel
theorem dL_law_309 : decode cL_law 309 = .ok (.aload_n 0, 1) := by decide +kernel
theorem dL_law_310 : decode cL_law 310 = .ok (.iload_n 3, 1) := by decide +kernel
theorem dL_law_311 : decode cL_law 311 = .ok (.iconst 1, 1) := by decide +kernel
theorem dL_law_312 : decode cL_law 312 = .ok (.iadd, 1) := by decide +kernel
theorem dL_law_313 : decode cL_law 313 = .ok (.iaload, 1) := by decide +kernel
theorem dL_law_314 : decode cL_law 314 = .ok (.invokevirtual 31, 3) := by decide +kernel
theorem dL_law_317 : decode cL_law 317 = .ok (.if_icmp .eq 824, 3) := by decide +kernel
theorem dL_law_320 : decode cL_law 320 = .ok (.iconst 0, 1) := by decide +kernel
theorem dL_law_321 : decode cL_law 321 = .ok (.ireturn, 1) := by decide +kernel
theorem dL_law_322 : decode cL_law 322 = .ok (.aload_n 1, 1) := by decide +kernel
theorem dL_law_323 : decode cL_law 323 = .ok (.aload_n 0, 1) := by decide +kernel
theorem dL_law_324 : decode cL_law 324 = .ok (.iload_n 3, 1) := by decide +kernel
theorem dL_law_325 : decode cL_law 325 = .ok (.iconst 1, 1) := by decide +kernel
theorem dL_law_326 : decode cL_law 326 = .ok (.iadd, 1) := by decide +kernel
theorem dL_law_327 : decode cL_law 327 = .ok (.iaload, 1) := by decide +kernel
theorem dL_law_328 : decode cL_law 328 = .ok (.aload_n 0, 1) := by decide +kernel
theorem dL_law_329 : decode cL_law 329 = .ok (.iload_n 3, 1) := by decide +kernel
theorem dL_law_330 : decode cL_law 330 = .ok (.iconst 2, 1) := by decide +kernel
theorem dL_law_331 : decode cL_law 331 = .ok (.iadd, 1) := by decide +kernel
theorem dL_law_332 : decode cL_law 332 = .ok (.iaload, 1) := by decide +kernel
theorem dL_law_333 : decode cL_law 333 = .ok (.invokevirtual 32, 3) := by decide +kernel
theorem dL_law_336 : decode cL_law 336 = .ok (.aload_n 2, 1) := by decide +kernel
theorem dL_law_337 : decode cL_law 337 = .ok (.aload_n 0, 1) := by decide +kernel
theorem dL_law_338 : decode cL_law 338 = .ok (.iload_n 3, 1) := by decide +kernel
theorem dL_law_339 : decode cL_law 339 = .ok (.iconst 1, 1) := by decide +kernel
theorem dL_law_340 : decode cL_law 340 = .ok (.iadd, 1) := by decide +kernel
theorem dL_law_341 : decode cL_law 341 = .ok (.iaload, 1) := by decide +kernel
theorem dL_law_342 : decode cL_law 342 = .ok (.aload_n 0, 1) := by decide +kernel
theorem dL_law_343 : decode cL_law 343 = .ok (.iload_n 3, 1) := by decide +kernel
theorem dL_law_344 : decode cL_law 344 = .ok (.iconst 2, 1) := by decide +kernel
theorem dL_law_345 : decode cL_law 345 = .ok (.iadd, 1) := by decide +kernel
theorem dL_law_346 : decode cL_law 346 = .ok (.iaload, 1) := by decide +kernel
theorem dL_law_347 : decode cL_law 347 = .ok (.invokevirtual 35, 3) := by decide +kernel
theorem dL_law_350 : decode cL_law 350 = .ok (.if_icmp .eq 791, 3) := by decide +kernel
theorem dL_law_353 : decode cL_law 353 = .ok (.iconst 0, 1) := by decide +kernel
theorem dL_law_354 : decode cL_law 354 = .ok (.ireturn, 1) := by decide +kernel
theorem dL_law_355 : decode cL_law 355 = .ok (.aload_n 1, 1) := by decide +kernel
theorem dL_law_356 : decode cL_law 356 = .ok (.aload_n 0, 1) := by decide +kernel
theorem dL_law_357 : decode cL_law 357 = .ok (.iload_n 3, 1) := by decide +kernel
theorem dL_law_358 : decode cL_law 358 = .ok (.iconst 1, 1) := by decide +kernel
theorem dL_law_359 : decode cL_law 359 = .ok (.iadd, 1) := by decide +kernel
theorem dL_law_360 : decode cL_law 360 = .ok (.iaload, 1) := by decide +kernel
theorem dL_law_361 : decode cL_law 361 = .ok (.invokevirtual 36, 3) := by decide +kernel
theorem dL_law_364 : decode cL_law 364 = .ok (.aload_n 2, 1) := by decide +kernel
theorem dL_law_365 : decode cL_law 365 = .ok (.aload_n 0, 1) := by decide +kernel
theorem dL_law_366 : decode cL_law 366 = .ok (.iload_n 3, 1) := by decide +kernel
theorem dL_law_367 : decode cL_law 367 = .ok (.iconst 1, 1) := by decide +kernel
theorem dL_law_368 : decode cL_law 368 = .ok (.iadd, 1) := by decide +kernel
theorem dL_law_369 : decode cL_law 369 = .ok (.iaload, 1) := by decide +kernel
theorem dL_law_370 : decode cL_law 370 = .ok (.invokevirtual 39, 3) := by decide +kernel
theorem dL_law_373 : decode cL_law 373 = .ok (.if_icmp .eq 768, 3) := by decide +kernel
theorem dL_law_376 : decode cL_law 376 = .ok (.iconst 0, 1) := by decide +kernel
theorem dL_law_377 : decode cL_law 377 = .ok (.ireturn, 1) := by decide +kernel
theorem dL_law_378 : decode cL_law 378 = .ok (.aload_n 1, 1) := by decide +kernel
theorem dL_law_379 : decode cL_law 379 = .ok (.aload_n 0, 1) := by decide +kernel
theorem dL_law_380 : decode cL_law 380 = .ok (.iload_n 3, 1) := by decide +kernel
theorem dL_law_381 : decode cL_law 381 = .ok (.iconst 1, 1) := by decide +kernel
theorem dL_law_382 : decode cL_law 382 = .ok (.iadd, 1) := by decide +kernel
theorem dL_law_383 : decode cL_law 383 = .ok (.iaload, 1) := by decide +kernel
theorem dL_law_384 : decode cL_law 384 = .ok (.invokevirtual 40, 3) := by decide +kernel
theorem dL_law_387 : decode cL_law 387 = .ok (.aload_n 2, 1) := by decide +kernel
theorem dL_law_388 : decode cL_law 388 = .ok (.aload_n 0, 1) := by decide +kernel
theorem dL_law_389 : decode cL_law 389 = .ok (.iload_n 3, 1) := by decide +kernel
theorem dL_law_390 : decode cL_law 390 = .ok (.iconst 1, 1) := by decide +kernel
theorem dL_law_391 : decode cL_law 391 = .ok (.iadd, 1) := by decide +kernel
theorem dL_law_392 : decode cL_law 392 = .ok (.iaload, 1) := by decide +kernel
theorem dL_law_393 : decode cL_law 393 = .ok (.invokevirtual 43, 3) := by decide +kernel
theorem dL_law_396 : decode cL_law 396 = .ok (.if_icmp .eq 745, 3) := by decide +kernel
theorem dL_law_399 : decode cL_law 399 = .ok (.iconst 0, 1) := by decide +kernel
theorem dL_law_400 : decode cL_law 400 = .ok (.ireturn, 1) := by decide +kernel
theorem dL_law_401 : decode cL_law 401 = .ok (.aload_n 1, 1) := by decide +kernel
theorem dL_law_402 : decode cL_law 402 = .ok (.invokevirtual 44, 3) := by decide +kernel
theorem dL_law_405 : decode cL_law 405 = .ok (.aload_n 2, 1) := by decide +kernel
theorem dL_law_406 : decode cL_law 406 = .ok (.invokevirtual 48, 3) := by decide +kernel
theorem dL_law_409 : decode cL_law 409 = .ok (.if_icmp .eq 732, 3) := by decide +kernel
theorem dL_law_412 : decode cL_law 412 = .ok (.iconst 0, 1) := by decide +kernel
theorem dL_law_413 : decode cL_law 413 = .ok (.ireturn, 1) := by decide +kernel
theorem dL_law_414 : decode cL_law 414 = .ok (.aload_n 1, 1) := by decide +kernel
theorem dL_law_415 : decode cL_law 415 = .ok (.aload_n 0, 1) := by decide +kernel
theorem dL_law_416 : decode cL_law 416 = .ok (.iload_n 3, 1) := by decide +kernel
theorem dL_law_417 : decode cL_law 417 = .ok (.iconst 1, 1) := by decide +kernel
theorem dL_law_418 : decode cL_law 418 = .ok (.iadd, 1) := by decide +kernel
theorem dL_law_419 : decode cL_law 419 = .ok (.iaload, 1) := by decide +kernel
theorem dL_law_420 : decode cL_law 420 = .ok (.aload_n 0, 1) := by decide +kernel
theorem dL_law_421 : decode cL_law 421 = .ok (.iload_n 3, 1) := by decide +kernel
theorem dL_law_422 : decode cL_law 422 = .ok (.iconst 2, 1) := by decide +kernel
theorem dL_law_423 : decode cL_law 423 = .ok (.iadd, 1) := by decide +kernel
theorem dL_law_424 : decode cL_law 424 = .ok (.iaload, 1) := by decide +kernel
theorem dL_law_425 : decode cL_law 425 = .ok (.aload_n 0, 1) := by decide +kernel
theorem dL_law_426 : decode cL_law 426 = .ok (.iload_n 3, 1) := by decide +kernel
theorem dL_law_427 : decode cL_law 427 = .ok (.iconst 3, 1) := by decide +kernel
theorem dL_law_428 : decode cL_law 428 = .ok (.iadd, 1) := by decide +kernel
theorem dL_law_429 : decode cL_law 429 = .ok (.iaload, 1) := by decide +kernel
theorem dL_law_430 : decode cL_law 430 = .ok (.aload_n 0, 1) := by decide +kernel
theorem dL_law_431 : decode cL_law 431 = .ok (.iload_n 3, 1) := by decide +kernel
theorem dL_law_432 : decode cL_law 432 = .ok (.iconst 4, 1) := by decide +kernel
theorem dL_law_433 : decode cL_law 433 = .ok (.iadd, 1) := by decide +kernel
theorem dL_law_434 : decode cL_law 434 = .ok (.iaload, 1) := by decide +kernel
theorem dL_law_435 : decode cL_law 435 = .ok (.invokevirtual 49, 3) := by decide +kernel
theorem dL_law_438 : decode cL_law 438 = .ok (.aload_n 2, 1) := by decide +kernel
theorem dL_law_439 : decode cL_law 439 = .ok (.aload_n 0, 1) := by decide +kernel
theorem dL_law_440 : decode cL_law 440 = .ok (.iload_n 3, 1) := by decide +kernel
theorem dL_law_441 : decode cL_law 441 = .ok (.iconst 1, 1) := by decide +kernel
theorem dL_law_442 : decode cL_law 442 = .ok (.iadd, 1) := by decide +kernel
theorem dL_law_443 : decode cL_law 443 = .ok (.iaload, 1) := by decide +kernel
theorem dL_law_444 : decode cL_law 444 = .ok (.aload_n 0, 1) := by decide +kernel
theorem dL_law_445 : decode cL_law 445 = .ok (.iload_n 3, 1) := by decide +kernel
theorem dL_law_446 : decode cL_law 446 = .ok (.iconst 2, 1) := by decide +kernel
theorem dL_law_447 : decode cL_law 447 = .ok (.iadd, 1) := by decide +kernel
theorem dL_law_448 : decode cL_law 448 = .ok (.iaload, 1) := by decide +kernel
theorem dL_law_449 : decode cL_law 449 = .ok (.aload_n 0, 1) := by decide +kernel
theorem dL_law_450 : decode cL_law 450 = .ok (.iload_n 3, 1) := by decide +kernel
theorem dL_law_451 : decode cL_law 451 = .ok (.iconst 3, 1) := by decide +kernel
theorem dL_law_452 : decode cL_law 452 = .ok (.iadd, 1) := by decide +kernel
theorem dL_law_453 : decode cL_law 453 = .ok (.iaload, 1) := by decide +kernel
theorem dL_law_454 : decode cL_law 454 = .ok (.aload_n 0, 1) := by decide +kernel
theorem dL_law_455 : decode cL_law 455 = .ok (.iload_n 3, 1) := by decide +kernel
theorem dL_law_456 : decode cL_law 456 = .ok (.iconst 4, 1) := by decide +kernel
theorem dL_law_457 : decode cL_law 457 = .ok (.iadd, 1) := by decide +kernel
theorem dL_law_458 : decode cL_law 458 = .ok (.iaload, 1) := by decide +kernel
theorem dL_law_459 : decode cL_law 459 = .ok (.invokevirtual 52, 3) := by decide +kernel
theorem dL_law_462 : decode cL_law 462 = .ok (.if_icmp .eq 679, 3) := by decide +kernel
theorem dL_law_465 : decode cL_law 465 = .ok (.iconst 0, 1) := by decide +kernel
theorem dL_law_466 : decode cL_law 466 = .ok (.ireturn, 1) := by decide +kernel
theorem dL_law_467 : decode cL_law 467 = .ok (.aload_n 1, 1) := by decide +kernel
theorem dL_law_468 : decode cL_law 468 = .ok (.aload_n 0, 1) := by decide +kernel
theorem dL_law_469 : decode cL_law 469 = .ok (.iload_n 3, 1) := by decide +kernel
theorem dL_law_470 : decode cL_law 470 = .ok (.iconst 1, 1) := by decide +kernel
theorem dL_law_471 : decode cL_law 471 = .ok (.iadd, 1) := by decide +kernel
theorem dL_law_472 : decode cL_law 472 = .ok (.iaload, 1) := by decide +kernel
theorem dL_law_473 : decode cL_law 473 = .ok (.aload_n 0, 1) := by decide +kernel
theorem dL_law_474 : decode cL_law 474 = .ok (.iload_n 3, 1) := by decide +kernel
theorem dL_law_475 : decode cL_law 475 = .ok (.iconst 2, 1) := by decide +kernel
theorem dL_law_476 : decode cL_law 476 = .ok (.iadd, 1) := by decide +kernel
theorem dL_law_477 : decode cL_law 477 = .ok (.iaload, 1) := by decide +kernel
theorem dL_law_478 : decode cL_law 478 = .ok (.invokevirtual 53, 3) := by decide +kernel
theorem dL_law_481 : decode cL_law 481 = .ok (.aload_n 2, 1) := by decide +kernel
theorem dL_law_482 : decode cL_law 482 = .ok (.aload_n 0, 1) := by decide +kernel
theorem dL_law_483 : decode cL_law 483 = .ok (.iload_n 3, 1) := by decide +kernel
theorem dL_law_484 : decode cL_law 484 = .ok (.iconst 1, 1) := by decide +kernel
theorem dL_law_485 : decode cL_law 485 = .ok (.iadd, 1) := by decide +kernel
theorem dL_law_486 : decode cL_law 486 = .ok (.iaload, 1) := by decide +kernel
theorem dL_law_487 : decode cL_law 487 = .ok (.aload_n 0, 1) := by decide +kernel
theorem dL_law_488 : decode cL_law 488 = .ok (.iload_n 3, 1) := by decide +kernel
theorem dL_law_489 : decode cL_law 489 = .ok (.iconst 2, 1) := by decide +kernel
theorem dL_law_490 : decode cL_law 490 = .ok (.iadd, 1) := by decide +kernel
theorem dL_law_491 : decode cL_law 491 = .ok (.iaload, 1) := by decide +kernel
theorem dL_law_492 : decode cL_law 492 = .ok (.invokevirtual 56, 3) := by decide +kernel
theorem dL_law_495 : decode cL_law 495 = .ok (.if_icmp .eq 646, 3) := by decide +kernel
theorem dL_law_498 : decode cL_law 498 = .ok (.iconst 0, 1) := by decide +kernel
theorem dL_law_499 : decode cL_law 499 = .ok (.ireturn, 1) := by decide +kernel
theorem dL_law_500 : decode cL_law 500 = .ok (.aload_n 1, 1) := by decide +kernel
theorem dL_law_501 : decode cL_law 501 = .ok (.aload_n 0, 1) := by decide +kernel
theorem dL_law_502 : decode cL_law 502 = .ok (.iload_n 3, 1) := by decide +kernel
theorem dL_law_503 : decode cL_law 503 = .ok (.iconst 1, 1) := by decide +kernel
theorem dL_law_504 : decode cL_law 504 = .ok (.iadd, 1) := by decide +kernel
theorem dL_law_505 : decode cL_law 505 = .ok (.iaload, 1) := by decide +kernel
theorem dL_law_506 : decode cL_law 506 = .ok (.invokevirtual 57, 3) := by decide +kernel
theorem dL_law_509 : decode cL_law 509 = .ok (.aload_n 2, 1) := by decide +kernel
theorem dL_law_510 : decode cL_law 510 = .ok (.aload_n 0, 1) := by decide +kernel
theorem dL_law_511 : decode cL_law 511 = .ok (.iload_n 3, 1) := by decide +kernel
theorem dL_law_512 : decode cL_law 512 = .ok (.iconst 1, 1) := by decide +kernel
theorem dL_law_513 : decode cL_law 513 = .ok (.iadd, 1) := by decide +kernel
theorem dL_law_514 : decode cL_law 514 = .ok (.iaload, 1) := by decide +kernel
theorem dL_law_515 : decode cL_law 515 = .ok (.invokevirtual 60, 3) := by decide +kernel
theorem dL_law_518 : decode cL_law 518 = .ok (.if_icmp .eq 623, 3) := by decide +kernel
theorem dL_law_521 : decode cL_law 521 = .ok (.iconst 0, 1) := by decide +kernel
theorem dL_law_522 : decode cL_law 522 = .ok (.ireturn, 1) := by decide +kernel
theorem dL_law_523 : decode cL_law 523 = .ok (.aload_n 1, 1) := by decide +kernel
theorem dL_law_524 : decode cL_law 524 = .ok (.invokevirtual 61, 3) := by decide +kernel
theorem dL_law_527 : decode cL_law 527 = .ok (.aload_n 2, 1) := by decide +kernel
theorem dL_law_528 : decode cL_law 528 = .ok (.invokevirtual 64, 3) := by decide +kernel
theorem dL_law_531 : decode cL_law 531 = .ok (.if_icmp .eq 610, 3) := by decide +kernel
theorem dL_law_534 : decode cL_law 534 = .ok (.iconst 0, 1) := by decide +kernel
theorem dL_law_535 : decode cL_law 535 = .ok (.ireturn, 1) := by decide +kernel
theorem dL_law_536 : decode cL_law 536 = .ok (.aload_n 1, 1) := by decide +kernel
theorem dL_law_537 : decode cL_law 537 = .ok (.aload_n 0, 1) := by decide +kernel
theorem dL_law_538 : decode cL_law 538 = .ok (.iload_n 3, 1) := by decide +kernel
theorem dL_law_539 : decode cL_law 539 = .ok (.iconst 1, 1) := by decide +kernel
theorem dL_law_540 : decode cL_law 540 = .ok (.iadd, 1) := by decide +kernel
theorem dL_law_541 : decode cL_law 541 = .ok (.iaload, 1) := by decide +kernel
theorem dL_law_542 : decode cL_law 542 = .ok (.invokevirtual 65, 3) := by decide +kernel
theorem dL_law_545 : decode cL_law 545 = .ok (.aload_n 2, 1) := by decide +kernel
theorem dL_law_546 : decode cL_law 546 = .ok (.aload_n 0, 1) := by decide +kernel
theorem dL_law_547 : decode cL_law 547 = .ok (.iload_n 3, 1) := by decide +kernel
theorem dL_law_548 : decode cL_law 548 = .ok (.iconst 1, 1) := by decide +kernel
theorem dL_law_549 : decode cL_law 549 = .ok (.iadd, 1) := by decide +kernel
theorem dL_law_550 : decode cL_law 550 = .ok (.iaload, 1) := by decide +kernel
theorem dL_law_551 : decode cL_law 551 = .ok (.invokevirtual 68, 3) := by decide +kernel
theorem dL_law_554 : decode cL_law 554 = .ok (.if_icmp .eq 587, 3) := by decide +kernel
theorem dL_law_557 : decode cL_law 557 = .ok (.iconst 0, 1) := by decide +kernel
theorem dL_law_558 : decode cL_law 558 = .ok (.ireturn, 1) := by decide +kernel
theorem dL_law_559 : decode cL_law 559 = .ok (.aload_n 1, 1) := by decide +kernel
theorem dL_law_560 : decode cL_law 560 = .ok (.aload_n 0, 1) := by decide +kernel
theorem dL_law_561 : decode cL_law 561 = .ok (.iload_n 3, 1) := by decide +kernel
theorem dL_law_562 : decode cL_law 562 = .ok (.iconst 1, 1) := by decide +kernel
theorem dL_law_563 : decode cL_law 563 = .ok (.iadd, 1) := by decide +kernel
theorem dL_law_564 : decode cL_law 564 = .ok (.iaload, 1) := by decide +kernel
theorem dL_law_565 : decode cL_law 565 = .ok (.invokevirtual 69, 3) := by decide +kernel
theorem dL_law_568 : decode cL_law 568 = .ok (.aload_n 2, 1) := by decide +kernel
theorem dL_law_569 : decode cL_law 569 = .ok (.aload_n 0, 1) := by decide +kernel
theorem dL_law_570 : decode cL_law 570 = .ok (.iload_n 3, 1) := by decide +kernel
theorem dL_law_571 : decode cL_law 571 = .ok (.iconst 1, 1) := by decide +kernel
theorem dL_law_572 : decode cL_law 572 = .ok (.iadd, 1) := by decide +kernel
theorem dL_law_573 : decode cL_law 573 = .ok (.iaload, 1) := by decide +kernel
theorem dL_law_574 : decode cL_law 574 = .ok (.invokevirtual 72, 3) := by decide +kernel
theorem dL_law_577 : decode cL_law 577 = .ok (.if_icmp .eq 564, 3) := by decide +kernel
theorem dL_law_580 : decode cL_law 580 = .ok (.iconst 0, 1) := by decide +kernel
theorem dL_law_581 : decode cL_law 581 = .ok (.ireturn, 1) := by decide +kernel
theorem dL_law_582 : decode cL_law 582 = .ok (.aload_n 1, 1) := by decide +kernel
theorem dL_law_583 : decode cL_law 583 = .ok (.aload_n 0, 1) := by decide +kernel
theorem dL_law_584 : decode cL_law 584 = .ok (.iload_n 3, 1) := by decide +kernel
theorem dL_law_585 : decode cL_law 585 = .ok (.iconst 1, 1) := by decide +kernel
theorem dL_law_586 : decode cL_law 586 = .ok (.iadd, 1) := by decide +kernel
theorem dL_law_587 : decode cL_law 587 = .ok (.iaload, 1) := by decide +kernel
theorem dL_law_588 : decode cL_law 588 = .ok (.invokevirtual 73, 3) := by decide +kernel
theorem dL_law_591 : decode cL_law 591 = .ok (.aload_n 2, 1) := by decide +kernel
theorem dL_law_592 : decode cL_law 592 = .ok (.aload_n 0, 1) := by decide +kernel
theorem dL_law_593 : decode cL_law 593 = .ok (.iload_n 3, 1) := by decide +kernel
theorem dL_law_594 : decode cL_law 594 = .ok (.iconst 1, 1) := by decide +kernel
theorem dL_law_595 : decode cL_law 595 = .ok (.iadd, 1) := by decide +kernel
theorem dL_law_596 : decode cL_law 596 = .ok (.iaload, 1) := by decide +kernel
theorem dL_law_597 : decode cL_law 597 = .ok (.invokevirtual 76, 3) := by decide +kernel
theorem dL_law_600 : decode cL_law 600 = .ok (.if_icmp .eq 541, 3) := by decide +kernel
theorem dL_law_603 : decode cL_law 603 = .ok (.iconst 0, 1) := by decide +kernel
theorem dL_law_604 : decode cL_law 604 = .ok (.ireturn, 1) := by decide +kernel
theorem dL_law_605 : decode cL_law 605 = .ok (.aload_n 1, 1) := by decide +kernel
theorem dL_law_606 : decode cL_law 606 = .ok (.aload_n 0, 1) := by decide +kernel
theorem dL_law_607 : decode cL_law 607 = .ok (.iload_n 3, 1) := by decide +kernel
theorem dL_law_608 : decode cL_law 608 = .ok (.iconst 1, 1) := by decide +kernel
theorem dL_law_609 : decode cL_law 609 = .ok (.iadd, 1) := by decide +kernel
theorem dL_law_610 : decode cL_law 610 = .ok (.iaload, 1) := by decide +kernel
theorem dL_law_611 : decode cL_law 611 = .ok (.aload_n 0, 1) := by decide +kernel
theorem dL_law_612 : decode cL_law 612 = .ok (.iload_n 3, 1) := by decide +kernel
theorem dL_law_613 : decode cL_law 613 = .ok (.iconst 2, 1) := by decide +kernel
theorem dL_law_614 : decode cL_law 614 = .ok (.iadd, 1) := by decide +kernel
theorem dL_law_615 : decode cL_law 615 = .ok (.iaload, 1) := by decide +kernel
theorem dL_law_616 : decode cL_law 616 = .ok (.invokevirtual 77, 3) := by decide +kernel
theorem dL_law_619 : decode cL_law 619 = .ok (.aload_n 2, 1) := by decide +kernel
theorem dL_law_620 : decode cL_law 620 = .ok (.aload_n 0, 1) := by decide +kernel
theorem dL_law_621 : decode cL_law 621 = .ok (.iload_n 3, 1) := by decide +kernel
theorem dL_law_622 : decode cL_law 622 = .ok (.iconst 1, 1) := by decide +kernel
theorem dL_law_623 : decode cL_law 623 = .ok (.iadd, 1) := by decide +kernel
theorem dL_law_624 : decode cL_law 624 = .ok (.iaload, 1) := by decide +kernel
theorem dL_law_625 : decode cL_law 625 = .ok (.aload_n 0, 1) := by decide +kernel
theorem dL_law_626 : decode cL_law 626 = .ok (.iload_n 3, 1) := by decide +kernel
theorem dL_law_627 : decode cL_law 627 = .ok (.iconst 2, 1) := by decide +kernel
theorem dL_law_628 : decode cL_law 628 = .ok (.iadd, 1) := by decide +kernel
theorem dL_law_629 : decode cL_law 629 = .ok (.iaload, 1) := by decide +kernel
theorem dL_law_630 : decode cL_law 630 = .ok (.invokevirtual 80, 3) := by decide +kernel
theorem dL_law_633 : decode cL_law 633 = .ok (.if_icmp .eq 508, 3) := by decide +kernel
theorem dL_law_636 : decode cL_law 636 = .ok (.iconst 0, 1) := by decide +kernel
theorem dL_law_637 : decode cL_law 637 = .ok (.ireturn, 1) := by decide +kernel
theorem dL_law_638 : decode cL_law 638 = .ok (.aload_n 1, 1) := by decide +kernel
theorem dL_law_639 : decode cL_law 639 = .ok (.aload_n 0, 1) := by decide +kernel
theorem dL_law_640 : decode cL_law 640 = .ok (.iload_n 3, 1) := by decide +kernel
theorem dL_law_641 : decode cL_law 641 = .ok (.iconst 1, 1) := by decide +kernel
theorem dL_law_642 : decode cL_law 642 = .ok (.iadd, 1) := by decide +kernel
theorem dL_law_643 : decode cL_law 643 = .ok (.iaload, 1) := by decide +kernel
theorem dL_law_644 : decode cL_law 644 = .ok (.aload_n 0, 1) := by decide +kernel
theorem dL_law_645 : decode cL_law 645 = .ok (.iload_n 3, 1) := by decide +kernel
theorem dL_law_646 : decode cL_law 646 = .ok (.iconst 2, 1) := by decide +kernel
theorem dL_law_647 : decode cL_law 647 = .ok (.iadd, 1) := by decide +kernel
theorem dL_law_648 : decode cL_law 648 = .ok (.iaload, 1) := by decide +kernel
theorem dL_law_649 : decode cL_law 649 = .ok (.invokevirtual 81, 3) := by decide +kernel
theorem dL_law_652 : decode cL_law 652 = .ok (.aload_n 2, 1) := by decide +kernel
theorem dL_law_653 : decode cL_law 653 = .ok (.aload_n 0, 1) := by decide +kernel
theorem dL_law_654 : decode cL_law 654 = .ok (.iload_n 3, 1) := by decide +kernel
theorem dL_law_655 : decode cL_law 655 = .ok (.iconst 1, 1) := by decide +kernel
theorem dL_law_656 : decode cL_law 656 = .ok (.iadd, 1) := by decide +kernel
theorem dL_law_657 : decode cL_law 657 = .ok (.iaload, 1) := by decide +kernel
theorem dL_law_658 : decode cL_law 658 = .ok (.aload_n 0, 1) := by decide +kernel
theorem dL_law_659 : decode cL_law 659 = .ok (.iload_n 3, 1) := by decide +kernel
theorem dL_law_660 : decode cL_law 660 = .ok (.iconst 2, 1) := by decide +kernel
theorem dL_law_661 : decode cL_law 661 = .ok (.iadd, 1) := by decide +kernel
theorem dL_law_662 : decode cL_law 662 = .ok (.iaload, 1) := by decide +kernel
theorem dL_law_663 : decode cL_law 663 = .ok (.invokevirtual 84, 3) := by decide +kernel
theorem dL_law_666 : decode cL_law 666 = .ok (.if_icmp .eq 475, 3) := by decide +kernel
theorem dL_law_669 : decode cL_law 669 = .ok (.iconst 0, 1) := by decide +kernel
theorem dL_law_670 : decode cL_law 670 = .ok (.ireturn, 1) := by decide +kernel
theorem dL_law_671 : decode cL_law 671 = .ok (.aload_n 1, 1) := by decide +kernel
theorem dL_law_672 : decode cL_law 672 = .ok (.aload_n 0, 1) := by decide +kernel
theorem dL_law_673 : decode cL_law 673 = .ok (.iload_n 3, 1) := by decide +kernel
theorem dL_law_674 : decode cL_law 674 = .ok (.iconst 1, 1) := by decide +kernel
theorem dL_law_675 : decode cL_law 675 = .ok (.iadd, 1) := by decide +kernel
theorem dL_law_676 : decode cL_law 676 = .ok (.iaload, 1) := by decide +kernel
theorem dL_law_677 : decode cL_law 677 = .ok (.invokevirtual 85, 3) := by decide +kernel
theorem dL_law_680 : decode cL_law 680 = .ok (.aload_n 2, 1) := by decide +kernel
theorem dL_law_681 : decode cL_law 681 = .ok (.aload_n 0, 1) := by decide +kernel
theorem dL_law_682 : decode cL_law 682 = .ok (.iload_n 3, 1) := by decide +kernel
theorem dL_law_683 : decode cL_law 683 = .ok (.iconst 1, 1) := by decide +kernel
theorem dL_law_684 : decode cL_law 684 = .ok (.iadd, 1) := by decide +kernel
theorem dL_law_685 : decode cL_law 685 = .ok (.iaload, 1) := by decide +kernel
theorem dL_law_686 : decode cL_law 686 = .ok (.invokevirtual 88, 3) := by decide +kernel
theorem dL_law_689 : decode cL_law 689 = .ok (.if_icmp .eq 452, 3) := by decide +kernel
theorem dL_law_692 : decode cL_law 692 = .ok (.iconst 0, 1) := by decide +kernel
theorem dL_law_693 : decode cL_law 693 = .ok (.ireturn, 1) := by decide +kernel
theorem dL_law_694 : decode cL_law 694 = .ok (.aload_n 1, 1) := by decide +kernel
theorem dL_law_695 : decode cL_law 695 = .ok (.aload_n 0, 1) := by decide +kernel
theorem dL_law_696 : decode cL_law 696 = .ok (.iload_n 3, 1) := by decide +kernel
theorem dL_law_697 : decode cL_law 697 = .ok (.iconst 1, 1) := by decide +kernel
theorem dL_law_698 : decode cL_law 698 = .ok (.iadd, 1) := by decide +kernel
theorem dL_law_699 : decode cL_law 699 = .ok (.iaload, 1) := by decide +kernel
theorem dL_law_700 : decode cL_law 700 = .ok (.invokevirtual 89, 3) := by decide +kernel
theorem dL_law_703 : decode cL_law 703 = .ok (.aload_n 2, 1) := by decide +kernel
theorem dL_law_704 : decode cL_law 704 = .ok (.aload_n 0, 1) := by decide +kernel
theorem dL_law_705 : decode cL_law 705 = .ok (.iload_n 3, 1) := by decide +kernel
theorem dL_law_706 : decode cL_law 706 = .ok (.iconst 1, 1) := by decide +kernel
theorem dL_law_707 : decode cL_law 707 = .ok (.iadd, 1) := by decide +kernel
theorem dL_law_708 : decode cL_law 708 = .ok (.iaload, 1) := by decide +kernel
theorem dL_law_709 : decode cL_law 709 = .ok (.invokevirtual 92, 3) := by decide +kernel
theorem dL_law_712 : decode cL_law 712 = .ok (.if_icmp .eq 429, 3) := by decide +kernel
theorem dL_law_715 : decode cL_law 715 = .ok (.iconst 0, 1) := by decide +kernel
theorem dL_law_716 : decode cL_law 716 = .ok (.ireturn, 1) := by decide +kernel
theorem dL_law_717 : decode cL_law 717 = .ok (.aload_n 1, 1) := by decide +kernel
theorem dL_law_718 : decode cL_law 718 = .ok (.invokevirtual 93, 3) := by decide +kernel
theorem dL_law_721 : decode cL_law 721 = .ok (.aload_n 2, 1) := by decide +kernel
theorem dL_law_722 : decode cL_law 722 = .ok (.invokevirtual 96, 3) := by decide +kernel
theorem dL_law_725 : decode cL_law 725 = .ok (.if_icmp .eq 416, 3) := by decide +kernel
theorem dL_law_728 : decode cL_law 728 = .ok (.iconst 0, 1) := by decide +kernel
theorem dL_law_729 : decode cL_law 729 = .ok (.ireturn, 1) := by decide +kernel
theorem dL_law_730 : decode cL_law 730 = .ok (.aload_n 1, 1) := by decide +kernel
theorem dL_law_731 : decode cL_law 731 = .ok (.aload_n 0, 1) := by decide +kernel
theorem dL_law_732 : decode cL_law 732 = .ok (.iload_n 3, 1) := by decide +kernel
theorem dL_law_733 : decode cL_law 733 = .ok (.iconst 1, 1) := by decide +kernel
theorem dL_law_734 : decode cL_law 734 = .ok (.iadd, 1) := by decide +kernel
theorem dL_law_735 : decode cL_law 735 = .ok (.iaload, 1) := by decide +kernel
theorem dL_law_736 : decode cL_law 736 = .ok (.invokevirtual 97, 3) := by decide +kernel
theorem dL_law_739 : decode cL_law 739 = .ok (.aload_n 2, 1) := by decide +kernel
theorem dL_law_740 : decode cL_law 740 = .ok (.aload_n 0, 1) := by decide +kernel
theorem dL_law_741 : decode cL_law 741 = .ok (.iload_n 3, 1) := by decide +kernel
theorem dL_law_742 : decode cL_law 742 = .ok (.iconst 1, 1) := by decide +kernel
theorem dL_law_743 : decode cL_law 743 = .ok (.iadd, 1) := by decide +kernel
theorem dL_law_744 : decode cL_law 744 = .ok (.iaload, 1) := by decide +kernel
theorem dL_law_745 : decode cL_law 745 = .ok (.invokevirtual 100, 3) := by decide +kernel
theorem dL_law_748 : decode cL_law 748 = .ok (.if_icmp .eq 393, 3) := by decide +kernel
theorem dL_law_751 : decode cL_law 751 = .ok (.iconst 0, 1) := by decide +kernel
theorem dL_law_752 : decode cL_law 752 = .ok (.ireturn, 1) := by decide +kernel
theorem dL_law_753 : decode cL_law 753 = .ok (.aload_n 1, 1) := by decide +kernel
theorem dL_law_754 : decode cL_law 754 = .ok (.aload_n 0, 1) := by decide +kernel
theorem dL_law_755 : decode cL_law 755 = .ok (.iload_n 3, 1) := by decide +kernel
theorem dL_law_756 : decode cL_law 756 = .ok (.iconst 1, 1) := by decide +kernel
theorem dL_law_757 : decode cL_law 757 = .ok (.iadd, 1) := by decide +kernel
theorem dL_law_758 : decode cL_law 758 = .ok (.iaload, 1) := by decide +kernel
theorem dL_law_759 : decode cL_law 759 = .ok (.aload_n 0, 1) := by decide +kernel
theorem dL_law_760 : decode cL_law 760 = .ok (.iload_n 3, 1) := by decide +kernel
theorem dL_law_761 : decode cL_law 761 = .ok (.iconst 2, 1) := by decide +kernel
theorem dL_law_762 : decode cL_law 762 = .ok (.iadd, 1) := by decide +kernel
theorem dL_law_763 : decode cL_law 763 = .ok (.iaload, 1) := by decide +kernel
theorem dL_law_764 : decode cL_law 764 = .ok (.aload_n 0, 1) := by decide +kernel
theorem dL_law_765 : decode cL_law 765 = .ok (.iload_n 3, 1) := by decide +kernel
theorem dL_law_766 : decode cL_law 766 = .ok (.iconst 3, 1) := by decide +kernel
theorem dL_law_767 : decode cL_law 767 = .ok (.iadd, 1) := by decide +kernel
theorem dL_law_768 : decode cL_law 768 = .ok (.iaload, 1) := by decide +kernel
theorem dL_law_769 : decode cL_law 769 = .ok (.invokevirtual 101, 3) := by decide +kernel
theorem dL_law_772 : decode cL_law 772 = .ok (.aload_n 2, 1) := by decide +kernel
theorem dL_law_773 : decode cL_law 773 = .ok (.aload_n 0, 1) := by decide +kernel
theorem dL_law_774 : decode cL_law 774 = .ok (.iload_n 3, 1) := by decide +kernel
theorem dL_law_775 : decode cL_law 775 = .ok (.iconst 1, 1) := by decide +kernel
theorem dL_law_776 : decode cL_law 776 = .ok (.iadd, 1) := by decide +kernel
theorem dL_law_777 : decode cL_law 777 = .ok (.iaload, 1) := by decide +kernel
theorem dL_law_778 : decode cL_law 778 = .ok (.aload_n 0, 1) := by decide +kernel
theorem dL_law_779 : decode cL_law 779 = .ok (.iload_n 3, 1) := by decide +kernel
theorem dL_law_780 : decode cL_law 780 = .ok (.iconst 2, 1) := by decide +kernel
theorem dL_law_781 : decode cL_law 781 = .ok (.iadd, 1) := by decide +kernel
theorem dL_law_782 : decode cL_law 782 = .ok (.iaload, 1) := by decide +kernel
theorem dL_law_783 : decode cL_law 783 = .ok (.aload_n 0, 1) := by decide +kernel
theorem dL_law_784 : decode cL_law 784 = .ok (.iload_n 3, 1) := by decide +kernel
theorem dL_law_785 : decode cL_law 785 = .ok (.iconst 3, 1) := by decide +kernel
theorem dL_law_786 : decode cL_law 786 = .ok (.iadd, 1) := by decide +kernel
theorem dL_law_787 : decode cL_law 787 = .ok (.iaload, 1) := by decide +kernel
theorem dL_law_788 : decode cL_law 788 = .ok (.invokevirtual 105, 3) := by decide +kernel
theorem dL_law_791 : decode cL_law 791 = .ok (.lcmp, 1) := by decide +kernel
theorem dL_law_792 : decode cL_law 792 = .ok (.ifCond .eq 349, 3) := by decide +kernel
theorem dL_law_795 : decode cL_law 795 = .ok (.iconst 0, 1) := by decide +kernel
theorem dL_law_796 : decode cL_law 796 = .ok (.ireturn, 1) := by decide +kernel
theorem dL_law_797 : decode cL_law 797 = .ok (.aload_n 1, 1) := by decide +kernel
theorem dL_law_798 : decode cL_law 798 = .ok (.aload_n 0, 1) := by decide +kernel
theorem dL_law_799 : decode cL_law 799 = .ok (.iload_n 3, 1) := by decide +kernel
theorem dL_law_800 : decode cL_law 800 = .ok (.iconst 1, 1) := by decide +kernel
theorem dL_law_801 : decode cL_law 801 = .ok (.iadd, 1) := by decide +kernel
theorem dL_law_802 : decode cL_law 802 = .ok (.iaload, 1) := by decide +kernel
theorem dL_law_803 : decode cL_law 803 = .ok (.aload_n 0, 1) := by decide +kernel
theorem dL_law_804 : decode cL_law 804 = .ok (.iload_n 3, 1) := by decide +kernel
theorem dL_law_805 : decode cL_law 805 = .ok (.iconst 2, 1) := by decide +kernel
theorem dL_law_806 : decode cL_law 806 = .ok (.iadd, 1) := by decide +kernel
theorem dL_law_807 : decode cL_law 807 = .ok (.iaload, 1) := by decide +kernel
theorem dL_law_808 : decode cL_law 808 = .ok (.aload_n 0, 1) := by decide +kernel
theorem dL_law_809 : decode cL_law 809 = .ok (.iload_n 3, 1) := by decide +kernel
theorem dL_law_810 : decode cL_law 810 = .ok (.iconst 3, 1) := by decide +kernel
theorem dL_law_811 : decode cL_law 811 = .ok (.iadd, 1) := by decide +kernel
theorem dL_law_812 : decode cL_law 812 = .ok (.iaload, 1) := by decide +kernel
theorem dL_law_813 : decode cL_law 813 = .ok (.invokevirtual 106, 3) := by decide +kernel
theorem dL_law_816 : decode cL_law 816 = .ok (.aload_n 2, 1) := by decide +kernel
theorem dL_law_817 : decode cL_law 817 = .ok (.aload_n 0, 1) := by decide +kernel
theorem dL_law_818 : decode cL_law 818 = .ok (.iload_n 3, 1) := by decide +kernel
theorem dL_law_819 : decode cL_law 819 = .ok (.iconst 1, 1) := by decide +kernel
theorem dL_law_820 : decode cL_law 820 = .ok (.iadd, 1) := by decide +kernel
theorem dL_law_821 : decode cL_law 821 = .ok (.iaload, 1) := by decide +kernel
theorem dL_law_822 : decode cL_law 822 = .ok (.aload_n 0, 1) := by decide +kernel
theorem dL_law_823 : decode cL_law 823 = .ok (.iload_n 3, 1) := by decide +kernel
theorem dL_law_824 : decode cL_law 824 = .ok (.iconst 2, 1) := by decide +kernel
theorem dL_law_825 : decode cL_law 825 = .ok (.iadd, 1) := by decide +kernel
theorem dL_law_826 : decode cL_law 826 = .ok (.iaload, 1) := by decide +kernel
theorem dL_law_827 : decode cL_law 827 = .ok (.aload_n 0, 1) := by decide +kernel
theorem dL_law_828 : decode cL_law 828 = .ok (.iload_n 3, 1) := by decide +kernel
theorem dL_law_829 : decode cL_law 829 = .ok (.iconst 3, 1) := by decide +kernel
theorem dL_law_830 : decode cL_law 830 = .ok (.iadd, 1) := by decide +kernel
theorem dL_law_831 : decode cL_law 831 = .ok (.iaload, 1) := by decide +kernel
theorem dL_law_832 : decode cL_law 832 = .ok (.invokevirtual 110, 3) := by decide +kernel
theorem dL_law_835 : decode cL_law 835 = .ok (.if_icmp .eq 306, 3) := by decide +kernel
theorem dL_law_838 : decode cL_law 838 = .ok (.iconst 0, 1) := by decide +kernel
theorem dL_law_839 : decode cL_law 839 = .ok (.ireturn, 1) := by decide +kernel
theorem dL_law_840 : decode cL_law 840 = .ok (.aload_n 1, 1) := by decide +kernel
theorem dL_law_841 : decode cL_law 841 = .ok (.aload_n 0, 1) := by decide +kernel
theorem dL_law_842 : decode cL_law 842 = .ok (.iload_n 3, 1) := by decide +kernel
theorem dL_law_843 : decode cL_law 843 = .ok (.iconst 1, 1) := by decide +kernel
theorem dL_law_844 : decode cL_law 844 = .ok (.iadd, 1) := by decide +kernel
theorem dL_law_845 : decode cL_law 845 = .ok (.iaload, 1) := by decide +kernel
theorem dL_law_846 : decode cL_law 846 = .ok (.invokevirtual 111, 3) := by decide +kernel
theorem dL_law_849 : decode cL_law 849 = .ok (.aload_n 2, 1) := by decide +kernel
theorem dL_law_850 : decode cL_law 850 = .ok (.aload_n 0, 1) := by decide +kernel
theorem dL_law_851 : decode cL_law 851 = .ok (.iload_n 3, 1) := by decide +kernel
theorem dL_law_852 : decode cL_law 852 = .ok (.iconst 1, 1) := by decide +kernel
theorem dL_law_853 : decode cL_law 853 = .ok (.iadd, 1) := by decide +kernel
theorem dL_law_854 : decode cL_law 854 = .ok (.iaload, 1) := by decide +kernel
theorem dL_law_855 : decode cL_law 855 = .ok (.invokevirtual 114, 3) := by decide +kernel
theorem dL_law_858 : decode cL_law 858 = .ok (.if_icmp .eq 283, 3) := by decide +kernel
theorem dL_law_861 : decode cL_law 861 = .ok (.iconst 0, 1) := by decide +kernel
theorem dL_law_862 : decode cL_law 862 = .ok (.ireturn, 1) := by decide +kernel
theorem dL_law_863 : decode cL_law 863 = .ok (.aload_n 1, 1) := by decide +kernel
theorem dL_law_864 : decode cL_law 864 = .ok (.aload_n 0, 1) := by decide +kernel
theorem dL_law_865 : decode cL_law 865 = .ok (.iload_n 3, 1) := by decide +kernel
theorem dL_law_866 : decode cL_law 866 = .ok (.iconst 1, 1) := by decide +kernel
theorem dL_law_867 : decode cL_law 867 = .ok (.iadd, 1) := by decide +kernel
theorem dL_law_868 : decode cL_law 868 = .ok (.iaload, 1) := by decide +kernel
theorem dL_law_869 : decode cL_law 869 = .ok (.aload_n 0, 1) := by decide +kernel
theorem dL_law_870 : decode cL_law 870 = .ok (.iload_n 3, 1) := by decide +kernel
theorem dL_law_871 : decode cL_law 871 = .ok (.iconst 2, 1) := by decide +kernel
theorem dL_law_872 : decode cL_law 872 = .ok (.iadd, 1) := by decide +kernel
theorem dL_law_873 : decode cL_law 873 = .ok (.iaload, 1) := by decide +kernel
theorem dL_law_874 : decode cL_law 874 = .ok (.aload_n 0, 1) := by decide +kernel
theorem dL_law_875 : decode cL_law 875 = .ok (.iload_n 3, 1) := by decide +kernel
theorem dL_law_876 : decode cL_law 876 = .ok (.iconst 3, 1) := by decide +kernel
theorem dL_law_877 : decode cL_law 877 = .ok (.iadd, 1) := by decide +kernel
theorem dL_law_878 : decode cL_law 878 = .ok (.iaload, 1) := by decide +kernel
theorem dL_law_879 : decode cL_law 879 = .ok (.invokevirtual 115, 3) := by decide +kernel
theorem dL_law_882 : decode cL_law 882 = .ok (.aload_n 2, 1) := by decide +kernel
theorem dL_law_883 : decode cL_law 883 = .ok (.aload_n 0, 1) := by decide +kernel
theorem dL_law_884 : decode cL_law 884 = .ok (.iload_n 3, 1) := by decide +kernel
theorem dL_law_885 : decode cL_law 885 = .ok (.iconst 1, 1) := by decide +kernel
theorem dL_law_886 : decode cL_law 886 = .ok (.iadd, 1) := by decide +kernel
theorem dL_law_887 : decode cL_law 887 = .ok (.iaload, 1) := by decide +kernel
theorem dL_law_888 : decode cL_law 888 = .ok (.aload_n 0, 1) := by decide +kernel
theorem dL_law_889 : decode cL_law 889 = .ok (.iload_n 3, 1) := by decide +kernel
theorem dL_law_890 : decode cL_law 890 = .ok (.iconst 2, 1) := by decide +kernel
theorem dL_law_891 : decode cL_law 891 = .ok (.iadd, 1) := by decide +kernel
theorem dL_law_892 : decode cL_law 892 = .ok (.iaload, 1) := by decide +kernel
theorem dL_law_893 : decode cL_law 893 = .ok (.aload_n 0, 1) := by decide +kernel
theorem dL_law_894 : decode cL_law 894 = .ok (.iload_n 3, 1) := by decide +kernel
theorem dL_law_895 : decode cL_law 895 = .ok (.iconst 3, 1) := by decide +kernel
theorem dL_law_896 : decode cL_law 896 = .ok (.iadd, 1) := by decide +kernel
theorem dL_law_897 : decode cL_law 897 = .ok (.iaload, 1) := by decide +kernel
theorem dL_law_898 : decode cL_law 898 = .ok (.invokevirtual 118, 3) := by decide +kernel
theorem dL_law_901 : decode cL_law 901 = .ok (.if_icmp .eq 240, 3) := by decide +kernel
theorem dL_law_904 : decode cL_law 904 = .ok (.iconst 0, 1) := by decide +kernel
theorem dL_law_905 : decode cL_law 905 = .ok (.ireturn, 1) := by decide +kernel
theorem dL_law_906 : decode cL_law 906 = .ok (.aload_n 1, 1) := by decide +kernel
theorem dL_law_907 : decode cL_law 907 = .ok (.aload_n 0, 1) := by decide +kernel
theorem dL_law_908 : decode cL_law 908 = .ok (.iload_n 3, 1) := by decide +kernel
theorem dL_law_909 : decode cL_law 909 = .ok (.iconst 1, 1) := by decide +kernel
theorem dL_law_910 : decode cL_law 910 = .ok (.iadd, 1) := by decide +kernel
theorem dL_law_911 : decode cL_law 911 = .ok (.iaload, 1) := by decide +kernel
theorem dL_law_912 : decode cL_law 912 = .ok (.aload_n 0, 1) := by decide +kernel
theorem dL_law_913 : decode cL_law 913 = .ok (.iload_n 3, 1) := by decide +kernel
theorem dL_law_914 : decode cL_law 914 = .ok (.iconst 2, 1) := by decide +kernel
theorem dL_law_915 : decode cL_law 915 = .ok (.iadd, 1) := by decide +kernel
theorem dL_law_916 : decode cL_law 916 = .ok (.iaload, 1) := by decide +kernel
theorem dL_law_917 : decode cL_law 917 = .ok (.aload_n 0, 1) := by decide +kernel
theorem dL_law_918 : decode cL_law 918 = .ok (.iload_n 3, 1) := by decide +kernel
theorem dL_law_919 : decode cL_law 919 = .ok (.iconst 3, 1) := by decide +kernel
theorem dL_law_920 : decode cL_law 920 = .ok (.iadd, 1) := by decide +kernel
theorem dL_law_921 : decode cL_law 921 = .ok (.iaload, 1) := by decide +kernel
theorem dL_law_922 : decode cL_law 922 = .ok (.invokevirtual 119, 3) := by decide +kernel
theorem dL_law_925 : decode cL_law 925 = .ok (.aload_n 2, 1) := by decide +kernel
theorem dL_law_926 : decode cL_law 926 = .ok (.aload_n 0, 1) := by decide +kernel
theorem dL_law_927 : decode cL_law 927 = .ok (.iload_n 3, 1) := by decide +kernel
theorem dL_law_928 : decode cL_law 928 = .ok (.iconst 1, 1) := by decide +kernel
theorem dL_law_929 : decode cL_law 929 = .ok (.iadd, 1) := by decide +kernel
theorem dL_law_930 : decode cL_law 930 = .ok (.iaload, 1) := by decide +kernel
theorem dL_law_931 : decode cL_law 931 = .ok (.aload_n 0, 1) := by decide +kernel
theorem dL_law_932 : decode cL_law 932 = .ok (.iload_n 3, 1) := by decide +kernel
theorem dL_law_933 : decode cL_law 933 = .ok (.iconst 2, 1) := by decide +kernel
theorem dL_law_934 : decode cL_law 934 = .ok (.iadd, 1) := by decide +kernel
theorem dL_law_935 : decode cL_law 935 = .ok (.iaload, 1) := by decide +kernel
theorem dL_law_936 : decode cL_law 936 = .ok (.aload_n 0, 1) := by decide +kernel
theorem dL_law_937 : decode cL_law 937 = .ok (.iload_n 3, 1) := by decide +kernel
theorem dL_law_938 : decode cL_law 938 = .ok (.iconst 3, 1) := by decide +kernel
theorem dL_law_939 : decode cL_law 939 = .ok (.iadd, 1) := by decide +kernel
theorem dL_law_940 : decode cL_law 940 = .ok (.iaload, 1) := by decide +kernel
theorem dL_law_941 : decode cL_law 941 = .ok (.invokevirtual 122, 3) := by decide +kernel
theorem dL_law_944 : decode cL_law 944 = .ok (.lcmp, 1) := by decide +kernel
theorem dL_law_945 : decode cL_law 945 = .ok (.ifCond .eq 196, 3) := by decide +kernel
theorem dL_law_948 : decode cL_law 948 = .ok (.iconst 0, 1) := by decide +kernel
theorem dL_law_949 : decode cL_law 949 = .ok (.ireturn, 1) := by decide +kernel
theorem dL_law_950 : decode cL_law 950 = .ok (.aload_n 1, 1) := by decide +kernel
theorem dL_law_951 : decode cL_law 951 = .ok (.aload_n 0, 1) := by decide +kernel
theorem dL_law_952 : decode cL_law 952 = .ok (.iload_n 3, 1) := by decide +kernel
theorem dL_law_953 : decode cL_law 953 = .ok (.iconst 1, 1) := by decide +kernel
theorem dL_law_954 : decode cL_law 954 = .ok (.iadd, 1) := by decide +kernel
theorem dL_law_955 : decode cL_law 955 = .ok (.iaload, 1) := by decide +kernel
theorem dL_law_956 : decode cL_law 956 = .ok (.aload_n 0, 1) := by decide +kernel
theorem dL_law_957 : decode cL_law 957 = .ok (.iload_n 3, 1) := by decide +kernel
theorem dL_law_958 : decode cL_law 958 = .ok (.iconst 2, 1) := by decide +kernel
theorem dL_law_959 : decode cL_law 959 = .ok (.iadd, 1) := by decide +kernel
theorem dL_law_960 : decode cL_law 960 = .ok (.iaload, 1) := by decide +kernel
theorem dL_law_961 : decode cL_law 961 = .ok (.aload_n 0, 1) := by decide +kernel
theorem dL_law_962 : decode cL_law 962 = .ok (.iload_n 3, 1) := by decide +kernel
theorem dL_law_963 : decode cL_law 963 = .ok (.iconst 3, 1) := by decide +kernel
theorem dL_law_964 : decode cL_law 964 = .ok (.iadd, 1) := by decide +kernel
theorem dL_law_965 : decode cL_law 965 = .ok (.iaload, 1) := by decide +kernel
theorem dL_law_966 : decode cL_law 966 = .ok (.aload_n 0, 1) := by decide +kernel
theorem dL_law_967 : decode cL_law 967 = .ok (.iload_n 3, 1) := by decide +kernel
theorem dL_law_968 : decode cL_law 968 = .ok (.iconst 4, 1) := by decide +kernel
theorem dL_law_969 : decode cL_law 969 = .ok (.iadd, 1) := by decide +kernel
theorem dL_law_970 : decode cL_law 970 = .ok (.iaload, 1) := by decide +kernel
theorem dL_law_971 : decode cL_law 971 = .ok (.aload_n 0, 1) := by decide +kernel
theorem dL_law_972 : decode cL_law 972 = .ok (.iload_n 3, 1) := by decide +kernel
theorem dL_law_973 : decode cL_law 973 = .ok (.iconst 5, 1) := by decide +kernel
theorem dL_law_974 : decode cL_law 974 = .ok (.iadd, 1) := by decide +kernel
theorem dL_law_975 : decode cL_law 975 = .ok (.iaload, 1) := by decide +kernel
theorem dL_law_976 : decode cL_law 976 = .ok (.invokevirtual 123, 3) := by decide +kernel
theorem dL_law_979 : decode cL_law 979 = .ok (.aload_n 2, 1) := by decide +kernel
theorem dL_law_980 : decode cL_law 980 = .ok (.aload_n 0, 1) := by decide +kernel
theorem dL_law_981 : decode cL_law 981 = .ok (.iload_n 3, 1) := by decide +kernel
theorem dL_law_982 : decode cL_law 982 = .ok (.iconst 1, 1) := by decide +kernel
theorem dL_law_983 : decode cL_law 983 = .ok (.iadd, 1) := by decide +kernel
theorem dL_law_984 : decode cL_law 984 = .ok (.iaload, 1) := by decide +kernel
theorem dL_law_985 : decode cL_law 985 = .ok (.aload_n 0, 1) := by decide +kernel
theorem dL_law_986 : decode cL_law 986 = .ok (.iload_n 3, 1) := by decide +kernel
theorem dL_law_987 : decode cL_law 987 = .ok (.iconst 2, 1) := by decide +kernel
theorem dL_law_988 : decode cL_law 988 = .ok (.iadd, 1) := by decide +kernel
theorem dL_law_989 : decode cL_law 989 = .ok (.iaload, 1) := by decide +kernel
theorem dL_law_990 : decode cL_law 990 = .ok (.aload_n 0, 1) := by decide +kernel
theorem dL_law_991 : decode cL_law 991 = .ok (.iload_n 3, 1) := by decide +kernel
theorem dL_law_992 : decode cL_law 992 = .ok (.iconst 3, 1) := by decide +kernel
theorem dL_law_993 : decode cL_law 993 = .ok (.iadd, 1) := by decide +kernel
theorem dL_law_994 : decode cL_law 994 = .ok (.iaload, 1) := by decide +kernel
theorem dL_law_995 : decode cL_law 995 = .ok (.aload_n 0, 1) := by decide +kernel
theorem dL_law_996 : decode cL_law 996 = .ok (.iload_n 3, 1) := by decide +kernel
theorem dL_law_997 : decode cL_law 997 = .ok (.iconst 4, 1) := by decide +kernel
theorem dL_law_998 : decode cL_law 998 = .ok (.iadd, 1) := by decide +kernel
theorem dL_law_999 : decode cL_law 999 = .ok (.iaload, 1) := by decide +kernel
theorem dL_law_1000 : decode cL_law 1000 = .ok (.aload_n 0, 1) := by decide +kernel
theorem dL_law_1001 : decode cL_law 1001 = .ok (.iload_n 3, 1) := by decide +kernel
theorem dL_law_1002 : decode cL_law 1002 = .ok (.iconst 5, 1) := by decide +kernel
theorem dL_law_1003 : decode cL_law 1003 = .ok (.iadd, 1) := by decide +kernel
theorem dL_law_1004 : decode cL_law 1004 = .ok (.iaload, 1) := by decide +kernel
theorem dL_law_1005 : decode cL_law 1005 = .ok (.invokevirtual 127, 3) := by decide +kernel
theorem dL_law_1008 : decode cL_law 1008 = .ok (.if_icmp .eq 133, 3) := by decide +kernel
theorem dL_law_1011 : decode cL_law 1011 = .ok (.iconst 0, 1) := by decide +kernel
theorem dL_law_1012 : decode cL_law 1012 = .ok (.ireturn, 1) := by decide +kernel
theorem dL_law_1013 : decode cL_law 1013 = .ok (.aload_n 1, 1) := by decide +kernel
theorem dL_law_1014 : decode cL_law 1014 = .ok (.aload_n 0, 1) := by decide +kernel
theorem dL_law_1015 : decode cL_law 1015 = .ok (.iload_n 3, 1) := by decide +kernel
theorem dL_law_1016 : decode cL_law 1016 = .ok (.iconst 1, 1) := by decide +kernel
theorem dL_law_1017 : decode cL_law 1017 = .ok (.iadd, 1) := by decide +kernel
theorem dL_law_1018 : decode cL_law 1018 = .ok (.iaload, 1) := by decide +kernel
theorem dL_law_1019 : decode cL_law 1019 = .ok (.invokevirtual 128, 3) := by decide +kernel
theorem dL_law_1022 : decode cL_law 1022 = .ok (.aload_n 2, 1) := by decide +kernel
theorem dL_law_1023 : decode cL_law 1023 = .ok (.aload_n 0, 1) := by decide +kernel
theorem dL_law_1024 : decode cL_law 1024 = .ok (.iload_n 3, 1) := by decide +kernel
theorem dL_law_1025 : decode cL_law 1025 = .ok (.iconst 1, 1) := by decide +kernel
theorem dL_law_1026 : decode cL_law 1026 = .ok (.iadd, 1) := by decide +kernel
theorem dL_law_1027 : decode cL_law 1027 = .ok (.iaload, 1) := by decide +kernel
theorem dL_law_1028 : decode cL_law 1028 = .ok (.invokevirtual 131, 3) := by decide +kernel
theorem dL_law_1031 : decode cL_law 1031 = .ok (.if_icmp .eq 110, 3) := by decide +kernel
theorem dL_law_1034 : decode cL_law 1034 = .ok (.iconst 0, 1) := by decide +kernel
theorem dL_law_1035 : decode cL_law 1035 = .ok (.ireturn, 1) := by decide +kernel
theorem dL_law_1036 : decode cL_law 1036 = .ok (.aload_n 1, 1) := by decide +kernel
theorem dL_law_1037 : decode cL_law 1037 = .ok (.aload_n 0, 1) := by decide +kernel
theorem dL_law_1038 : decode cL_law 1038 = .ok (.iload_n 3, 1) := by decide +kernel
theorem dL_law_1039 : decode cL_law 1039 = .ok (.iconst 1, 1) := by decide +kernel
theorem dL_law_1040 : decode cL_law 1040 = .ok (.iadd, 1) := by decide +kernel
theorem dL_law_1041 : decode cL_law 1041 = .ok (.iaload, 1) := by decide +kernel
theorem dL_law_1042 : decode cL_law 1042 = .ok (.invokevirtual 132, 3) := by decide +kernel
theorem dL_law_1045 : decode cL_law 1045 = .ok (.aload_n 2, 1) := by decide +kernel
theorem dL_law_1046 : decode cL_law 1046 = .ok (.aload_n 0, 1) := by decide +kernel
theorem dL_law_1047 : decode cL_law 1047 = .ok (.iload_n 3, 1) := by decide +kernel
theorem dL_law_1048 : decode cL_law 1048 = .ok (.iconst 1, 1) := by decide +kernel
theorem dL_law_1049 : decode cL_law 1049 = .ok (.iadd, 1) := by decide +kernel
theorem dL_law_1050 : decode cL_law 1050 = .ok (.iaload, 1) := by decide +kernel
theorem dL_law_1051 : decode cL_law 1051 = .ok (.invokevirtual 135, 3) := by decide +kernel
theorem dL_law_1054 : decode cL_law 1054 = .ok (.if_icmp .eq 87, 3) := by decide +kernel
theorem dL_law_1057 : decode cL_law 1057 = .ok (.iconst 0, 1) := by decide +kernel
theorem dL_law_1058 : decode cL_law 1058 = .ok (.ireturn, 1) := by decide +kernel
theorem dL_law_1059 : decode cL_law 1059 = .ok (.aload_n 1, 1) := by decide +kernel
theorem dL_law_1060 : decode cL_law 1060 = .ok (.aload_n 0, 1) := by decide +kernel
theorem dL_law_1061 : decode cL_law 1061 = .ok (.iload_n 3, 1) := by decide +kernel
theorem dL_law_1062 : decode cL_law 1062 = .ok (.iconst 1, 1) := by decide +kernel
theorem dL_law_1063 : decode cL_law 1063 = .ok (.iadd, 1) := by decide +kernel
theorem dL_law_1064 : decode cL_law 1064 = .ok (.iaload, 1) := by decide +kernel
theorem dL_law_1065 : decode cL_law 1065 = .ok (.aload_n 0, 1) := by decide +kernel
theorem dL_law_1066 : decode cL_law 1066 = .ok (.iload_n 3, 1) := by decide +kernel
theorem dL_law_1067 : decode cL_law 1067 = .ok (.iconst 2, 1) := by decide +kernel
theorem dL_law_1068 : decode cL_law 1068 = .ok (.iadd, 1) := by decide +kernel
theorem dL_law_1069 : decode cL_law 1069 = .ok (.iaload, 1) := by decide +kernel
theorem dL_law_1070 : decode cL_law 1070 = .ok (.invokevirtual 136, 3) := by decide +kernel
theorem dL_law_1073 : decode cL_law 1073 = .ok (.aload_n 2, 1) := by decide +kernel
theorem dL_law_1074 : decode cL_law 1074 = .ok (.aload_n 0, 1) := by decide +kernel
theorem dL_law_1075 : decode cL_law 1075 = .ok (.iload_n 3, 1) := by decide +kernel
theorem dL_law_1076 : decode cL_law 1076 = .ok (.iconst 1, 1) := by decide +kernel
theorem dL_law_1077 : decode cL_law 1077 = .ok (.iadd, 1) := by decide +kernel
theorem dL_law_1078 : decode cL_law 1078 = .ok (.iaload, 1) := by decide +kernel
theorem dL_law_1079 : decode cL_law 1079 = .ok (.aload_n 0, 1) := by decide +kernel
theorem dL_law_1080 : decode cL_law 1080 = .ok (.iload_n 3, 1) := by decide +kernel
theorem dL_law_1081 : decode cL_law 1081 = .ok (.iconst 2, 1) := by decide +kernel
theorem dL_law_1082 : decode cL_law 1082 = .ok (.iadd, 1) := by decide +kernel
theorem dL_law_1083 : decode cL_law 1083 = .ok (.iaload, 1) := by decide +kernel
theorem dL_law_1084 : decode cL_law 1084 = .ok (.invokevirtual 139, 3) := by decide +kernel
theorem dL_law_1087 : decode cL_law 1087 = .ok (.if_icmp .eq 54, 3) := by decide +kernel
theorem dL_law_1090 : decode cL_law 1090 = .ok (.iconst 0, 1) := by decide +kernel
theorem dL_law_1091 : decode cL_law 1091 = .ok (.ireturn, 1) := by decide +kernel
theorem dL_law_1092 : decode cL_law 1092 = .ok (.aload_n 1, 1) := by decide +kernel
theorem dL_law_1093 : decode cL_law 1093 = .ok (.invokevirtual 140, 3) := by decide +kernel
theorem dL_law_1096 : decode cL_law 1096 = .ok (.aload_n 2, 1) := by decide +kernel
theorem dL_law_1097 : decode cL_law 1097 = .ok (.invokevirtual 143, 3) := by decide +kernel
theorem dL_law_1100 : decode cL_law 1100 = .ok (.if_icmp .eq 41, 3) := by decide +kernel
theorem dL_law_1103 : decode cL_law 1103 = .ok (.iconst 0, 1) := by decide +kernel
theorem dL_law_1104 : decode cL_law 1104 = .ok (.ireturn, 1) := by decide +kernel
theorem dL_law_1105 : decode cL_law 1105 = .ok (.aload_n 1, 1) := by decide +kernel
theorem dL_law_1106 : decode cL_law 1106 = .ok (.invokevirtual 144, 3) := by decide +kernel
theorem dL_law_1109 : decode cL_law 1109 = .ok (.aload_n 2, 1) := by decide +kernel
theorem dL_law_1110 : decode cL_law 1110 = .ok (.invokevirtual 147, 3) := by decide +kernel
theorem dL_law_1113 : decode cL_law 1113 = .ok (.if_icmp .eq 28, 3) := by decide +kernel
theorem dL_law_1116 : decode cL_law 1116 = .ok (.iconst 0, 1) := by decide +kernel
theorem dL_law_1117 : decode cL_law 1117 = .ok (.ireturn, 1) := by decide +kernel
theorem dL_law_1118 : decode cL_law 1118 = .ok (.aload_n 1, 1) := by decide +kernel
theorem dL_law_1119 : decode cL_law 1119 = .ok (.aload_n 0, 1) := by decide +kernel
theorem dL_law_1120 : decode cL_law 1120 = .ok (.iload_n 3, 1) := by decide +kernel
theorem dL_law_1121 : decode cL_law 1121 = .ok (.iconst 1, 1) := by decide +kernel
theorem dL_law_1122 : decode cL_law 1122 = .ok (.iadd, 1) := by decide +kernel
theorem dL_law_1123 : decode cL_law 1123 = .ok (.iaload, 1) := by decide +kernel
theorem dL_law_1124 : decode cL_law 1124 = .ok (.invokevirtual 148, 3) := by decide +kernel
theorem dL_law_1127 : decode cL_law 1127 = .ok (.aload_n 2, 1) := by decide +kernel
theorem dL_law_1128 : decode cL_law 1128 = .ok (.aload_n 0, 1) := by decide +kernel
theorem dL_law_1129 : decode cL_law 1129 = .ok (.iload_n 3, 1) := by decide +kernel
theorem dL_law_1130 : decode cL_law 1130 = .ok (.iconst 1, 1) := by decide +kernel
theorem dL_law_1131 : decode cL_law 1131 = .ok (.iadd, 1) := by decide +kernel
theorem dL_law_1132 : decode cL_law 1132 = .ok (.iaload, 1) := by decide +kernel
theorem dL_law_1133 : decode cL_law 1133 = .ok (.invokevirtual 151, 3) := by decide +kernel
theorem dL_law_1136 : decode cL_law 1136 = .ok (.if_icmp .eq 5, 3) := by decide +kernel
theorem dL_law_1139 : decode cL_law 1139 = .ok (.iconst 0, 1) := by decide +kernel
theorem dL_law_1140 : decode cL_law 1140 = .ok (.ireturn, 1) := by decide +kernel
theorem dL_law_1141 : decode cL_law 1141 = .ok (.iinc 3 6, 3) := by decide +kernel
theorem dL_law_1144 : decode cL_law 1144 = .ok (.goto (-1126), 3) := by decide +kernel
theorem dL_law_1147 : decode cL_law 1147 = .ok (.iconst 1, 1) := by decide +kernel
theorem dL_law_1148 : decode cL_law 1148 = .ok (.ireturn, 1) := by decide +kernel
abbrev vwCl : List vw_C := [(RX0, TX0, 3), (RX1, TX1, 3), (RX2, TX2, 18), (RX3, TX3, 7), (RX4, TX4, 32)]
end
section
theorem zz_last : True := trivial
end
