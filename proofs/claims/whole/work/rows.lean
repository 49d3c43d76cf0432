section
-- ===== PART A: goes FIRST, ahead of the names: the tables' words, and 'selects' of the private methods out of them =====
/-- a private method of a class that the tables say can be made, by its rows of tables_1 -/
def lw_okq (q : MethodName × Nat) : Prop := (q.1.cls ≠ "java/lang/invoke/MethodHandle" ∧ q.1.cls ≠ "java/lang/invoke/VarHandle") ∧ Cond.instantiable q.1.cls q.2 ∈ tables_1 ∧ Cond.privateMethod q.1 ∈ tables_1 ∧ Cond.instanceMethod q.1 ∈ tables_1
theorem lw_p0 : lw_okq (⟨"DotWar", "codeAt", "(I)LDotWar$Code;"⟩, 12) := ⟨⟨by decide +kernel, by decide +kernel⟩, List.mem_of_getElem? (i := 19) (by decide +kernel), List.mem_of_getElem? (i := 354) (by decide +kernel), List.mem_of_getElem? (i := 355) (by decide +kernel)⟩
theorem lw_p1 : lw_okq (⟨"DotWar$Writer", "tryItem", "(IIII)V"⟩, 3) := ⟨⟨by decide +kernel, by decide +kernel⟩, List.mem_of_getElem? (i := 113) (by decide +kernel), List.mem_of_getElem? (i := 443) (by decide +kernel), List.mem_of_getElem? (i := 444) (by decide +kernel)⟩
theorem lw_p2 : lw_okq (⟨"DotWar$Decoder", "firstShort", "(LDotWar$Code;LDotWar$Pad;I)I"⟩, 5) := ⟨⟨by decide +kernel, by decide +kernel⟩, List.mem_of_getElem? (i := 132) (by decide +kernel), List.mem_of_getElem? (i := 479) (by decide +kernel), List.mem_of_getElem? (i := 480) (by decide +kernel)⟩
theorem lw_p3 : lw_okq (⟨"DotWar$Decoder", "countSingles", "(LDotWar$Code;)V"⟩, 5) := ⟨⟨by decide +kernel, by decide +kernel⟩, List.mem_of_getElem? (i := 132) (by decide +kernel), List.mem_of_getElem? (i := 496) (by decide +kernel), List.mem_of_getElem? (i := 497) (by decide +kernel)⟩
theorem lw_p4 : lw_okq (⟨"DotWar$Decoder", "measureFar", "(LDotWar$Code;)V"⟩, 5) := ⟨⟨by decide +kernel, by decide +kernel⟩, List.mem_of_getElem? (i := 132) (by decide +kernel), List.mem_of_getElem? (i := 501) (by decide +kernel), List.mem_of_getElem? (i := 502) (by decide +kernel)⟩
theorem lw_p5 : lw_okq (⟨"DotWar$Decoder", "layChain", "(LDotWar$Code;)V"⟩, 5) := ⟨⟨by decide +kernel, by decide +kernel⟩, List.mem_of_getElem? (i := 132) (by decide +kernel), List.mem_of_getElem? (i := 505) (by decide +kernel), List.mem_of_getElem? (i := 506) (by decide +kernel)⟩
theorem lw_p6 : lw_okq (⟨"DotWar$Decoder", "leastStart", "(LDotWar$Code;I)I"⟩, 5) := ⟨⟨by decide +kernel, by decide +kernel⟩, List.mem_of_getElem? (i := 132) (by decide +kernel), List.mem_of_getElem? (i := 509) (by decide +kernel), List.mem_of_getElem? (i := 510) (by decide +kernel)⟩
theorem lw_p7 : lw_okq (⟨"DotWar$Decoder", "leastNext", "(LDotWar$Code;II)I"⟩, 5) := ⟨⟨by decide +kernel, by decide +kernel⟩, List.mem_of_getElem? (i := 132) (by decide +kernel), List.mem_of_getElem? (i := 513) (by decide +kernel), List.mem_of_getElem? (i := 514) (by decide +kernel)⟩
theorem lw_p8 : lw_okq (⟨"DotWar$Books", "usefulRows", "(I)I"⟩, 9) := ⟨⟨by decide +kernel, by decide +kernel⟩, List.mem_of_getElem? (i := 158) (by decide +kernel), List.mem_of_getElem? (i := 572) (by decide +kernel), List.mem_of_getElem? (i := 573) (by decide +kernel)⟩
theorem lw_p9 : lw_okq (⟨"DotWar$Books", "placeRows", "(I)I"⟩, 9) := ⟨⟨by decide +kernel, by decide +kernel⟩, List.mem_of_getElem? (i := 158) (by decide +kernel), List.mem_of_getElem? (i := 576) (by decide +kernel), List.mem_of_getElem? (i := 577) (by decide +kernel)⟩
theorem lw_p10 : lw_okq (⟨"DotWar$Books", "sumSets", "(ILDotWar$Code;II)V"⟩, 9) := ⟨⟨by decide +kernel, by decide +kernel⟩, List.mem_of_getElem? (i := 158) (by decide +kernel), List.mem_of_getElem? (i := 583) (by decide +kernel), List.mem_of_getElem? (i := 584) (by decide +kernel)⟩
theorem lw_p11 : lw_okq (⟨"DotWar$Books", "measureSets", "(ILDotWar$Code;II)V"⟩, 9) := ⟨⟨by decide +kernel, by decide +kernel⟩, List.mem_of_getElem? (i := 158) (by decide +kernel), List.mem_of_getElem? (i := 587) (by decide +kernel), List.mem_of_getElem? (i := 588) (by decide +kernel)⟩
theorem lw_p12 : lw_okq (⟨"DotWar$Books", "cellsWith", "(ILDotWar$Code;I)I"⟩, 9) := ⟨⟨by decide +kernel, by decide +kernel⟩, List.mem_of_getElem? (i := 158) (by decide +kernel), List.mem_of_getElem? (i := 591) (by decide +kernel), List.mem_of_getElem? (i := 592) (by decide +kernel)⟩
theorem lw_p13 : lw_okq (⟨"DotWar", "schoolAt", "(I)LDotWar$School;"⟩, 12) := ⟨⟨by decide +kernel, by decide +kernel⟩, List.mem_of_getElem? (i := 19) (by decide +kernel), List.mem_of_getElem? (i := 606) (by decide +kernel), List.mem_of_getElem? (i := 607) (by decide +kernel)⟩
theorem lw_p14 : lw_okq (⟨"DotWar", "readerAt", "(I)LDotWar$Reader;"⟩, 12) := ⟨⟨by decide +kernel, by decide +kernel⟩, List.mem_of_getElem? (i := 19) (by decide +kernel), List.mem_of_getElem? (i := 614) (by decide +kernel), List.mem_of_getElem? (i := 615) (by decide +kernel)⟩
theorem lw_p15 : lw_okq (⟨"DotWar", "readable", "(LDotWar$Reader;)I"⟩, 12) := ⟨⟨by decide +kernel, by decide +kernel⟩, List.mem_of_getElem? (i := 19) (by decide +kernel), List.mem_of_getElem? (i := 664) (by decide +kernel), List.mem_of_getElem? (i := 665) (by decide +kernel)⟩
def lw_privs_1 : List (MethodName × Nat) := [(⟨"DotWar", "codeAt", "(I)LDotWar$Code;"⟩, 12), (⟨"DotWar$Writer", "tryItem", "(IIII)V"⟩, 3), (⟨"DotWar$Decoder", "firstShort", "(LDotWar$Code;LDotWar$Pad;I)I"⟩, 5), (⟨"DotWar$Decoder", "countSingles", "(LDotWar$Code;)V"⟩, 5), (⟨"DotWar$Decoder", "measureFar", "(LDotWar$Code;)V"⟩, 5), (⟨"DotWar$Decoder", "layChain", "(LDotWar$Code;)V"⟩, 5), (⟨"DotWar$Decoder", "leastStart", "(LDotWar$Code;I)I"⟩, 5), (⟨"DotWar$Decoder", "leastNext", "(LDotWar$Code;II)I"⟩, 5), (⟨"DotWar$Books", "usefulRows", "(I)I"⟩, 9), (⟨"DotWar$Books", "placeRows", "(I)I"⟩, 9), (⟨"DotWar$Books", "sumSets", "(ILDotWar$Code;II)V"⟩, 9), (⟨"DotWar$Books", "measureSets", "(ILDotWar$Code;II)V"⟩, 9), (⟨"DotWar$Books", "cellsWith", "(ILDotWar$Code;I)I"⟩, 9), (⟨"DotWar", "schoolAt", "(I)LDotWar$School;"⟩, 12), (⟨"DotWar", "readerAt", "(I)LDotWar$Reader;"⟩, 12), (⟨"DotWar", "readable", "(LDotWar$Reader;)I"⟩, 12)]
theorem lw_r1 : ∀ q ∈ lw_privs_1, lw_okq q := List.forall_mem_cons.mpr ⟨lw_p0, List.forall_mem_cons.mpr ⟨lw_p1, List.forall_mem_cons.mpr ⟨lw_p2, List.forall_mem_cons.mpr ⟨lw_p3, List.forall_mem_cons.mpr ⟨lw_p4, List.forall_mem_cons.mpr ⟨lw_p5, List.forall_mem_cons.mpr ⟨lw_p6, List.forall_mem_cons.mpr ⟨lw_p7, List.forall_mem_cons.mpr ⟨lw_p8, List.forall_mem_cons.mpr ⟨lw_p9, List.forall_mem_cons.mpr ⟨lw_p10, List.forall_mem_cons.mpr ⟨lw_p11, List.forall_mem_cons.mpr ⟨lw_p12, List.forall_mem_cons.mpr ⟨lw_p13, List.forall_mem_cons.mpr ⟨lw_p14, List.forall_mem_cons.mpr ⟨lw_p15, fun _ h => absurd h List.not_mem_nil⟩⟩⟩⟩⟩⟩⟩⟩⟩⟩⟩⟩⟩⟩⟩⟩
theorem lw_p16 : lw_okq (⟨"DotWar", "hopeFrom", "(I)Z"⟩, 12) := ⟨⟨by decide +kernel, by decide +kernel⟩, List.mem_of_getElem? (i := 19) (by decide +kernel), List.mem_of_getElem? (i := 688) (by decide +kernel), List.mem_of_getElem? (i := 689) (by decide +kernel)⟩
theorem lw_p17 : lw_okq (⟨"DotWar", "priceBooks", "()V"⟩, 12) := ⟨⟨by decide +kernel, by decide +kernel⟩, List.mem_of_getElem? (i := 19) (by decide +kernel), List.mem_of_getElem? (i := 693) (by decide +kernel), List.mem_of_getElem? (i := 694) (by decide +kernel)⟩
theorem lw_p18 : lw_okq (⟨"DotWar$Fund", "affordableBooks", "(I)I"⟩, 6) := ⟨⟨by decide +kernel, by decide +kernel⟩, List.mem_of_getElem? (i := 242) (by decide +kernel), List.mem_of_getElem? (i := 702) (by decide +kernel), List.mem_of_getElem? (i := 703) (by decide +kernel)⟩
theorem lw_p19 : lw_okq (⟨"DotWar$Fund", "weighSet", "(III)V"⟩, 6) := ⟨⟨by decide +kernel, by decide +kernel⟩, List.mem_of_getElem? (i := 242) (by decide +kernel), List.mem_of_getElem? (i := 706) (by decide +kernel), List.mem_of_getElem? (i := 707) (by decide +kernel)⟩
theorem lw_p20 : lw_okq (⟨"DotWar", "votersOf", "(I)I"⟩, 12) := ⟨⟨by decide +kernel, by decide +kernel⟩, List.mem_of_getElem? (i := 19) (by decide +kernel), List.mem_of_getElem? (i := 745) (by decide +kernel), List.mem_of_getElem? (i := 746) (by decide +kernel)⟩
theorem lw_p21 : lw_okq (⟨"DotWar", "readersOf", "(I)I"⟩, 12) := ⟨⟨by decide +kernel, by decide +kernel⟩, List.mem_of_getElem? (i := 19) (by decide +kernel), List.mem_of_getElem? (i := 769) (by decide +kernel), List.mem_of_getElem? (i := 770) (by decide +kernel)⟩
theorem lw_p22 : lw_okq (⟨"DotWar", "countOwners", "(II)I"⟩, 12) := ⟨⟨by decide +kernel, by decide +kernel⟩, List.mem_of_getElem? (i := 19) (by decide +kernel), List.mem_of_getElem? (i := 773) (by decide +kernel), List.mem_of_getElem? (i := 774) (by decide +kernel)⟩
theorem lw_p23 : lw_okq (⟨"DotWar", "countAllOwners", "()V"⟩, 12) := ⟨⟨by decide +kernel, by decide +kernel⟩, List.mem_of_getElem? (i := 19) (by decide +kernel), List.mem_of_getElem? (i := 800) (by decide +kernel), List.mem_of_getElem? (i := 801) (by decide +kernel)⟩
theorem lw_p24 : lw_okq (⟨"DotWar$Mixer", "strangersTo", "(II)I"⟩, 9) := ⟨⟨by decide +kernel, by decide +kernel⟩, List.mem_of_getElem? (i := 273) (by decide +kernel), List.mem_of_getElem? (i := 809) (by decide +kernel), List.mem_of_getElem? (i := 810) (by decide +kernel)⟩
theorem lw_p25 : lw_okq (⟨"DotWar$Mixer", "weighPart", "(II)V"⟩, 9) := ⟨⟨by decide +kernel, by decide +kernel⟩, List.mem_of_getElem? (i := 273) (by decide +kernel), List.mem_of_getElem? (i := 821) (by decide +kernel), List.mem_of_getElem? (i := 822) (by decide +kernel)⟩
theorem lw_p26 : lw_okq (⟨"DotWar$Mixer", "sumLeast", "()V"⟩, 9) := ⟨⟨by decide +kernel, by decide +kernel⟩, List.mem_of_getElem? (i := 273) (by decide +kernel), List.mem_of_getElem? (i := 825) (by decide +kernel), List.mem_of_getElem? (i := 826) (by decide +kernel)⟩
theorem lw_p27 : lw_okq (⟨"DotWar$Mixer", "search", "(IJII)V"⟩, 9) := ⟨⟨by decide +kernel, by decide +kernel⟩, List.mem_of_getElem? (i := 273) (by decide +kernel), List.mem_of_getElem? (i := 831) (by decide +kernel), List.mem_of_getElem? (i := 832) (by decide +kernel)⟩
theorem lw_p28 : lw_okq (⟨"DotWar", "allCopies", "()I"⟩, 12) := ⟨⟨by decide +kernel, by decide +kernel⟩, List.mem_of_getElem? (i := 19) (by decide +kernel), List.mem_of_getElem? (i := 843) (by decide +kernel), List.mem_of_getElem? (i := 844) (by decide +kernel)⟩
theorem lw_p29 : lw_okq (⟨"DotWarModel", "layPad", "()V"⟩, 48) := ⟨⟨by decide +kernel, by decide +kernel⟩, List.mem_of_getElem? (i := 847) (by decide +kernel), List.mem_of_getElem? (i := 1036) (by decide +kernel), List.mem_of_getElem? (i := 1037) (by decide +kernel)⟩
theorem lw_p30 : lw_okq (⟨"DotWarModel", "findWritten", "(I)Z"⟩, 48) := ⟨⟨by decide +kernel, by decide +kernel⟩, List.mem_of_getElem? (i := 847) (by decide +kernel), List.mem_of_getElem? (i := 1040) (by decide +kernel), List.mem_of_getElem? (i := 1041) (by decide +kernel)⟩
theorem lw_p31 : lw_okq (⟨"DotWarModel", "fits", "(III)Z"⟩, 48) := ⟨⟨by decide +kernel, by decide +kernel⟩, List.mem_of_getElem? (i := 847) (by decide +kernel), List.mem_of_getElem? (i := 1045) (by decide +kernel), List.mem_of_getElem? (i := 1046) (by decide +kernel)⟩
def lw_privs_2 : List (MethodName × Nat) := [(⟨"DotWar", "hopeFrom", "(I)Z"⟩, 12), (⟨"DotWar", "priceBooks", "()V"⟩, 12), (⟨"DotWar$Fund", "affordableBooks", "(I)I"⟩, 6), (⟨"DotWar$Fund", "weighSet", "(III)V"⟩, 6), (⟨"DotWar", "votersOf", "(I)I"⟩, 12), (⟨"DotWar", "readersOf", "(I)I"⟩, 12), (⟨"DotWar", "countOwners", "(II)I"⟩, 12), (⟨"DotWar", "countAllOwners", "()V"⟩, 12), (⟨"DotWar$Mixer", "strangersTo", "(II)I"⟩, 9), (⟨"DotWar$Mixer", "weighPart", "(II)V"⟩, 9), (⟨"DotWar$Mixer", "sumLeast", "()V"⟩, 9), (⟨"DotWar$Mixer", "search", "(IJII)V"⟩, 9), (⟨"DotWar", "allCopies", "()I"⟩, 12), (⟨"DotWarModel", "layPad", "()V"⟩, 48), (⟨"DotWarModel", "findWritten", "(I)Z"⟩, 48), (⟨"DotWarModel", "fits", "(III)Z"⟩, 48)]
theorem lw_r2 : ∀ q ∈ lw_privs_2, lw_okq q := List.forall_mem_cons.mpr ⟨lw_p16, List.forall_mem_cons.mpr ⟨lw_p17, List.forall_mem_cons.mpr ⟨lw_p18, List.forall_mem_cons.mpr ⟨lw_p19, List.forall_mem_cons.mpr ⟨lw_p20, List.forall_mem_cons.mpr ⟨lw_p21, List.forall_mem_cons.mpr ⟨lw_p22, List.forall_mem_cons.mpr ⟨lw_p23, List.forall_mem_cons.mpr ⟨lw_p24, List.forall_mem_cons.mpr ⟨lw_p25, List.forall_mem_cons.mpr ⟨lw_p26, List.forall_mem_cons.mpr ⟨lw_p27, List.forall_mem_cons.mpr ⟨lw_p28, List.forall_mem_cons.mpr ⟨lw_p29, List.forall_mem_cons.mpr ⟨lw_p30, List.forall_mem_cons.mpr ⟨lw_p31, fun _ h => absurd h List.not_mem_nil⟩⟩⟩⟩⟩⟩⟩⟩⟩⟩⟩⟩⟩⟩⟩⟩
theorem lw_p32 : lw_okq (⟨"DotWarModel", "isItem", "(II)Z"⟩, 48) := ⟨⟨by decide +kernel, by decide +kernel⟩, List.mem_of_getElem? (i := 847) (by decide +kernel), List.mem_of_getElem? (i := 1049) (by decide +kernel), List.mem_of_getElem? (i := 1050) (by decide +kernel)⟩
theorem lw_p33 : lw_okq (⟨"DotWarModel", "longOf", "(II)I"⟩, 48) := ⟨⟨by decide +kernel, by decide +kernel⟩, List.mem_of_getElem? (i := 847) (by decide +kernel), List.mem_of_getElem? (i := 1053) (by decide +kernel), List.mem_of_getElem? (i := 1054) (by decide +kernel)⟩
theorem lw_p34 : lw_okq (⟨"DotWarModel", "letterAt", "(III)I"⟩, 48) := ⟨⟨by decide +kernel, by decide +kernel⟩, List.mem_of_getElem? (i := 847) (by decide +kernel), List.mem_of_getElem? (i := 1057) (by decide +kernel), List.mem_of_getElem? (i := 1058) (by decide +kernel)⟩
theorem lw_p35 : lw_okq (⟨"DotWarModel", "byItem", "(III)I"⟩, 48) := ⟨⟨by decide +kernel, by decide +kernel⟩, List.mem_of_getElem? (i := 847) (by decide +kernel), List.mem_of_getElem? (i := 1061) (by decide +kernel), List.mem_of_getElem? (i := 1062) (by decide +kernel)⟩
theorem lw_p36 : lw_okq (⟨"DotWarModel", "wideOf", "(II)I"⟩, 48) := ⟨⟨by decide +kernel, by decide +kernel⟩, List.mem_of_getElem? (i := 847) (by decide +kernel), List.mem_of_getElem? (i := 1065) (by decide +kernel), List.mem_of_getElem? (i := 1066) (by decide +kernel)⟩
theorem lw_p37 : lw_okq (⟨"DotWarModel", "pointsOf", "(II)I"⟩, 48) := ⟨⟨by decide +kernel, by decide +kernel⟩, List.mem_of_getElem? (i := 847) (by decide +kernel), List.mem_of_getElem? (i := 1069) (by decide +kernel), List.mem_of_getElem? (i := 1070) (by decide +kernel)⟩
theorem lw_p38 : lw_okq (⟨"DotWarModel", "cellAt", "(III)I"⟩, 48) := ⟨⟨by decide +kernel, by decide +kernel⟩, List.mem_of_getElem? (i := 847) (by decide +kernel), List.mem_of_getElem? (i := 1073) (by decide +kernel), List.mem_of_getElem? (i := 1074) (by decide +kernel)⟩
theorem lw_p39 : lw_okq (⟨"DotWarModel", "layWritten", "(I)V"⟩, 48) := ⟨⟨by decide +kernel, by decide +kernel⟩, List.mem_of_getElem? (i := 847) (by decide +kernel), List.mem_of_getElem? (i := 1080) (by decide +kernel), List.mem_of_getElem? (i := 1081) (by decide +kernel)⟩
theorem lw_p40 : lw_okq (⟨"DotWarModel", "firstItem", "(II)I"⟩, 48) := ⟨⟨by decide +kernel, by decide +kernel⟩, List.mem_of_getElem? (i := 847) (by decide +kernel), List.mem_of_getElem? (i := 1084) (by decide +kernel), List.mem_of_getElem? (i := 1085) (by decide +kernel)⟩
theorem lw_p41 : lw_okq (⟨"DotWarModel", "findWays", "(I)V"⟩, 48) := ⟨⟨by decide +kernel, by decide +kernel⟩, List.mem_of_getElem? (i := 847) (by decide +kernel), List.mem_of_getElem? (i := 1092) (by decide +kernel), List.mem_of_getElem? (i := 1093) (by decide +kernel)⟩
theorem lw_p42 : lw_okq (⟨"DotWarModel", "isReadBy", "(III)Z"⟩, 48) := ⟨⟨by decide +kernel, by decide +kernel⟩, List.mem_of_getElem? (i := 847) (by decide +kernel), List.mem_of_getElem? (i := 1096) (by decide +kernel), List.mem_of_getElem? (i := 1097) (by decide +kernel)⟩
theorem lw_p43 : lw_okq (⟨"DotWarModel", "findTwoWays", "(I)I"⟩, 48) := ⟨⟨by decide +kernel, by decide +kernel⟩, List.mem_of_getElem? (i := 847) (by decide +kernel), List.mem_of_getElem? (i := 1105) (by decide +kernel), List.mem_of_getElem? (i := 1106) (by decide +kernel)⟩
theorem lw_p44 : lw_okq (⟨"DotWarModel", "countItems", "(I)V"⟩, 48) := ⟨⟨by decide +kernel, by decide +kernel⟩, List.mem_of_getElem? (i := 847) (by decide +kernel), List.mem_of_getElem? (i := 1109) (by decide +kernel), List.mem_of_getElem? (i := 1110) (by decide +kernel)⟩
theorem lw_p45 : lw_okq (⟨"DotWarModel", "findComes", "()V"⟩, 48) := ⟨⟨by decide +kernel, by decide +kernel⟩, List.mem_of_getElem? (i := 847) (by decide +kernel), List.mem_of_getElem? (i := 1113) (by decide +kernel), List.mem_of_getElem? (i := 1114) (by decide +kernel)⟩
theorem lw_p46 : lw_okq (⟨"DotWarModel", "layTwoWays", "(I)Z"⟩, 48) := ⟨⟨by decide +kernel, by decide +kernel⟩, List.mem_of_getElem? (i := 847) (by decide +kernel), List.mem_of_getElem? (i := 1117) (by decide +kernel), List.mem_of_getElem? (i := 1118) (by decide +kernel)⟩
theorem lw_p47 : lw_okq (⟨"DotWarModel", "findRoom", "(II)Z"⟩, 48) := ⟨⟨by decide +kernel, by decide +kernel⟩, List.mem_of_getElem? (i := 847) (by decide +kernel), List.mem_of_getElem? (i := 1138) (by decide +kernel), List.mem_of_getElem? (i := 1139) (by decide +kernel)⟩
def lw_privs_3 : List (MethodName × Nat) := [(⟨"DotWarModel", "isItem", "(II)Z"⟩, 48), (⟨"DotWarModel", "longOf", "(II)I"⟩, 48), (⟨"DotWarModel", "letterAt", "(III)I"⟩, 48), (⟨"DotWarModel", "byItem", "(III)I"⟩, 48), (⟨"DotWarModel", "wideOf", "(II)I"⟩, 48), (⟨"DotWarModel", "pointsOf", "(II)I"⟩, 48), (⟨"DotWarModel", "cellAt", "(III)I"⟩, 48), (⟨"DotWarModel", "layWritten", "(I)V"⟩, 48), (⟨"DotWarModel", "firstItem", "(II)I"⟩, 48), (⟨"DotWarModel", "findWays", "(I)V"⟩, 48), (⟨"DotWarModel", "isReadBy", "(III)Z"⟩, 48), (⟨"DotWarModel", "findTwoWays", "(I)I"⟩, 48), (⟨"DotWarModel", "countItems", "(I)V"⟩, 48), (⟨"DotWarModel", "findComes", "()V"⟩, 48), (⟨"DotWarModel", "layTwoWays", "(I)Z"⟩, 48), (⟨"DotWarModel", "findRoom", "(II)Z"⟩, 48)]
theorem lw_r3 : ∀ q ∈ lw_privs_3, lw_okq q := List.forall_mem_cons.mpr ⟨lw_p32, List.forall_mem_cons.mpr ⟨lw_p33, List.forall_mem_cons.mpr ⟨lw_p34, List.forall_mem_cons.mpr ⟨lw_p35, List.forall_mem_cons.mpr ⟨lw_p36, List.forall_mem_cons.mpr ⟨lw_p37, List.forall_mem_cons.mpr ⟨lw_p38, List.forall_mem_cons.mpr ⟨lw_p39, List.forall_mem_cons.mpr ⟨lw_p40, List.forall_mem_cons.mpr ⟨lw_p41, List.forall_mem_cons.mpr ⟨lw_p42, List.forall_mem_cons.mpr ⟨lw_p43, List.forall_mem_cons.mpr ⟨lw_p44, List.forall_mem_cons.mpr ⟨lw_p45, List.forall_mem_cons.mpr ⟨lw_p46, List.forall_mem_cons.mpr ⟨lw_p47, fun _ h => absurd h List.not_mem_nil⟩⟩⟩⟩⟩⟩⟩⟩⟩⟩⟩⟩⟩⟩⟩⟩
theorem lw_p48 : lw_okq (⟨"DotWarModel", "layWord", "(I)V"⟩, 48) := ⟨⟨by decide +kernel, by decide +kernel⟩, List.mem_of_getElem? (i := 847) (by decide +kernel), List.mem_of_getElem? (i := 1142) (by decide +kernel), List.mem_of_getElem? (i := 1143) (by decide +kernel)⟩
theorem lw_p49 : lw_okq (⟨"DotWarModel", "bookWith", "(III)I"⟩, 48) := ⟨⟨by decide +kernel, by decide +kernel⟩, List.mem_of_getElem? (i := 847) (by decide +kernel), List.mem_of_getElem? (i := 1155) (by decide +kernel), List.mem_of_getElem? (i := 1156) (by decide +kernel)⟩
theorem lw_p50 : lw_okq (⟨"DotWarModel", "cellsWith", "(II)I"⟩, 48) := ⟨⟨by decide +kernel, by decide +kernel⟩, List.mem_of_getElem? (i := 847) (by decide +kernel), List.mem_of_getElem? (i := 1159) (by decide +kernel), List.mem_of_getElem? (i := 1160) (by decide +kernel)⟩
theorem lw_p51 : lw_okq (⟨"DotWarModel", "rowFits", "(II)Z"⟩, 48) := ⟨⟨by decide +kernel, by decide +kernel⟩, List.mem_of_getElem? (i := 847) (by decide +kernel), List.mem_of_getElem? (i := 1163) (by decide +kernel), List.mem_of_getElem? (i := 1164) (by decide +kernel)⟩
theorem lw_p52 : lw_okq (⟨"DotWarModel", "isReader", "(I)Z"⟩, 48) := ⟨⟨by decide +kernel, by decide +kernel⟩, List.mem_of_getElem? (i := 847) (by decide +kernel), List.mem_of_getElem? (i := 1180) (by decide +kernel), List.mem_of_getElem? (i := 1181) (by decide +kernel)⟩
theorem lw_p53 : lw_okq (⟨"DotWarModel", "ownCode", "(I)I"⟩, 48) := ⟨⟨by decide +kernel, by decide +kernel⟩, List.mem_of_getElem? (i := 847) (by decide +kernel), List.mem_of_getElem? (i := 1193) (by decide +kernel), List.mem_of_getElem? (i := 1194) (by decide +kernel)⟩
theorem lw_p54 : lw_okq (⟨"DotWarModel", "known", "(I)I"⟩, 48) := ⟨⟨by decide +kernel, by decide +kernel⟩, List.mem_of_getElem? (i := 847) (by decide +kernel), List.mem_of_getElem? (i := 1197) (by decide +kernel), List.mem_of_getElem? (i := 1198) (by decide +kernel)⟩
theorem lw_p55 : lw_okq (⟨"DotWarModel", "knows", "(II)Z"⟩, 48) := ⟨⟨by decide +kernel, by decide +kernel⟩, List.mem_of_getElem? (i := 847) (by decide +kernel), List.mem_of_getElem? (i := 1201) (by decide +kernel), List.mem_of_getElem? (i := 1202) (by decide +kernel)⟩
theorem lw_p56 : lw_okq (⟨"DotWarModel", "nearOf", "(II)I"⟩, 48) := ⟨⟨by decide +kernel, by decide +kernel⟩, List.mem_of_getElem? (i := 847) (by decide +kernel), List.mem_of_getElem? (i := 1211) (by decide +kernel), List.mem_of_getElem? (i := 1212) (by decide +kernel)⟩
theorem lw_p57 : lw_okq (⟨"DotWarModel", "readBy", "(I)I"⟩, 48) := ⟨⟨by decide +kernel, by decide +kernel⟩, List.mem_of_getElem? (i := 847) (by decide +kernel), List.mem_of_getElem? (i := 1232) (by decide +kernel), List.mem_of_getElem? (i := 1233) (by decide +kernel)⟩
theorem lw_p58 : lw_okq (⟨"DotWarModel", "canRead", "(II)Z"⟩, 48) := ⟨⟨by decide +kernel, by decide +kernel⟩, List.mem_of_getElem? (i := 847) (by decide +kernel), List.mem_of_getElem? (i := 1236) (by decide +kernel), List.mem_of_getElem? (i := 1237) (by decide +kernel)⟩
theorem lw_p59 : lw_okq (⟨"DotWarModel", "findFund", "(I)V"⟩, 48) := ⟨⟨by decide +kernel, by decide +kernel⟩, List.mem_of_getElem? (i := 847) (by decide +kernel), List.mem_of_getElem? (i := 1249) (by decide +kernel), List.mem_of_getElem? (i := 1250) (by decide +kernel)⟩
theorem lw_p60 : lw_okq (⟨"DotWarModel", "layFund", "(I)V"⟩, 48) := ⟨⟨by decide +kernel, by decide +kernel⟩, List.mem_of_getElem? (i := 847) (by decide +kernel), List.mem_of_getElem? (i := 1253) (by decide +kernel), List.mem_of_getElem? (i := 1254) (by decide +kernel)⟩
theorem lw_p61 : lw_okq (⟨"DotWarModel", "trySet", "(III)V"⟩, 48) := ⟨⟨by decide +kernel, by decide +kernel⟩, List.mem_of_getElem? (i := 847) (by decide +kernel), List.mem_of_getElem? (i := 1257) (by decide +kernel), List.mem_of_getElem? (i := 1258) (by decide +kernel)⟩
theorem lw_p62 : lw_okq (⟨"DotWarModel", "votersOf", "(IZ)I"⟩, 48) := ⟨⟨by decide +kernel, by decide +kernel⟩, List.mem_of_getElem? (i := 847) (by decide +kernel), List.mem_of_getElem? (i := 1288) (by decide +kernel), List.mem_of_getElem? (i := 1289) (by decide +kernel)⟩
theorem lw_p63 : lw_okq (⟨"DotWarModel", "mayVote", "(II)Z"⟩, 48) := ⟨⟨by decide +kernel, by decide +kernel⟩, List.mem_of_getElem? (i := 847) (by decide +kernel), List.mem_of_getElem? (i := 1292) (by decide +kernel), List.mem_of_getElem? (i := 1293) (by decide +kernel)⟩
def lw_privs_4 : List (MethodName × Nat) := [(⟨"DotWarModel", "layWord", "(I)V"⟩, 48), (⟨"DotWarModel", "bookWith", "(III)I"⟩, 48), (⟨"DotWarModel", "cellsWith", "(II)I"⟩, 48), (⟨"DotWarModel", "rowFits", "(II)Z"⟩, 48), (⟨"DotWarModel", "isReader", "(I)Z"⟩, 48), (⟨"DotWarModel", "ownCode", "(I)I"⟩, 48), (⟨"DotWarModel", "known", "(I)I"⟩, 48), (⟨"DotWarModel", "knows", "(II)Z"⟩, 48), (⟨"DotWarModel", "nearOf", "(II)I"⟩, 48), (⟨"DotWarModel", "readBy", "(I)I"⟩, 48), (⟨"DotWarModel", "canRead", "(II)Z"⟩, 48), (⟨"DotWarModel", "findFund", "(I)V"⟩, 48), (⟨"DotWarModel", "layFund", "(I)V"⟩, 48), (⟨"DotWarModel", "trySet", "(III)V"⟩, 48), (⟨"DotWarModel", "votersOf", "(IZ)I"⟩, 48), (⟨"DotWarModel", "mayVote", "(II)Z"⟩, 48)]
theorem lw_r4 : ∀ q ∈ lw_privs_4, lw_okq q := List.forall_mem_cons.mpr ⟨lw_p48, List.forall_mem_cons.mpr ⟨lw_p49, List.forall_mem_cons.mpr ⟨lw_p50, List.forall_mem_cons.mpr ⟨lw_p51, List.forall_mem_cons.mpr ⟨lw_p52, List.forall_mem_cons.mpr ⟨lw_p53, List.forall_mem_cons.mpr ⟨lw_p54, List.forall_mem_cons.mpr ⟨lw_p55, List.forall_mem_cons.mpr ⟨lw_p56, List.forall_mem_cons.mpr ⟨lw_p57, List.forall_mem_cons.mpr ⟨lw_p58, List.forall_mem_cons.mpr ⟨lw_p59, List.forall_mem_cons.mpr ⟨lw_p60, List.forall_mem_cons.mpr ⟨lw_p61, List.forall_mem_cons.mpr ⟨lw_p62, List.forall_mem_cons.mpr ⟨lw_p63, fun _ h => absurd h List.not_mem_nil⟩⟩⟩⟩⟩⟩⟩⟩⟩⟩⟩⟩⟩⟩⟩⟩
theorem lw_p64 : lw_okq (⟨"DotWarModel", "factOf", "(II)I"⟩, 48) := ⟨⟨by decide +kernel, by decide +kernel⟩, List.mem_of_getElem? (i := 847) (by decide +kernel), List.mem_of_getElem? (i := 1296) (by decide +kernel), List.mem_of_getElem? (i := 1297) (by decide +kernel)⟩
theorem lw_p65 : lw_okq (⟨"DotWarModel", "layMix", "(I)Z"⟩, 48) := ⟨⟨by decide +kernel, by decide +kernel⟩, List.mem_of_getElem? (i := 847) (by decide +kernel), List.mem_of_getElem? (i := 1314) (by decide +kernel), List.mem_of_getElem? (i := 1315) (by decide +kernel)⟩
theorem lw_p66 : lw_okq (⟨"DotWarModel", "mayMix", "()Z"⟩, 48) := ⟨⟨by decide +kernel, by decide +kernel⟩, List.mem_of_getElem? (i := 847) (by decide +kernel), List.mem_of_getElem? (i := 1319) (by decide +kernel), List.mem_of_getElem? (i := 1320) (by decide +kernel)⟩
theorem lw_p67 : lw_okq (⟨"DotWarModel", "mixedCell", "(I)I"⟩, 48) := ⟨⟨by decide +kernel, by decide +kernel⟩, List.mem_of_getElem? (i := 847) (by decide +kernel), List.mem_of_getElem? (i := 1323) (by decide +kernel), List.mem_of_getElem? (i := 1324) (by decide +kernel)⟩
theorem lw_p68 : lw_okq (⟨"DotWarModel", "anewOf", "()I"⟩, 48) := ⟨⟨by decide +kernel, by decide +kernel⟩, List.mem_of_getElem? (i := 847) (by decide +kernel), List.mem_of_getElem? (i := 1331) (by decide +kernel), List.mem_of_getElem? (i := 1332) (by decide +kernel)⟩
theorem lw_p69 : lw_okq (⟨"DotWarModel", "layAnew", "()V"⟩, 48) := ⟨⟨by decide +kernel, by decide +kernel⟩, List.mem_of_getElem? (i := 847) (by decide +kernel), List.mem_of_getElem? (i := 1339) (by decide +kernel), List.mem_of_getElem? (i := 1340) (by decide +kernel)⟩
theorem lw_p70 : lw_okq (⟨"DotWarModel", "lettersOf", "(I)I"⟩, 48) := ⟨⟨by decide +kernel, by decide +kernel⟩, List.mem_of_getElem? (i := 847) (by decide +kernel), List.mem_of_getElem? (i := 1344) (by decide +kernel), List.mem_of_getElem? (i := 1345) (by decide +kernel)⟩
def lw_privs_5 : List (MethodName × Nat) := [(⟨"DotWarModel", "factOf", "(II)I"⟩, 48), (⟨"DotWarModel", "layMix", "(I)Z"⟩, 48), (⟨"DotWarModel", "mayMix", "()Z"⟩, 48), (⟨"DotWarModel", "mixedCell", "(I)I"⟩, 48), (⟨"DotWarModel", "anewOf", "()I"⟩, 48), (⟨"DotWarModel", "layAnew", "()V"⟩, 48), (⟨"DotWarModel", "lettersOf", "(I)I"⟩, 48)]
theorem lw_r5 : ∀ q ∈ lw_privs_5, lw_okq q := List.forall_mem_cons.mpr ⟨lw_p64, List.forall_mem_cons.mpr ⟨lw_p65, List.forall_mem_cons.mpr ⟨lw_p66, List.forall_mem_cons.mpr ⟨lw_p67, List.forall_mem_cons.mpr ⟨lw_p68, List.forall_mem_cons.mpr ⟨lw_p69, List.forall_mem_cons.mpr ⟨lw_p70, fun _ h => absurd h List.not_mem_nil⟩⟩⟩⟩⟩⟩⟩
def lw_privs : List (MethodName × Nat) := lw_privs_1 ++ (lw_privs_2 ++ (lw_privs_3 ++ (lw_privs_4 ++ (lw_privs_5))))
def lw_tbl : List Cond := k2_sels lw_privs ++ tables_1
theorem lw_privs_ok : ∀ q ∈ lw_privs, lw_okq q := by
  show ∀ q ∈ lw_privs_1 ++ (lw_privs_2 ++ (lw_privs_3 ++ (lw_privs_4 ++ (lw_privs_5)))), lw_okq q
  exact List.forall_mem_append.mpr ⟨lw_r1, List.forall_mem_append.mpr ⟨lw_r2, List.forall_mem_append.mpr ⟨lw_r3, List.forall_mem_append.mpr ⟨lw_r4, lw_r5⟩⟩⟩⟩
end
section
def RX0 : String := "DotWar$Books"
def TX0 : u_T := fun k => match k with
  | 0 => ("DotWar$Books", "writer", "LDotWar$Writer;", true)
  | 1 => ("DotWar$Books", "words", "LDotWar$Texts;", true)
  | 2 => ("DotWar$Books", "counts", "[[I", true)
  | 3 => ("DotWar$Books", "weights", "[I", true)
  | 4 => ("DotWar$Books", "rows", "LDotWar$Texts;", true)
  | 5 => ("DotWar$Books", "rowsAt", "[I", true)
  | 6 => ("DotWar$Books", "cellsFrom", "[I", true)
  | 7 => ("DotWar$Books", "setCells", "[I", true)
  | _ => ("DotWar$Books", "setTotals", "[I", true)
def tyX0 : Nat → FieldType := fun k => match k with
  | 0 => .object "DotWar$Writer"
  | 1 => .object "DotWar$Texts"
  | 2 => .array (.array .int)
  | 3 => .array .int
  | 4 => .object "DotWar$Texts"
  | 5 => .array .int
  | 6 => .array .int
  | 7 => .array .int
  | _ => .array .int
abbrev wsX00 : List Cond := u_ws RX0 TX0 9
theorem nmX0 : ∀ a, a < 9 → ∀ b, b < 9 → a ≠ b → (TX0 a).2.1 ≠ (TX0 b).2.1 := by decide +kernel
theorem tyX0_ok : ∀ k, k < 9 → parseFieldDescriptor (TX0 k).2.2.1 = some (tyX0 k) := by decide +kernel
abbrev cX0_init : ByteArray := prog_2_method_1_code
def yX0_init : MethodName := ⟨RX0, "<init>", "(LDotWar$Writer;)V"⟩
abbrev cX0_weighWords : ByteArray := prog_2_method_2_code
def yX0_weighWords : MethodName := ⟨RX0, "weighWords", "(LDotWar$Code;)V"⟩
abbrev cX0_canPrint : ByteArray := prog_2_method_3_code
def yX0_canPrint : MethodName := ⟨RX0, "canPrint", "(I)Z"⟩
abbrev cX0_cellsOf : ByteArray := prog_2_method_4_code
def yX0_cellsOf : MethodName := ⟨RX0, "cellsOf", "(I)I"⟩
abbrev cX0_pointsOf : ByteArray := prog_2_method_5_code
def yX0_pointsOf : MethodName := ⟨RX0, "pointsOf", "(I)I"⟩
abbrev cX0_pagesOf : ByteArray := prog_2_method_6_code
def yX0_pagesOf : MethodName := ⟨RX0, "pagesOf", "(I)I"⟩
abbrev cX0_chooseRows : ByteArray := prog_2_method_7_code
def yX0_chooseRows : MethodName := ⟨RX0, "chooseRows", "(ILDotWar$Code;I)I"⟩
abbrev cX0_nextSet : ByteArray := prog_2_method_8_code
def yX0_nextSet : MethodName := ⟨RX0, "nextSet", "(II)I"⟩
abbrev cX0_times : ByteArray := prog_2_method_9_code
def yX0_times : MethodName := ⟨RX0, "times", "(II)I"⟩
abbrev cX0_usefulRows : ByteArray := prog_2_method_10_code
def yX0_usefulRows : MethodName := ⟨RX0, "usefulRows", "(I)I"⟩
abbrev cX0_sumSets : ByteArray := prog_2_method_11_code
def yX0_sumSets : MethodName := ⟨RX0, "sumSets", "(ILDotWar$Code;II)V"⟩
abbrev cX0_placeRows : ByteArray := prog_2_method_12_code
def yX0_placeRows : MethodName := ⟨RX0, "placeRows", "(I)I"⟩
abbrev cX0_measureSets : ByteArray := prog_2_method_13_code
def yX0_measureSets : MethodName := ⟨RX0, "measureSets", "(ILDotWar$Code;II)V"⟩
abbrev cX0_cellsWith : ByteArray := prog_2_method_14_code
def yX0_cellsWith : MethodName := ⟨RX0, "cellsWith", "(ILDotWar$Code;I)I"⟩
def RX1 : String := "DotWar$Code"
def TX1 : u_T := fun k => match k with
  | 0 => ("DotWar$Code", "cells", "[I", true)
  | 1 => ("DotWar$Code", "shorts", "LDotWar$Texts;", true)
  | 2 => ("DotWar$Code", "firsts", "[I", true)
  | _ => ("DotWar$Code", "seconds", "[I", true)
def tyX1 : Nat → FieldType := fun k => match k with
  | 0 => .array .int
  | 1 => .object "DotWar$Texts"
  | 2 => .array .int
  | _ => .array .int
abbrev wsX10 : List Cond := u_ws RX1 TX1 4
theorem nmX1 : ∀ a, a < 4 → ∀ b, b < 4 → a ≠ b → (TX1 a).2.1 ≠ (TX1 b).2.1 := by decide +kernel
theorem tyX1_ok : ∀ k, k < 4 → parseFieldDescriptor (TX1 k).2.2.1 = some (tyX1 k) := by decide +kernel
abbrev cX1_init : ByteArray := prog_3_method_1_code
def yX1_init : MethodName := ⟨RX1, "<init>", "()V"⟩
abbrev cX1_addShort : ByteArray := prog_3_method_2_code
def yX1_addShort : MethodName := ⟨RX1, "addShort", "(LDotWar$Pad;LDotWar$Pad;)I"⟩
abbrev cX1_cellsOfShort : ByteArray := prog_3_method_3_code
def yX1_cellsOfShort : MethodName := ⟨RX1, "cellsOfShort", "(I)I"⟩
abbrev cX1_pointsOfShort : ByteArray := prog_3_method_4_code
def yX1_pointsOfShort : MethodName := ⟨RX1, "pointsOfShort", "(I)I"⟩
abbrev cX1_behindShort : ByteArray := prog_3_method_5_code
def yX1_behindShort : MethodName := ⟨RX1, "behindShort", "(ILDotWar$Pad;I)I"⟩
abbrev cX1_letterCount : ByteArray := prog_3_method_6_code
def yX1_letterCount : MethodName := ⟨RX1, "letterCount", "()I"⟩
abbrev cX1_likeOf : ByteArray := prog_3_method_7_code
def yX1_likeOf : MethodName := ⟨RX1, "likeOf", "(I)I"⟩
abbrev cX1_unlikeLetters : ByteArray := prog_3_method_8_code
def yX1_unlikeLetters : MethodName := ⟨RX1, "unlikeLetters", "(LDotWar$Code;)I"⟩
def RX2 : String := "DotWar$Decoder"
def TX2 : u_T := fun k => match k with
  | 0 => ("DotWar$Decoder", "counts", "[I", true)
  | 1 => ("DotWar$Decoder", "firstWay", "LDotWar$Pad;", true)
  | 2 => ("DotWar$Decoder", "singles", "[I", true)
  | 3 => ("DotWar$Decoder", "far", "[I", true)
  | _ => ("DotWar$Decoder", "twice", "LDotWar$Pad;", true)
def tyX2 : Nat → FieldType := fun k => match k with
  | 0 => .array .int
  | 1 => .object "DotWar$Pad"
  | 2 => .array .int
  | 3 => .array .int
  | _ => .object "DotWar$Pad"
abbrev wsX20 : List Cond := u_ws RX2 TX2 5
theorem nmX2 : ∀ a, a < 5 → ∀ b, b < 5 → a ≠ b → (TX2 a).2.1 ≠ (TX2 b).2.1 := by decide +kernel
theorem tyX2_ok : ∀ k, k < 5 → parseFieldDescriptor (TX2 k).2.2.1 = some (tyX2 k) := by decide +kernel
abbrev cX2_init : ByteArray := prog_4_method_1_code
def yX2_init : MethodName := ⟨RX2, "<init>", "()V"⟩
abbrev cX2_countWays : ByteArray := prog_4_method_2_code
def yX2_countWays : MethodName := ⟨RX2, "countWays", "(LDotWar$Code;LDotWar$Pad;)I"⟩
abbrev cX2_takeFirstWay : ByteArray := prog_4_method_3_code
def yX2_takeFirstWay : MethodName := ⟨RX2, "takeFirstWay", "(LDotWar$Code;LDotWar$Pad;)V"⟩
abbrev cX2_firstShort : ByteArray := prog_4_method_4_code
def yX2_firstShort : MethodName := ⟨RX2, "firstShort", "(LDotWar$Code;LDotWar$Pad;I)I"⟩
abbrev cX2_firstLetter : ByteArray := prog_4_method_5_code
def yX2_firstLetter : MethodName := ⟨RX2, "firstLetter", "(LDotWar$Code;I)I"⟩
abbrev cX2_findTwoWays : ByteArray := prog_4_method_6_code
def yX2_findTwoWays : MethodName := ⟨RX2, "findTwoWays", "(LDotWar$Code;)V"⟩
abbrev cX2_countSingles : ByteArray := prog_4_method_7_code
def yX2_countSingles : MethodName := ⟨RX2, "countSingles", "(LDotWar$Code;)V"⟩
abbrev cX2_measureFar : ByteArray := prog_4_method_8_code
def yX2_measureFar : MethodName := ⟨RX2, "measureFar", "(LDotWar$Code;)V"⟩
abbrev cX2_layChain : ByteArray := prog_4_method_9_code
def yX2_layChain : MethodName := ⟨RX2, "layChain", "(LDotWar$Code;)V"⟩
abbrev cX2_leastStart : ByteArray := prog_4_method_10_code
def yX2_leastStart : MethodName := ⟨RX2, "leastStart", "(LDotWar$Code;I)I"⟩
abbrev cX2_leastNext : ByteArray := prog_4_method_11_code
def yX2_leastNext : MethodName := ⟨RX2, "leastNext", "(LDotWar$Code;II)I"⟩
abbrev cX2_leastSharedPair : ByteArray := prog_4_method_12_code
def yX2_leastSharedPair : MethodName := ⟨RX2, "leastSharedPair", "(LDotWar$Code;)I"⟩
def RX3 : String := "DotWar$Fund"
def TX3 : u_T := fun k => match k with
  | 0 => ("DotWar$Fund", "gains", "[I", true)
  | 1 => ("DotWar$Fund", "prices", "[I", true)
  | 2 => ("DotWar$Fund", "bestGain", "I", false)
  | 3 => ("DotWar$Fund", "bestCode", "I", false)
  | 4 => ("DotWar$Fund", "bestSet", "I", false)
  | _ => ("DotWar$Fund", "bestPrice", "I", false)
def tyX3 : Nat → FieldType := fun k => match k with
  | 0 => .array .int
  | 1 => .array .int
  | 2 => .int
  | 3 => .int
  | 4 => .int
  | _ => .int
abbrev wsX30 : List Cond := u_ws RX3 TX3 6
theorem nmX3 : ∀ a, a < 6 → ∀ b, b < 6 → a ≠ b → (TX3 a).2.1 ≠ (TX3 b).2.1 := by decide +kernel
theorem tyX3_ok : ∀ k, k < 6 → parseFieldDescriptor (TX3 k).2.2.1 = some (tyX3 k) := by decide +kernel
abbrev cX3_init : ByteArray := prog_5_method_1_code
def yX3_init : MethodName := ⟨RX3, "<init>", "()V"⟩
abbrev cX3_clear : ByteArray := prog_5_method_2_code
def yX3_clear : MethodName := ⟨RX3, "clear", "()V"⟩
abbrev cX3_weigh : ByteArray := prog_5_method_3_code
def yX3_weigh : MethodName := ⟨RX3, "weigh", "(II)V"⟩
abbrev cX3_affordableBooks : ByteArray := prog_5_method_4_code
def yX3_affordableBooks : MethodName := ⟨RX3, "affordableBooks", "(I)I"⟩
abbrev cX3_weighSet : ByteArray := prog_5_method_5_code
def yX3_weighSet : MethodName := ⟨RX3, "weighSet", "(III)V"⟩
def RX4 : String := "DotWar$Mixer"
def TX4 : u_T := fun k => match k with
  | 0 => ("DotWar$Mixer", "codes", "[LDotWar$Code;", true)
  | 1 => ("DotWar$Mixer", "parts", "[I", true)
  | 2 => ("DotWar$Mixer", "owners", "[I", true)
  | 3 => ("DotWar$Mixer", "picks", "[I", true)
  | 4 => ("DotWar$Mixer", "cellBits", "[J", true)
  | 5 => ("DotWar$Mixer", "costs", "[I", true)
  | 6 => ("DotWar$Mixer", "leastFrom", "[I", true)
  | 7 => ("DotWar$Mixer", "bestCost", "I", false)
  | _ => ("DotWar$Mixer", "bestDigits", "I", false)
def tyX4 : Nat → FieldType := fun k => match k with
  | 0 => .array (.object "DotWar$Code")
  | 1 => .array .int
  | 2 => .array .int
  | 3 => .array .int
  | 4 => .array .long
  | 5 => .array .int
  | 6 => .array .int
  | 7 => .int
  | _ => .int
abbrev wsX40 : List Cond := u_ws RX4 TX4 9
theorem nmX4 : ∀ a, a < 9 → ∀ b, b < 9 → a ≠ b → (TX4 a).2.1 ≠ (TX4 b).2.1 := by decide +kernel
theorem tyX4_ok : ∀ k, k < 9 → parseFieldDescriptor (TX4 k).2.2.1 = some (tyX4 k) := by decide +kernel
abbrev cX4_init : ByteArray := prog_6_method_1_code
def yX4_init : MethodName := ⟨RX4, "<init>", "([LDotWar$Code;)V"⟩
abbrev cX4_takeDigits : ByteArray := prog_6_method_2_code
def yX4_takeDigits : MethodName := ⟨RX4, "takeDigits", "(I)Z"⟩
abbrev cX4_mayBe : ByteArray := prog_6_method_3_code
def yX4_mayBe : MethodName := ⟨RX4, "mayBe", "()Z"⟩
abbrev cX4_cellBit : ByteArray := prog_6_method_4_code
def yX4_cellBit : MethodName := ⟨RX4, "cellBit", "(IJ)J"⟩
abbrev cX4_newToAll : ByteArray := prog_6_method_5_code
def yX4_newToAll : MethodName := ⟨RX4, "newToAll", "()I"⟩
abbrev cX4_strangersTo : ByteArray := prog_6_method_6_code
def yX4_strangersTo : MethodName := ⟨RX4, "strangersTo", "(II)I"⟩
abbrev cX4_findBest : ByteArray := prog_6_method_7_code
def yX4_findBest : MethodName := ⟨RX4, "findBest", "()I"⟩
abbrev cX4_weighPart : ByteArray := prog_6_method_8_code
def yX4_weighPart : MethodName := ⟨RX4, "weighPart", "(II)V"⟩
abbrev cX4_sumLeast : ByteArray := prog_6_method_9_code
def yX4_sumLeast : MethodName := ⟨RX4, "sumLeast", "()V"⟩
abbrev cX4_search : ByteArray := prog_6_method_10_code
def yX4_search : MethodName := ⟨RX4, "search", "(IJII)V"⟩
def RX5 : String := "DotWar$Pad"
def TX5 : u_T := fun k => match k with
  | 0 => ("DotWar$Pad", "signs", "[I", true)
  | _ => ("DotWar$Pad", "size", "I", false)
def tyX5 : Nat → FieldType := fun k => match k with
  | 0 => .array .int
  | _ => .int
abbrev wsX50 : List Cond := u_ws RX5 TX5 2
theorem nmX5 : ∀ a, a < 2 → ∀ b, b < 2 → a ≠ b → (TX5 a).2.1 ≠ (TX5 b).2.1 := by decide +kernel
theorem tyX5_ok : ∀ k, k < 2 → parseFieldDescriptor (TX5 k).2.2.1 = some (tyX5 k) := by decide +kernel
abbrev cX5_init : ByteArray := prog_7_method_1_code
def yX5_init : MethodName := ⟨RX5, "<init>", "(I)V"⟩
abbrev cX5_isFull : ByteArray := prog_7_method_2_code
def yX5_isFull : MethodName := ⟨RX5, "isFull", "()Z"⟩
abbrev cX5_add : ByteArray := prog_7_method_3_code
def yX5_add : MethodName := ⟨RX5, "add", "(I)I"⟩
abbrev cX5_empty : ByteArray := prog_7_method_4_code
def yX5_empty : MethodName := ⟨RX5, "empty", "()I"⟩
abbrev cX5_at : ByteArray := prog_7_method_5_code
def yX5_at : MethodName := ⟨RX5, "at", "(I)I"⟩
def RX6 : String := "DotWar$Reader"
def TX6 : u_T := fun k => match k with
  | 0 => ("DotWar$Reader", "age", "I", false)
  | 1 => ("DotWar$Reader", "school", "I", false)
  | 2 => ("DotWar$Reader", "sighted", "I", false)
  | _ => ("DotWar$Reader", "years", "[I", true)
def tyX6 : Nat → FieldType := fun k => match k with
  | 0 => .int
  | 1 => .int
  | 2 => .int
  | _ => .array .int
abbrev wsX60 : List Cond := u_ws RX6 TX6 4
theorem nmX6 : ∀ a, a < 4 → ∀ b, b < 4 → a ≠ b → (TX6 a).2.1 ≠ (TX6 b).2.1 := by decide +kernel
theorem tyX6_ok : ∀ k, k < 4 → parseFieldDescriptor (TX6 k).2.2.1 = some (tyX6 k) := by decide +kernel
abbrev cX6_init : ByteArray := prog_8_method_1_code
def yX6_init : MethodName := ⟨RX6, "<init>", "()V"⟩
abbrev cX6_ownCode : ByteArray := prog_8_method_2_code
def yX6_ownCode : MethodName := ⟨RX6, "ownCode", "()I"⟩
abbrev cX6_mostYears : ByteArray := prog_8_method_3_code
def yX6_mostYears : MethodName := ⟨RX6, "mostYears", "()I"⟩
abbrev cX6_knownCodes : ByteArray := prog_8_method_4_code
def yX6_knownCodes : MethodName := ⟨RX6, "knownCodes", "()I"⟩
def RX7 : String := "DotWar$Rule"
def TX7 : u_T := fun k => match k with
  | _ => ("", "", "", false)
def tyX7 : Nat → FieldType := fun k => match k with
  | _ => .int
abbrev wsX70 : List Cond := u_ws RX7 TX7 0
theorem nmX7 : ∀ a, a < 0 → ∀ b, b < 0 → a ≠ b → (TX7 a).2.1 ≠ (TX7 b).2.1 := by decide +kernel
theorem tyX7_ok : ∀ k, k < 0 → parseFieldDescriptor (TX7 k).2.2.1 = some (tyX7 k) := by decide +kernel
abbrev cX7_faultOf : ByteArray := prog_9_method_2_code
def yX7_faultOf : MethodName := ⟨RX7, "faultOf", "(LDotWar$Pad;)I"⟩
abbrev cX7_stateAfter : ByteArray := prog_9_method_3_code
def yX7_stateAfter : MethodName := ⟨RX7, "stateAfter", "(II)I"⟩
abbrev cX7_isSubject : ByteArray := prog_9_method_4_code
def yX7_isSubject : MethodName := ⟨RX7, "isSubject", "(I)Z"⟩
abbrev cX7_isComparison : ByteArray := prog_9_method_5_code
def yX7_isComparison : MethodName := ⟨RX7, "isComparison", "(I)Z"⟩
abbrev cX7_isDigit : ByteArray := prog_9_method_6_code
def yX7_isDigit : MethodName := ⟨RX7, "isDigit", "(I)Z"⟩
abbrev cX7_isJoint : ByteArray := prog_9_method_7_code
def yX7_isJoint : MethodName := ⟨RX7, "isJoint", "(I)Z"⟩
abbrev cX7_allows : ByteArray := prog_9_method_8_code
def yX7_allows : MethodName := ⟨RX7, "allows", "(LDotWar$Pad;LDotWar$Reader;)Z"⟩
abbrev cX7_valueOf : ByteArray := prog_9_method_9_code
def yX7_valueOf : MethodName := ⟨RX7, "valueOf", "(ILDotWar$Reader;)I"⟩
abbrev cX7_holds : ByteArray := prog_9_method_10_code
def yX7_holds : MethodName := ⟨RX7, "holds", "(III)Z"⟩
def RX8 : String := "DotWar$School"
def TX8 : u_T := fun k => match k with
  | 0 => ("DotWar$School", "copies", "[[I", true)
  | _ => ("DotWar$School", "rule", "LDotWar$Pad;", true)
def tyX8 : Nat → FieldType := fun k => match k with
  | 0 => .array (.array .int)
  | _ => .object "DotWar$Pad"
abbrev wsX80 : List Cond := u_ws RX8 TX8 2
theorem nmX8 : ∀ a, a < 2 → ∀ b, b < 2 → a ≠ b → (TX8 a).2.1 ≠ (TX8 b).2.1 := by decide +kernel
theorem tyX8_ok : ∀ k, k < 2 → parseFieldDescriptor (TX8 k).2.2.1 = some (tyX8 k) := by decide +kernel
abbrev cX8_init : ByteArray := prog_10_method_1_code
def yX8_init : MethodName := ⟨RX8, "<init>", "()V"⟩
abbrev cX8_booksIn : ByteArray := prog_10_method_2_code
def yX8_booksIn : MethodName := ⟨RX8, "booksIn", "(I)I"⟩
abbrev cX8_copiesBeyond : ByteArray := prog_10_method_3_code
def yX8_copiesBeyond : MethodName := ⟨RX8, "copiesBeyond", "(I)I"⟩
def RX9 : String := "DotWar$Texts"
def TX9 : u_T := fun k => match k with
  | 0 => ("DotWar$Texts", "width", "I", true)
  | 1 => ("DotWar$Texts", "letters", "[I", true)
  | 2 => ("DotWar$Texts", "sizes", "[I", true)
  | _ => ("DotWar$Texts", "count", "I", false)
def tyX9 : Nat → FieldType := fun k => match k with
  | 0 => .int
  | 1 => .array .int
  | 2 => .array .int
  | _ => .int
abbrev wsX90 : List Cond := u_ws RX9 TX9 4
theorem nmX9 : ∀ a, a < 4 → ∀ b, b < 4 → a ≠ b → (TX9 a).2.1 ≠ (TX9 b).2.1 := by decide +kernel
theorem tyX9_ok : ∀ k, k < 4 → parseFieldDescriptor (TX9 k).2.2.1 = some (tyX9 k) := by decide +kernel
abbrev cX9_init : ByteArray := prog_11_method_1_code
def yX9_init : MethodName := ⟨RX9, "<init>", "(II)V"⟩
abbrev cX9_isFull : ByteArray := prog_11_method_2_code
def yX9_isFull : MethodName := ⟨RX9, "isFull", "()Z"⟩
abbrev cX9_take : ByteArray := prog_11_method_3_code
def yX9_take : MethodName := ⟨RX9, "take", "(LDotWar$Pad;)I"⟩
abbrev cX9_standsAt : ByteArray := prog_11_method_4_code
def yX9_standsAt : MethodName := ⟨RX9, "standsAt", "(I[III)Z"⟩
def RX10 : String := "DotWar$Writer"
def TX10 : u_T := fun k => match k with
  | 0 => ("DotWar$Writer", "weights", "[I", true)
  | 1 => ("DotWar$Writer", "items", "[I", true)
  | _ => ("DotWar$Writer", "line", "LDotWar$Pad;", true)
def tyX10 : Nat → FieldType := fun k => match k with
  | 0 => .array .int
  | 1 => .array .int
  | _ => .object "DotWar$Pad"
abbrev wsX100 : List Cond := u_ws RX10 TX10 3
theorem nmX10 : ∀ a, a < 3 → ∀ b, b < 3 → a ≠ b → (TX10 a).2.1 ≠ (TX10 b).2.1 := by decide +kernel
theorem tyX10_ok : ∀ k, k < 3 → parseFieldDescriptor (TX10 k).2.2.1 = some (tyX10 k) := by decide +kernel
abbrev cX10_init : ByteArray := prog_12_method_1_code
def yX10_init : MethodName := ⟨RX10, "<init>", "()V"⟩
abbrev cX10_cellsOf : ByteArray := prog_12_method_2_code
def yX10_cellsOf : MethodName := ⟨RX10, "cellsOf", "(I)I"⟩
abbrev cX10_pointsOf : ByteArray := prog_12_method_3_code
def yX10_pointsOf : MethodName := ⟨RX10, "pointsOf", "(I)I"⟩
abbrev cX10_weigh : ByteArray := prog_12_method_4_code
def yX10_weigh : MethodName := ⟨RX10, "weigh", "(LDotWar$Code;[III)I"⟩
abbrev cX10_tryItem : ByteArray := prog_12_method_5_code
def yX10_tryItem : MethodName := ⟨RX10, "tryItem", "(IIII)V"⟩
abbrev cX10_layOut : ByteArray := prog_12_method_6_code
def yX10_layOut : MethodName := ⟨RX10, "layOut", "(LDotWar$Code;LDotWar$Pad;)Z"⟩
abbrev cX10_pointsOfLine : ByteArray := prog_12_method_7_code
def yX10_pointsOfLine : MethodName := ⟨RX10, "pointsOfLine", "()I"⟩
def RX11 : String := "DotWar"
def TX11 : u_T := fun k => match k with
  | 0 => ("DotWar", "codes", "[LDotWar$Code;", true)
  | 1 => ("DotWar", "letterPad", "LDotWar$Pad;", true)
  | 2 => ("DotWar", "cellPad", "LDotWar$Pad;", true)
  | 3 => ("DotWar", "signPad", "LDotWar$Pad;", true)
  | 4 => ("DotWar", "writer", "LDotWar$Writer;", true)
  | 5 => ("DotWar", "decoder", "LDotWar$Decoder;", true)
  | 6 => ("DotWar", "books", "LDotWar$Books;", true)
  | 7 => ("DotWar", "readers", "[LDotWar$Reader;", true)
  | 8 => ("DotWar", "readerCount", "I", false)
  | 9 => ("DotWar", "schools", "[LDotWar$School;", true)
  | 10 => ("DotWar", "fundPlan", "LDotWar$Fund;", true)
  | _ => ("DotWar", "mixer", "LDotWar$Mixer;", true)
def tyX11 : Nat → FieldType := fun k => match k with
  | 0 => .array (.object "DotWar$Code")
  | 1 => .object "DotWar$Pad"
  | 2 => .object "DotWar$Pad"
  | 3 => .object "DotWar$Pad"
  | 4 => .object "DotWar$Writer"
  | 5 => .object "DotWar$Decoder"
  | 6 => .object "DotWar$Books"
  | 7 => .array (.object "DotWar$Reader")
  | 8 => .int
  | 9 => .array (.object "DotWar$School")
  | 10 => .object "DotWar$Fund"
  | _ => .object "DotWar$Mixer"
abbrev wsX110 : List Cond := u_ws RX11 TX11 12
theorem nmX11 : ∀ a, a < 12 → ∀ b, b < 12 → a ≠ b → (TX11 a).2.1 ≠ (TX11 b).2.1 := by decide +kernel
theorem tyX11_ok : ∀ k, k < 12 → parseFieldDescriptor (TX11 k).2.2.1 = some (tyX11 k) := by decide +kernel
abbrev cX11_init : ByteArray := prog_1_method_1_code
def yX11_init : MethodName := ⟨RX11, "<init>", "()V"⟩
abbrev cX11_letter : ByteArray := prog_1_method_2_code
def yX11_letter : MethodName := ⟨RX11, "letter", "(III)I"⟩
abbrev cX11_say : ByteArray := prog_1_method_3_code
def yX11_say : MethodName := ⟨RX11, "say", "(I)I"⟩
abbrev cX11_dot : ByteArray := prog_1_method_4_code
def yX11_dot : MethodName := ⟨RX11, "dot", "(I)I"⟩
abbrev cX11_wipe : ByteArray := prog_1_method_5_code
def yX11_wipe : MethodName := ⟨RX11, "wipe", "(I)I"⟩
abbrev cX11_abbreviate : ByteArray := prog_1_method_6_code
def yX11_abbreviate : MethodName := ⟨RX11, "abbreviate", "(I)I"⟩
abbrev cX11_write : ByteArray := prog_1_method_7_code
def yX11_write : MethodName := ⟨RX11, "write", "(II)I"⟩
abbrev cX11_read : ByteArray := prog_1_method_8_code
def yX11_read : MethodName := ⟨RX11, "read", "(II)I"⟩
abbrev cX11_ways : ByteArray := prog_1_method_9_code
def yX11_ways : MethodName := ⟨RX11, "ways", "(II)I"⟩
abbrev cX11_word : ByteArray := prog_1_method_10_code
def yX11_word : MethodName := ⟨RX11, "word", "()I"⟩
abbrev cX11_count : ByteArray := prog_1_method_11_code
def yX11_count : MethodName := ⟨RX11, "count", "(III)I"⟩
abbrev cX11_room : ByteArray := prog_1_method_12_code
def yX11_room : MethodName := ⟨RX11, "room", "(III)I"⟩
abbrev cX11_row : ByteArray := prog_1_method_13_code
def yX11_row : MethodName := ⟨RX11, "row", "()I"⟩
abbrev cX11_chosen : ByteArray := prog_1_method_14_code
def yX11_chosen : MethodName := ⟨RX11, "chosen", "(IIII)I"⟩
abbrev cX11_reader : ByteArray := prog_1_method_15_code
def yX11_reader : MethodName := ⟨RX11, "reader", "(IIZ)I"⟩
abbrev cX11_know : ByteArray := prog_1_method_16_code
def yX11_know : MethodName := ⟨RX11, "know", "(III)I"⟩
abbrev cX11_move : ByteArray := prog_1_method_17_code
def yX11_move : MethodName := ⟨RX11, "move", "(II)I"⟩
abbrev cX11_about : ByteArray := prog_1_method_18_code
def yX11_about : MethodName := ⟨RX11, "about", "(II)I"⟩
abbrev cX11_near : ByteArray := prog_1_method_19_code
def yX11_near : MethodName := ⟨RX11, "near", "(II)I"⟩
abbrev cX11_pace : ByteArray := prog_1_method_20_code
def yX11_pace : MethodName := ⟨RX11, "pace", "(II)I"⟩
abbrev cX11_learn : ByteArray := prog_1_method_21_code
def yX11_learn : MethodName := ⟨RX11, "learn", "(II)I"⟩
abbrev cX11_shelf : ByteArray := prog_1_method_22_code
def yX11_shelf : MethodName := ⟨RX11, "shelf", "(IIII)I"⟩
abbrev cX11_reads : ByteArray := prog_1_method_23_code
def yX11_reads : MethodName := ⟨RX11, "reads", "(I)I"⟩
abbrev cX11_school : ByteArray := prog_1_method_24_code
def yX11_school : MethodName := ⟨RX11, "school", "(II)I"⟩
abbrev cX11_fund : ByteArray := prog_1_method_25_code
def yX11_fund : MethodName := ⟨RX11, "fund", "(II)I"⟩
abbrev cX11_sign : ByteArray := prog_1_method_26_code
def yX11_sign : MethodName := ⟨RX11, "sign", "(I)I"⟩
abbrev cX11_fault : ByteArray := prog_1_method_27_code
def yX11_fault : MethodName := ⟨RX11, "fault", "()I"⟩
abbrev cX11_board : ByteArray := prog_1_method_28_code
def yX11_board : MethodName := ⟨RX11, "board", "(I)I"⟩
abbrev cX11_voters : ByteArray := prog_1_method_29_code
def yX11_voters : MethodName := ⟨RX11, "voters", "(I)I"⟩
abbrev cX11_choice : ByteArray := prog_1_method_30_code
def yX11_choice : MethodName := ⟨RX11, "choice", "(IZ)I"⟩
abbrev cX11_part : ByteArray := prog_1_method_31_code
def yX11_part : MethodName := ⟨RX11, "part", "(II)I"⟩
abbrev cX11_mix : ByteArray := prog_1_method_32_code
def yX11_mix : MethodName := ⟨RX11, "mix", "(I)I"⟩
abbrev cX11_anew : ByteArray := prog_1_method_33_code
def yX11_anew : MethodName := ⟨RX11, "anew", "(I)I"⟩
abbrev cX11_best : ByteArray := prog_1_method_34_code
def yX11_best : MethodName := ⟨RX11, "best", "()I"⟩
abbrev cX11_told : ByteArray := prog_1_method_35_code
def yX11_told : MethodName := ⟨RX11, "told", "(I)I"⟩
abbrev cX11_within : ByteArray := prog_1_method_36_code
def yX11_within : MethodName := ⟨RX11, "within", "(III)Z"⟩
abbrev cX11_codeAt : ByteArray := prog_1_method_37_code
def yX11_codeAt : MethodName := ⟨RX11, "codeAt", "(I)LDotWar$Code;"⟩
abbrev cX11_readerAt : ByteArray := prog_1_method_38_code
def yX11_readerAt : MethodName := ⟨RX11, "readerAt", "(I)LDotWar$Reader;"⟩
abbrev cX11_schoolAt : ByteArray := prog_1_method_39_code
def yX11_schoolAt : MethodName := ⟨RX11, "schoolAt", "(I)LDotWar$School;"⟩
abbrev cX11_readable : ByteArray := prog_1_method_40_code
def yX11_readable : MethodName := ⟨RX11, "readable", "(LDotWar$Reader;)I"⟩
abbrev cX11_readersOf : ByteArray := prog_1_method_41_code
def yX11_readersOf : MethodName := ⟨RX11, "readersOf", "(I)I"⟩
abbrev cX11_votersOf : ByteArray := prog_1_method_42_code
def yX11_votersOf : MethodName := ⟨RX11, "votersOf", "(I)I"⟩
abbrev cX11_countOwners : ByteArray := prog_1_method_43_code
def yX11_countOwners : MethodName := ⟨RX11, "countOwners", "(II)I"⟩
abbrev cX11_countAllOwners : ByteArray := prog_1_method_44_code
def yX11_countAllOwners : MethodName := ⟨RX11, "countAllOwners", "()V"⟩
abbrev cX11_hopeFrom : ByteArray := prog_1_method_45_code
def yX11_hopeFrom : MethodName := ⟨RX11, "hopeFrom", "(I)Z"⟩
abbrev cX11_priceBooks : ByteArray := prog_1_method_46_code
def yX11_priceBooks : MethodName := ⟨RX11, "priceBooks", "()V"⟩
abbrev cX11_allCopies : ByteArray := prog_1_method_47_code
def yX11_allCopies : MethodName := ⟨RX11, "allCopies", "()I"⟩
def RX12 : String := "DotWarModel"
def TX12 : u_T := fun k => match k with
  | 0 => ("DotWarModel", "cellOf", "[I", true)
  | 1 => ("DotWarModel", "shortLetters", "[I", true)
  | 2 => ("DotWarModel", "shortLong", "[I", true)
  | 3 => ("DotWarModel", "shortCells", "[I", true)
  | 4 => ("DotWarModel", "shortWide", "[I", true)
  | 5 => ("DotWarModel", "shortMany", "[I", true)
  | 6 => ("DotWarModel", "pad", "[I", true)
  | 7 => ("DotWarModel", "padMany", "I", false)
  | 8 => ("DotWarModel", "dots", "[I", true)
  | 9 => ("DotWarModel", "dotMany", "I", false)
  | 10 => ("DotWarModel", "text", "[I", true)
  | 11 => ("DotWarModel", "textMany", "I", false)
  | 12 => ("DotWarModel", "leastFrom", "[I", true)
  | 13 => ("DotWarModel", "written", "[I", true)
  | 14 => ("DotWarModel", "writtenMany", "I", false)
  | 15 => ("DotWarModel", "waysFrom", "[I", true)
  | 16 => ("DotWarModel", "singles", "[I", true)
  | 17 => ("DotWarModel", "doubles", "[I", true)
  | 18 => ("DotWarModel", "comes", "[Z", true)
  | 19 => ("DotWarModel", "twoWays", "[I", true)
  | 20 => ("DotWarModel", "wordLetters", "[I", true)
  | 21 => ("DotWarModel", "wordLong", "[I", true)
  | 22 => ("DotWarModel", "words", "I", false)
  | 23 => ("DotWarModel", "counts", "[I", true)
  | 24 => ("DotWarModel", "roomCells", "I", false)
  | 25 => ("DotWarModel", "roomPoints", "I", false)
  | 26 => ("DotWarModel", "rowLetters", "[I", true)
  | 27 => ("DotWarModel", "rowLong", "[I", true)
  | 28 => ("DotWarModel", "rows", "I", false)
  | 29 => ("DotWarModel", "ages", "[I", true)
  | 30 => ("DotWarModel", "schoolOf", "[I", true)
  | 31 => ("DotWarModel", "isSighted", "[Z", true)
  | 32 => ("DotWarModel", "years", "[I", true)
  | 33 => ("DotWarModel", "readers", "I", false)
  | 34 => ("DotWarModel", "copies", "[I", true)
  | 35 => ("DotWarModel", "fundGain", "I", false)
  | 36 => ("DotWarModel", "fundCode", "I", false)
  | 37 => ("DotWarModel", "fundSet", "I", false)
  | 38 => ("DotWarModel", "fundCoin", "I", false)
  | 39 => ("DotWarModel", "pages", "[I", true)
  | 40 => ("DotWarModel", "gains", "[I", true)
  | 41 => ("DotWarModel", "signs", "[I", true)
  | 42 => ("DotWarModel", "signMany", "I", false)
  | 43 => ("DotWarModel", "rules", "[I", true)
  | 44 => ("DotWarModel", "ruleMany", "[I", true)
  | 45 => ("DotWarModel", "partOf", "[I", true)
  | 46 => ("DotWarModel", "codeOf", "[I", true)
  | _ => ("DotWarModel", "anewBy", "[I", true)
def tyX12 : Nat → FieldType := fun k => match k with
  | 0 => .array .int
  | 1 => .array .int
  | 2 => .array .int
  | 3 => .array .int
  | 4 => .array .int
  | 5 => .array .int
  | 6 => .array .int
  | 7 => .int
  | 8 => .array .int
  | 9 => .int
  | 10 => .array .int
  | 11 => .int
  | 12 => .array .int
  | 13 => .array .int
  | 14 => .int
  | 15 => .array .int
  | 16 => .array .int
  | 17 => .array .int
  | 18 => .array .boolean
  | 19 => .array .int
  | 20 => .array .int
  | 21 => .array .int
  | 22 => .int
  | 23 => .array .int
  | 24 => .int
  | 25 => .int
  | 26 => .array .int
  | 27 => .array .int
  | 28 => .int
  | 29 => .array .int
  | 30 => .array .int
  | 31 => .array .boolean
  | 32 => .array .int
  | 33 => .int
  | 34 => .array .int
  | 35 => .int
  | 36 => .int
  | 37 => .int
  | 38 => .int
  | 39 => .array .int
  | 40 => .array .int
  | 41 => .array .int
  | 42 => .int
  | 43 => .array .int
  | 44 => .array .int
  | 45 => .array .int
  | 46 => .array .int
  | _ => .array .int
abbrev wsX120 : List Cond := u_ws RX12 TX12 48
theorem nmX12 : ∀ a, a < 48 → ∀ b, b < 48 → a ≠ b → (TX12 a).2.1 ≠ (TX12 b).2.1 := by decide +kernel
theorem tyX12_ok : ∀ k, k < 48 → parseFieldDescriptor (TX12 k).2.2.1 = some (tyX12 k) := by decide +kernel
abbrev cX12_init : ByteArray := prog_14_method_1_code
def yX12_init : MethodName := ⟨RX12, "<init>", "()V"⟩
abbrev cX12_in : ByteArray := prog_14_method_3_code
def yX12_in : MethodName := ⟨RX12, "in", "(JJJ)Z"⟩
abbrev cX12_ones : ByteArray := prog_14_method_4_code
def yX12_ones : MethodName := ⟨RX12, "ones", "(I)I"⟩
abbrev cX12_isCode : ByteArray := prog_14_method_5_code
def yX12_isCode : MethodName := ⟨RX12, "isCode", "(I)Z"⟩
abbrev cX12_isLetter : ByteArray := prog_14_method_6_code
def yX12_isLetter : MethodName := ⟨RX12, "isLetter", "(I)Z"⟩
abbrev cX12_letter : ByteArray := prog_14_method_7_code
def yX12_letter : MethodName := ⟨RX12, "letter", "(III)I"⟩
abbrev cX12_say : ByteArray := prog_14_method_8_code
def yX12_say : MethodName := ⟨RX12, "say", "(I)I"⟩
abbrev cX12_dot : ByteArray := prog_14_method_9_code
def yX12_dot : MethodName := ⟨RX12, "dot", "(I)I"⟩
abbrev cX12_wipe : ByteArray := prog_14_method_10_code
def yX12_wipe : MethodName := ⟨RX12, "wipe", "(I)I"⟩
abbrev cX12_abbreviate : ByteArray := prog_14_method_11_code
def yX12_abbreviate : MethodName := ⟨RX12, "abbreviate", "(I)I"⟩
abbrev cX12_longOf : ByteArray := prog_14_method_12_code
def yX12_longOf : MethodName := ⟨RX12, "longOf", "(II)I"⟩
abbrev cX12_wideOf : ByteArray := prog_14_method_13_code
def yX12_wideOf : MethodName := ⟨RX12, "wideOf", "(II)I"⟩
abbrev cX12_letterAt : ByteArray := prog_14_method_14_code
def yX12_letterAt : MethodName := ⟨RX12, "letterAt", "(III)I"⟩
abbrev cX12_cellAt : ByteArray := prog_14_method_15_code
def yX12_cellAt : MethodName := ⟨RX12, "cellAt", "(III)I"⟩
abbrev cX12_isItem : ByteArray := prog_14_method_16_code
def yX12_isItem : MethodName := ⟨RX12, "isItem", "(II)Z"⟩
abbrev cX12_pointsOf : ByteArray := prog_14_method_17_code
def yX12_pointsOf : MethodName := ⟨RX12, "pointsOf", "(II)I"⟩
abbrev cX12_fits : ByteArray := prog_14_method_18_code
def yX12_fits : MethodName := ⟨RX12, "fits", "(III)Z"⟩
abbrev cX12_byItem : ByteArray := prog_14_method_19_code
def yX12_byItem : MethodName := ⟨RX12, "byItem", "(III)I"⟩
abbrev cX12_findWritten : ByteArray := prog_14_method_20_code
def yX12_findWritten : MethodName := ⟨RX12, "findWritten", "(I)Z"⟩
abbrev cX12_firstItem : ByteArray := prog_14_method_21_code
def yX12_firstItem : MethodName := ⟨RX12, "firstItem", "(II)I"⟩
abbrev cX12_layPad : ByteArray := prog_14_method_22_code
def yX12_layPad : MethodName := ⟨RX12, "layPad", "()V"⟩
abbrev cX12_layWritten : ByteArray := prog_14_method_23_code
def yX12_layWritten : MethodName := ⟨RX12, "layWritten", "(I)V"⟩
abbrev cX12_write : ByteArray := prog_14_method_24_code
def yX12_write : MethodName := ⟨RX12, "write", "(II)I"⟩
abbrev cX12_isReadBy : ByteArray := prog_14_method_25_code
def yX12_isReadBy : MethodName := ⟨RX12, "isReadBy", "(III)Z"⟩
abbrev cX12_findWays : ByteArray := prog_14_method_26_code
def yX12_findWays : MethodName := ⟨RX12, "findWays", "(I)V"⟩
abbrev cX12_read : ByteArray := prog_14_method_27_code
def yX12_read : MethodName := ⟨RX12, "read", "(II)I"⟩
abbrev cX12_countItems : ByteArray := prog_14_method_28_code
def yX12_countItems : MethodName := ⟨RX12, "countItems", "(I)V"⟩
abbrev cX12_findComes : ByteArray := prog_14_method_29_code
def yX12_findComes : MethodName := ⟨RX12, "findComes", "()V"⟩
abbrev cX12_layTwoWays : ByteArray := prog_14_method_30_code
def yX12_layTwoWays : MethodName := ⟨RX12, "layTwoWays", "(I)Z"⟩
abbrev cX12_findTwoWays : ByteArray := prog_14_method_31_code
def yX12_findTwoWays : MethodName := ⟨RX12, "findTwoWays", "(I)I"⟩
abbrev cX12_ways : ByteArray := prog_14_method_32_code
def yX12_ways : MethodName := ⟨RX12, "ways", "(II)I"⟩
abbrev cX12_word : ByteArray := prog_14_method_33_code
def yX12_word : MethodName := ⟨RX12, "word", "()I"⟩
abbrev cX12_isBook : ByteArray := prog_14_method_34_code
def yX12_isBook : MethodName := ⟨RX12, "isBook", "(I)Z"⟩
abbrev cX12_count : ByteArray := prog_14_method_35_code
def yX12_count : MethodName := ⟨RX12, "count", "(III)I"⟩
abbrev cX12_layWord : ByteArray := prog_14_method_36_code
def yX12_layWord : MethodName := ⟨RX12, "layWord", "(I)V"⟩
abbrev cX12_findRoom : ByteArray := prog_14_method_37_code
def yX12_findRoom : MethodName := ⟨RX12, "findRoom", "(II)Z"⟩
abbrev cX12_room : ByteArray := prog_14_method_38_code
def yX12_room : MethodName := ⟨RX12, "room", "(III)I"⟩
abbrev cX12_row : ByteArray := prog_14_method_39_code
def yX12_row : MethodName := ⟨RX12, "row", "()I"⟩
abbrev cX12_rowFits : ByteArray := prog_14_method_40_code
def yX12_rowFits : MethodName := ⟨RX12, "rowFits", "(II)Z"⟩
abbrev cX12_cellsWith : ByteArray := prog_14_method_41_code
def yX12_cellsWith : MethodName := ⟨RX12, "cellsWith", "(II)I"⟩
abbrev cX12_bookWith : ByteArray := prog_14_method_42_code
def yX12_bookWith : MethodName := ⟨RX12, "bookWith", "(III)I"⟩
abbrev cX12_chosen : ByteArray := prog_14_method_43_code
def yX12_chosen : MethodName := ⟨RX12, "chosen", "(IIII)I"⟩
abbrev cX12_isReader : ByteArray := prog_14_method_44_code
def yX12_isReader : MethodName := ⟨RX12, "isReader", "(I)Z"⟩
abbrev cX12_isSchool : ByteArray := prog_14_method_45_code
def yX12_isSchool : MethodName := ⟨RX12, "isSchool", "(I)Z"⟩
abbrev cX12_reader : ByteArray := prog_14_method_46_code
def yX12_reader : MethodName := ⟨RX12, "reader", "(IIZ)I"⟩
abbrev cX12_know : ByteArray := prog_14_method_47_code
def yX12_know : MethodName := ⟨RX12, "know", "(III)I"⟩
abbrev cX12_move : ByteArray := prog_14_method_48_code
def yX12_move : MethodName := ⟨RX12, "move", "(II)I"⟩
abbrev cX12_ownCode : ByteArray := prog_14_method_49_code
def yX12_ownCode : MethodName := ⟨RX12, "ownCode", "(I)I"⟩
abbrev cX12_knows : ByteArray := prog_14_method_50_code
def yX12_knows : MethodName := ⟨RX12, "knows", "(II)Z"⟩
abbrev cX12_known : ByteArray := prog_14_method_51_code
def yX12_known : MethodName := ⟨RX12, "known", "(I)I"⟩
abbrev cX12_about : ByteArray := prog_14_method_52_code
def yX12_about : MethodName := ⟨RX12, "about", "(II)I"⟩
abbrev cX12_nearOf : ByteArray := prog_14_method_53_code
def yX12_nearOf : MethodName := ⟨RX12, "nearOf", "(II)I"⟩
abbrev cX12_near : ByteArray := prog_14_method_54_code
def yX12_near : MethodName := ⟨RX12, "near", "(II)I"⟩
abbrev cX12_pace : ByteArray := prog_14_method_55_code
def yX12_pace : MethodName := ⟨RX12, "pace", "(II)I"⟩
abbrev cX12_learn : ByteArray := prog_14_method_56_code
def yX12_learn : MethodName := ⟨RX12, "learn", "(II)I"⟩
abbrev cX12_shelf : ByteArray := prog_14_method_57_code
def yX12_shelf : MethodName := ⟨RX12, "shelf", "(IIII)I"⟩
abbrev cX12_canRead : ByteArray := prog_14_method_58_code
def yX12_canRead : MethodName := ⟨RX12, "canRead", "(II)Z"⟩
abbrev cX12_readBy : ByteArray := prog_14_method_59_code
def yX12_readBy : MethodName := ⟨RX12, "readBy", "(I)I"⟩
abbrev cX12_reads : ByteArray := prog_14_method_60_code
def yX12_reads : MethodName := ⟨RX12, "reads", "(I)I"⟩
abbrev cX12_school : ByteArray := prog_14_method_61_code
def yX12_school : MethodName := ⟨RX12, "school", "(II)I"⟩
abbrev cX12_layFund : ByteArray := prog_14_method_62_code
def yX12_layFund : MethodName := ⟨RX12, "layFund", "(I)V"⟩
abbrev cX12_findFund : ByteArray := prog_14_method_63_code
def yX12_findFund : MethodName := ⟨RX12, "findFund", "(I)V"⟩
abbrev cX12_trySet : ByteArray := prog_14_method_64_code
def yX12_trySet : MethodName := ⟨RX12, "trySet", "(III)V"⟩
abbrev cX12_fund : ByteArray := prog_14_method_65_code
def yX12_fund : MethodName := ⟨RX12, "fund", "(II)I"⟩
abbrev cX12_sign : ByteArray := prog_14_method_66_code
def yX12_sign : MethodName := ⟨RX12, "sign", "(I)I"⟩
abbrev cX12_isDigit : ByteArray := prog_14_method_67_code
def yX12_isDigit : MethodName := ⟨RX12, "isDigit", "(I)Z"⟩
abbrev cX12_stepOf : ByteArray := prog_14_method_68_code
def yX12_stepOf : MethodName := ⟨RX12, "stepOf", "(II)I"⟩
abbrev cX12_fault : ByteArray := prog_14_method_69_code
def yX12_fault : MethodName := ⟨RX12, "fault", "()I"⟩
abbrev cX12_board : ByteArray := prog_14_method_70_code
def yX12_board : MethodName := ⟨RX12, "board", "(I)I"⟩
abbrev cX12_factOf : ByteArray := prog_14_method_71_code
def yX12_factOf : MethodName := ⟨RX12, "factOf", "(II)I"⟩
abbrev cX12_mayVote : ByteArray := prog_14_method_72_code
def yX12_mayVote : MethodName := ⟨RX12, "mayVote", "(II)Z"⟩
abbrev cX12_votersOf : ByteArray := prog_14_method_73_code
def yX12_votersOf : MethodName := ⟨RX12, "votersOf", "(IZ)I"⟩
abbrev cX12_voters : ByteArray := prog_14_method_74_code
def yX12_voters : MethodName := ⟨RX12, "voters", "(I)I"⟩
abbrev cX12_choice : ByteArray := prog_14_method_75_code
def yX12_choice : MethodName := ⟨RX12, "choice", "(IZ)I"⟩
abbrev cX12_part : ByteArray := prog_14_method_76_code
def yX12_part : MethodName := ⟨RX12, "part", "(II)I"⟩
abbrev cX12_layMix : ByteArray := prog_14_method_77_code
def yX12_layMix : MethodName := ⟨RX12, "layMix", "(I)Z"⟩
abbrev cX12_mixedCell : ByteArray := prog_14_method_78_code
def yX12_mixedCell : MethodName := ⟨RX12, "mixedCell", "(I)I"⟩
abbrev cX12_mayMix : ByteArray := prog_14_method_79_code
def yX12_mayMix : MethodName := ⟨RX12, "mayMix", "()Z"⟩
abbrev cX12_mix : ByteArray := prog_14_method_80_code
def yX12_mix : MethodName := ⟨RX12, "mix", "(I)I"⟩
abbrev cX12_anewOf : ByteArray := prog_14_method_81_code
def yX12_anewOf : MethodName := ⟨RX12, "anewOf", "()I"⟩
abbrev cX12_anew : ByteArray := prog_14_method_82_code
def yX12_anew : MethodName := ⟨RX12, "anew", "(I)I"⟩
abbrev cX12_lettersOf : ByteArray := prog_14_method_83_code
def yX12_lettersOf : MethodName := ⟨RX12, "lettersOf", "(I)I"⟩
abbrev cX12_layAnew : ByteArray := prog_14_method_84_code
def yX12_layAnew : MethodName := ⟨RX12, "layAnew", "()V"⟩
abbrev cX12_best : ByteArray := prog_14_method_85_code
def yX12_best : MethodName := ⟨RX12, "best", "()I"⟩
abbrev cX12_told : ByteArray := prog_14_method_86_code
def yX12_told : MethodName := ⟨RX12, "told", "(I)I"⟩
def RJ6 : String := "java/lang/Integer"
abbrev cJ6_bitCount_0f7a4 : ByteArray := prog_15_method_49_code
def yJ6_bitCount_0f7a4 : MethodName := ⟨RJ6, "bitCount", "(I)I"⟩
def RJ9 : String := "java/lang/Math"
abbrev cJ9_max_7cf53 : ByteArray := prog_16_method_65_code
def yJ9_max_7cf53 : MethodName := ⟨RJ9, "max", "(II)I"⟩
abbrev cJ9_min_7cf53 : ByteArray := prog_16_method_69_code
def yJ9_min_7cf53 : MethodName := ⟨RJ9, "min", "(II)I"⟩
def RJ10 : String := "java/lang/System"
def RJ7 : String := "java/util/Arrays"
abbrev cJ7_fill_53178 : ByteArray := prog_18_method_103_code
def yJ7_fill_53178 : MethodName := ⟨RJ7, "fill", "([II)V"⟩
def RL : String := "DotWarLaw"
abbrev cL_law : ByteArray := code
abbrev vwCl : List vw_C := [(RX0, TX0, 9), (RX1, TX1, 4), (RX2, TX2, 5), (RX3, TX3, 6), (RX4, TX4, 9), (RX5, TX5, 2), (RX6, TX6, 4), (RX8, TX8, 2), (RX9, TX9, 4), (RX10, TX10, 3), (RX11, TX11, 12), (RX12, TX12, 48)]
end
section
theorem dX0_init_0 : decode cX0_init 0 = .ok (.aload_n 0, 1) := by decide +kernel
theorem dX0_init_1 : decode cX0_init 1 = .ok (.invokespecial 3, 3) := by decide +kernel
theorem dX0_init_4 : decode cX0_init 4 = .ok (.aload_n 0, 1) := by decide +kernel
theorem dX0_init_5 : decode cX0_init 5 = .ok (.new 9, 3) := by decide +kernel
theorem dX0_init_8 : decode cX0_init 8 = .ok (.dup, 1) := by decide +kernel
theorem dX0_init_9 : decode cX0_init 9 = .ok (.bipush 30, 2) := by decide +kernel
theorem dX0_init_11 : decode cX0_init 11 = .ok (.bipush 10, 2) := by decide +kernel
theorem dX0_init_13 : decode cX0_init 13 = .ok (.invokespecial 11, 3) := by decide +kernel
theorem dX0_init_16 : decode cX0_init 16 = .ok (.putfield 14, 3) := by decide +kernel
theorem dX0_init_19 : decode cX0_init 19 = .ok (.aload_n 0, 1) := by decide +kernel
theorem dX0_init_20 : decode cX0_init 20 = .ok (.bipush 8, 2) := by decide +kernel
theorem dX0_init_22 : decode cX0_init 22 = .ok (.bipush 30, 2) := by decide +kernel
theorem dX0_init_24 : decode cX0_init 24 = .ok (.multianewarray 20 2, 4) := by decide +kernel
theorem dX0_init_28 : decode cX0_init 28 = .ok (.putfield 22, 3) := by decide +kernel
theorem dX0_init_31 : decode cX0_init 31 = .ok (.aload_n 0, 1) := by decide +kernel
theorem dX0_init_32 : decode cX0_init 32 = .ok (.bipush 30, 2) := by decide +kernel
theorem dX0_init_34 : decode cX0_init 34 = .ok (.newarray .int, 2) := by decide +kernel
theorem dX0_init_36 : decode cX0_init 36 = .ok (.putfield 25, 3) := by decide +kernel
theorem dX0_init_39 : decode cX0_init 39 = .ok (.aload_n 0, 1) := by decide +kernel
theorem dX0_init_40 : decode cX0_init 40 = .ok (.new 9, 3) := by decide +kernel
theorem dX0_init_43 : decode cX0_init 43 = .ok (.dup, 1) := by decide +kernel
theorem dX0_init_44 : decode cX0_init 44 = .ok (.bipush 12, 2) := by decide +kernel
theorem dX0_init_46 : decode cX0_init 46 = .ok (.iconst 4, 1) := by decide +kernel
theorem dX0_init_47 : decode cX0_init 47 = .ok (.invokespecial 11, 3) := by decide +kernel
theorem dX0_init_50 : decode cX0_init 50 = .ok (.putfield 29, 3) := by decide +kernel
theorem dX0_init_53 : decode cX0_init 53 = .ok (.aload_n 0, 1) := by decide +kernel
theorem dX0_init_54 : decode cX0_init 54 = .ok (.bipush 50, 2) := by decide +kernel
theorem dX0_init_56 : decode cX0_init 56 = .ok (.newarray .int, 2) := by decide +kernel
theorem dX0_init_58 : decode cX0_init 58 = .ok (.putfield 32, 3) := by decide +kernel
theorem dX0_init_61 : decode cX0_init 61 = .ok (.aload_n 0, 1) := by decide +kernel
theorem dX0_init_62 : decode cX0_init 62 = .ok (.bipush 11, 2) := by decide +kernel
theorem dX0_init_64 : decode cX0_init 64 = .ok (.newarray .int, 2) := by decide +kernel
theorem dX0_init_66 : decode cX0_init 66 = .ok (.putfield 35, 3) := by decide +kernel
theorem dX0_init_69 : decode cX0_init 69 = .ok (.aload_n 0, 1) := by decide +kernel
theorem dX0_init_70 : decode cX0_init 70 = .ok (.sipush 4096, 3) := by decide +kernel
theorem dX0_init_73 : decode cX0_init 73 = .ok (.newarray .int, 2) := by decide +kernel
theorem dX0_init_75 : decode cX0_init 75 = .ok (.putfield 38, 3) := by decide +kernel
theorem dX0_init_78 : decode cX0_init 78 = .ok (.aload_n 0, 1) := by decide +kernel
theorem dX0_init_79 : decode cX0_init 79 = .ok (.sipush 4096, 3) := by decide +kernel
theorem dX0_init_82 : decode cX0_init 82 = .ok (.newarray .int, 2) := by decide +kernel
theorem dX0_init_84 : decode cX0_init 84 = .ok (.putfield 41, 3) := by decide +kernel
theorem dX0_init_87 : decode cX0_init 87 = .ok (.aload_n 0, 1) := by decide +kernel
theorem dX0_init_88 : decode cX0_init 88 = .ok (.aload_n 1, 1) := by decide +kernel
theorem dX0_init_89 : decode cX0_init 89 = .ok (.putfield 44, 3) := by decide +kernel
theorem dX0_init_92 : decode cX0_init 92 = .ok (.return_, 1) := by decide +kernel
theorem dX0_weighWords_0 : decode cX0_weighWords 0 = .ok (.iconst 0, 1) := by decide +kernel
theorem dX0_weighWords_1 : decode cX0_weighWords 1 = .ok (.istore_n 2, 1) := by decide +kernel
theorem dX0_weighWords_2 : decode cX0_weighWords 2 = .ok (.iload_n 2, 1) := by decide +kernel
theorem dX0_weighWords_3 : decode cX0_weighWords 3 = .ok (.aload_n 0, 1) := by decide +kernel
theorem dX0_weighWords_4 : decode cX0_weighWords 4 = .ok (.getfield 14, 3) := by decide +kernel
theorem dX0_weighWords_7 : decode cX0_weighWords 7 = .ok (.getfield 48, 3) := by decide +kernel
theorem dX0_weighWords_10 : decode cX0_weighWords 10 = .ok (.if_icmp .ge 43, 3) := by decide +kernel
theorem dX0_weighWords_13 : decode cX0_weighWords 13 = .ok (.aload_n 0, 1) := by decide +kernel
theorem dX0_weighWords_14 : decode cX0_weighWords 14 = .ok (.getfield 25, 3) := by decide +kernel
theorem dX0_weighWords_17 : decode cX0_weighWords 17 = .ok (.iload_n 2, 1) := by decide +kernel
theorem dX0_weighWords_18 : decode cX0_weighWords 18 = .ok (.aload_n 0, 1) := by decide +kernel
theorem dX0_weighWords_19 : decode cX0_weighWords 19 = .ok (.getfield 44, 3) := by decide +kernel
theorem dX0_weighWords_22 : decode cX0_weighWords 22 = .ok (.aload_n 1, 1) := by decide +kernel
theorem dX0_weighWords_23 : decode cX0_weighWords 23 = .ok (.aload_n 0, 1) := by decide +kernel
theorem dX0_weighWords_24 : decode cX0_weighWords 24 = .ok (.getfield 14, 3) := by decide +kernel
theorem dX0_weighWords_27 : decode cX0_weighWords 27 = .ok (.getfield 52, 3) := by decide +kernel
theorem dX0_weighWords_30 : decode cX0_weighWords 30 = .ok (.iload_n 2, 1) := by decide +kernel
theorem dX0_weighWords_31 : decode cX0_weighWords 31 = .ok (.bipush 10, 2) := by decide +kernel
theorem dX0_weighWords_33 : decode cX0_weighWords 33 = .ok (.imul, 1) := by decide +kernel
theorem dX0_weighWords_34 : decode cX0_weighWords 34 = .ok (.aload_n 0, 1) := by decide +kernel
theorem dX0_weighWords_35 : decode cX0_weighWords 35 = .ok (.getfield 14, 3) := by decide +kernel
theorem dX0_weighWords_38 : decode cX0_weighWords 38 = .ok (.getfield 55, 3) := by decide +kernel
theorem dX0_weighWords_41 : decode cX0_weighWords 41 = .ok (.iload_n 2, 1) := by decide +kernel
theorem dX0_weighWords_42 : decode cX0_weighWords 42 = .ok (.iaload, 1) := by decide +kernel
theorem dX0_weighWords_43 : decode cX0_weighWords 43 = .ok (.invokevirtual 58, 3) := by decide +kernel
theorem dX0_weighWords_46 : decode cX0_weighWords 46 = .ok (.iastore, 1) := by decide +kernel
theorem dX0_weighWords_47 : decode cX0_weighWords 47 = .ok (.iinc 2 1, 3) := by decide +kernel
theorem dX0_weighWords_50 : decode cX0_weighWords 50 = .ok (.goto (-48), 3) := by decide +kernel
theorem dX0_weighWords_53 : decode cX0_weighWords 53 = .ok (.return_, 1) := by decide +kernel
theorem dX0_canPrint_0 : decode cX0_canPrint 0 = .ok (.iconst 0, 1) := by decide +kernel
theorem dX0_canPrint_1 : decode cX0_canPrint 1 = .ok (.istore_n 2, 1) := by decide +kernel
theorem dX0_canPrint_2 : decode cX0_canPrint 2 = .ok (.iload_n 2, 1) := by decide +kernel
theorem dX0_canPrint_3 : decode cX0_canPrint 3 = .ok (.aload_n 0, 1) := by decide +kernel
theorem dX0_canPrint_4 : decode cX0_canPrint 4 = .ok (.getfield 14, 3) := by decide +kernel
theorem dX0_canPrint_7 : decode cX0_canPrint 7 = .ok (.getfield 48, 3) := by decide +kernel
theorem dX0_canPrint_10 : decode cX0_canPrint 10 = .ok (.if_icmp .ge 33, 3) := by decide +kernel
theorem dX0_canPrint_13 : decode cX0_canPrint 13 = .ok (.aload_n 0, 1) := by decide +kernel
theorem dX0_canPrint_14 : decode cX0_canPrint 14 = .ok (.getfield 22, 3) := by decide +kernel
theorem dX0_canPrint_17 : decode cX0_canPrint 17 = .ok (.iload_n 1, 1) := by decide +kernel
theorem dX0_canPrint_18 : decode cX0_canPrint 18 = .ok (.aaload, 1) := by decide +kernel
theorem dX0_canPrint_19 : decode cX0_canPrint 19 = .ok (.iload_n 2, 1) := by decide +kernel
theorem dX0_canPrint_20 : decode cX0_canPrint 20 = .ok (.iaload, 1) := by decide +kernel
theorem dX0_canPrint_21 : decode cX0_canPrint 21 = .ok (.ifCond .le 16, 3) := by decide +kernel
theorem dX0_canPrint_24 : decode cX0_canPrint 24 = .ok (.aload_n 0, 1) := by decide +kernel
theorem dX0_canPrint_25 : decode cX0_canPrint 25 = .ok (.getfield 25, 3) := by decide +kernel
theorem dX0_canPrint_28 : decode cX0_canPrint 28 = .ok (.iload_n 2, 1) := by decide +kernel
theorem dX0_canPrint_29 : decode cX0_canPrint 29 = .ok (.iaload, 1) := by decide +kernel
theorem dX0_canPrint_30 : decode cX0_canPrint 30 = .ok (.ldc 64, 2) := by decide +kernel
theorem dX0_canPrint_32 : decode cX0_canPrint 32 = .ok (.if_icmp .lt 5, 3) := by decide +kernel
theorem dX0_canPrint_35 : decode cX0_canPrint 35 = .ok (.iconst 0, 1) := by decide +kernel
theorem dX0_canPrint_36 : decode cX0_canPrint 36 = .ok (.ireturn, 1) := by decide +kernel
theorem dX0_canPrint_37 : decode cX0_canPrint 37 = .ok (.iinc 2 1, 3) := by decide +kernel
theorem dX0_canPrint_40 : decode cX0_canPrint 40 = .ok (.goto (-38), 3) := by decide +kernel
theorem dX0_canPrint_43 : decode cX0_canPrint 43 = .ok (.iconst 1, 1) := by decide +kernel
theorem dX0_canPrint_44 : decode cX0_canPrint 44 = .ok (.ireturn, 1) := by decide +kernel
theorem dX0_cellsOf_0 : decode cX0_cellsOf 0 = .ok (.iconst 0, 1) := by decide +kernel
theorem dX0_cellsOf_1 : decode cX0_cellsOf 1 = .ok (.istore_n 2, 1) := by decide +kernel
theorem dX0_cellsOf_2 : decode cX0_cellsOf 2 = .ok (.iconst 0, 1) := by decide +kernel
theorem dX0_cellsOf_3 : decode cX0_cellsOf 3 = .ok (.istore_n 3, 1) := by decide +kernel
theorem dX0_cellsOf_4 : decode cX0_cellsOf 4 = .ok (.iload_n 3, 1) := by decide +kernel
theorem dX0_cellsOf_5 : decode cX0_cellsOf 5 = .ok (.aload_n 0, 1) := by decide +kernel
theorem dX0_cellsOf_6 : decode cX0_cellsOf 6 = .ok (.getfield 14, 3) := by decide +kernel
theorem dX0_cellsOf_9 : decode cX0_cellsOf 9 = .ok (.getfield 48, 3) := by decide +kernel
theorem dX0_cellsOf_12 : decode cX0_cellsOf 12 = .ok (.if_icmp .ge 30, 3) := by decide +kernel
theorem dX0_cellsOf_15 : decode cX0_cellsOf 15 = .ok (.iload_n 2, 1) := by decide +kernel
theorem dX0_cellsOf_16 : decode cX0_cellsOf 16 = .ok (.aload_n 0, 1) := by decide +kernel
theorem dX0_cellsOf_17 : decode cX0_cellsOf 17 = .ok (.getfield 22, 3) := by decide +kernel
theorem dX0_cellsOf_20 : decode cX0_cellsOf 20 = .ok (.iload_n 1, 1) := by decide +kernel
theorem dX0_cellsOf_21 : decode cX0_cellsOf 21 = .ok (.aaload, 1) := by decide +kernel
theorem dX0_cellsOf_22 : decode cX0_cellsOf 22 = .ok (.iload_n 3, 1) := by decide +kernel
theorem dX0_cellsOf_23 : decode cX0_cellsOf 23 = .ok (.iaload, 1) := by decide +kernel
theorem dX0_cellsOf_24 : decode cX0_cellsOf 24 = .ok (.aload_n 0, 1) := by decide +kernel
theorem dX0_cellsOf_25 : decode cX0_cellsOf 25 = .ok (.getfield 25, 3) := by decide +kernel
theorem dX0_cellsOf_28 : decode cX0_cellsOf 28 = .ok (.iload_n 3, 1) := by decide +kernel
theorem dX0_cellsOf_29 : decode cX0_cellsOf 29 = .ok (.iaload, 1) := by decide +kernel
theorem dX0_cellsOf_30 : decode cX0_cellsOf 30 = .ok (.invokestatic 65, 3) := by decide +kernel
theorem dX0_cellsOf_33 : decode cX0_cellsOf 33 = .ok (.imul, 1) := by decide +kernel
theorem dX0_cellsOf_34 : decode cX0_cellsOf 34 = .ok (.iadd, 1) := by decide +kernel
theorem dX0_cellsOf_35 : decode cX0_cellsOf 35 = .ok (.istore_n 2, 1) := by decide +kernel
theorem dX0_cellsOf_36 : decode cX0_cellsOf 36 = .ok (.iinc 3 1, 3) := by decide +kernel
theorem dX0_cellsOf_39 : decode cX0_cellsOf 39 = .ok (.goto (-35), 3) := by decide +kernel
theorem dX0_cellsOf_42 : decode cX0_cellsOf 42 = .ok (.iload_n 2, 1) := by decide +kernel
theorem dX0_cellsOf_43 : decode cX0_cellsOf 43 = .ok (.ireturn, 1) := by decide +kernel
theorem dX0_pointsOf_0 : decode cX0_pointsOf 0 = .ok (.iconst 0, 1) := by decide +kernel
theorem dX0_pointsOf_1 : decode cX0_pointsOf 1 = .ok (.istore_n 2, 1) := by decide +kernel
theorem dX0_pointsOf_2 : decode cX0_pointsOf 2 = .ok (.iconst 0, 1) := by decide +kernel
theorem dX0_pointsOf_3 : decode cX0_pointsOf 3 = .ok (.istore_n 3, 1) := by decide +kernel
theorem dX0_pointsOf_4 : decode cX0_pointsOf 4 = .ok (.iload_n 3, 1) := by decide +kernel
theorem dX0_pointsOf_5 : decode cX0_pointsOf 5 = .ok (.aload_n 0, 1) := by decide +kernel
theorem dX0_pointsOf_6 : decode cX0_pointsOf 6 = .ok (.getfield 14, 3) := by decide +kernel
theorem dX0_pointsOf_9 : decode cX0_pointsOf 9 = .ok (.getfield 48, 3) := by decide +kernel
theorem dX0_pointsOf_12 : decode cX0_pointsOf 12 = .ok (.if_icmp .ge 30, 3) := by decide +kernel
theorem dX0_pointsOf_15 : decode cX0_pointsOf 15 = .ok (.iload_n 2, 1) := by decide +kernel
theorem dX0_pointsOf_16 : decode cX0_pointsOf 16 = .ok (.aload_n 0, 1) := by decide +kernel
theorem dX0_pointsOf_17 : decode cX0_pointsOf 17 = .ok (.getfield 22, 3) := by decide +kernel
theorem dX0_pointsOf_20 : decode cX0_pointsOf 20 = .ok (.iload_n 1, 1) := by decide +kernel
theorem dX0_pointsOf_21 : decode cX0_pointsOf 21 = .ok (.aaload, 1) := by decide +kernel
theorem dX0_pointsOf_22 : decode cX0_pointsOf 22 = .ok (.iload_n 3, 1) := by decide +kernel
theorem dX0_pointsOf_23 : decode cX0_pointsOf 23 = .ok (.iaload, 1) := by decide +kernel
theorem dX0_pointsOf_24 : decode cX0_pointsOf 24 = .ok (.aload_n 0, 1) := by decide +kernel
theorem dX0_pointsOf_25 : decode cX0_pointsOf 25 = .ok (.getfield 25, 3) := by decide +kernel
theorem dX0_pointsOf_28 : decode cX0_pointsOf 28 = .ok (.iload_n 3, 1) := by decide +kernel
theorem dX0_pointsOf_29 : decode cX0_pointsOf 29 = .ok (.iaload, 1) := by decide +kernel
theorem dX0_pointsOf_30 : decode cX0_pointsOf 30 = .ok (.invokestatic 69, 3) := by decide +kernel
theorem dX0_pointsOf_33 : decode cX0_pointsOf 33 = .ok (.imul, 1) := by decide +kernel
theorem dX0_pointsOf_34 : decode cX0_pointsOf 34 = .ok (.iadd, 1) := by decide +kernel
theorem dX0_pointsOf_35 : decode cX0_pointsOf 35 = .ok (.istore_n 2, 1) := by decide +kernel
theorem dX0_pointsOf_36 : decode cX0_pointsOf 36 = .ok (.iinc 3 1, 3) := by decide +kernel
theorem dX0_pointsOf_39 : decode cX0_pointsOf 39 = .ok (.goto (-35), 3) := by decide +kernel
theorem dX0_pointsOf_42 : decode cX0_pointsOf 42 = .ok (.iload_n 2, 1) := by decide +kernel
theorem dX0_pointsOf_43 : decode cX0_pointsOf 43 = .ok (.ireturn, 1) := by decide +kernel
theorem dX0_pagesOf_0 : decode cX0_pagesOf 0 = .ok (.aload_n 0, 1) := by decide +kernel
theorem dX0_pagesOf_1 : decode cX0_pagesOf 1 = .ok (.iload_n 1, 1) := by decide +kernel
theorem dX0_pagesOf_2 : decode cX0_pagesOf 2 = .ok (.invokevirtual 72, 3) := by decide +kernel
theorem dX0_pagesOf_5 : decode cX0_pagesOf 5 = .ok (.sipush 200, 3) := by decide +kernel
theorem dX0_pagesOf_8 : decode cX0_pagesOf 8 = .ok (.iadd, 1) := by decide +kernel
theorem dX0_pagesOf_9 : decode cX0_pagesOf 9 = .ok (.iconst 1, 1) := by decide +kernel
theorem dX0_pagesOf_10 : decode cX0_pagesOf 10 = .ok (.isub, 1) := by decide +kernel
theorem dX0_pagesOf_11 : decode cX0_pagesOf 11 = .ok (.sipush 200, 3) := by decide +kernel
theorem dX0_pagesOf_14 : decode cX0_pagesOf 14 = .ok (.idiv, 1) := by decide +kernel
theorem dX0_pagesOf_15 : decode cX0_pagesOf 15 = .ok (.ireturn, 1) := by decide +kernel
theorem dX0_chooseRows_0 : decode cX0_chooseRows 0 = .ok (.aload_n 0, 1) := by decide +kernel
theorem dX0_chooseRows_1 : decode cX0_chooseRows 1 = .ok (.iload_n 1, 1) := by decide +kernel
theorem dX0_chooseRows_2 : decode cX0_chooseRows 2 = .ok (.invokevirtual 73, 3) := by decide +kernel
theorem dX0_chooseRows_5 : decode cX0_chooseRows 5 = .ok (.istore 4, 2) := by decide +kernel
theorem dX0_chooseRows_7 : decode cX0_chooseRows 7 = .ok (.iconst 1, 1) := by decide +kernel
theorem dX0_chooseRows_8 : decode cX0_chooseRows 8 = .ok (.iload 4, 2) := by decide +kernel
theorem dX0_chooseRows_10 : decode cX0_chooseRows 10 = .ok (.invokestatic 76, 3) := by decide +kernel
theorem dX0_chooseRows_13 : decode cX0_chooseRows 13 = .ok (.ishl, 1) := by decide +kernel
theorem dX0_chooseRows_14 : decode cX0_chooseRows 14 = .ok (.istore 5, 2) := by decide +kernel
theorem dX0_chooseRows_16 : decode cX0_chooseRows 16 = .ok (.aload_n 0, 1) := by decide +kernel
theorem dX0_chooseRows_17 : decode cX0_chooseRows 17 = .ok (.iload_n 1, 1) := by decide +kernel
theorem dX0_chooseRows_18 : decode cX0_chooseRows 18 = .ok (.aload_n 2, 1) := by decide +kernel
theorem dX0_chooseRows_19 : decode cX0_chooseRows 19 = .ok (.iload 4, 2) := by decide +kernel
theorem dX0_chooseRows_21 : decode cX0_chooseRows 21 = .ok (.iload_n 3, 1) := by decide +kernel
theorem dX0_chooseRows_22 : decode cX0_chooseRows 22 = .ok (.invokevirtual 81, 3) := by decide +kernel
theorem dX0_chooseRows_25 : decode cX0_chooseRows 25 = .ok (.bipush (-6), 2) := by decide +kernel
theorem dX0_chooseRows_27 : decode cX0_chooseRows 27 = .ok (.istore 6, 2) := by decide +kernel
theorem dX0_chooseRows_29 : decode cX0_chooseRows 29 = .ok (.ldc 64, 2) := by decide +kernel
theorem dX0_chooseRows_31 : decode cX0_chooseRows 31 = .ok (.istore 7, 2) := by decide +kernel
theorem dX0_chooseRows_33 : decode cX0_chooseRows 33 = .ok (.iconst 0, 1) := by decide +kernel
theorem dX0_chooseRows_34 : decode cX0_chooseRows 34 = .ok (.istore 8, 2) := by decide +kernel
theorem dX0_chooseRows_36 : decode cX0_chooseRows 36 = .ok (.iconst 0, 1) := by decide +kernel
theorem dX0_chooseRows_37 : decode cX0_chooseRows 37 = .ok (.istore 9, 2) := by decide +kernel
theorem dX0_chooseRows_39 : decode cX0_chooseRows 39 = .ok (.iconst 0, 1) := by decide +kernel
theorem dX0_chooseRows_40 : decode cX0_chooseRows 40 = .ok (.istore 10, 2) := by decide +kernel
theorem dX0_chooseRows_42 : decode cX0_chooseRows 42 = .ok (.iload 10, 2) := by decide +kernel
theorem dX0_chooseRows_44 : decode cX0_chooseRows 44 = .ok (.iload 5, 2) := by decide +kernel
theorem dX0_chooseRows_46 : decode cX0_chooseRows 46 = .ok (.if_icmp .ge 91, 3) := by decide +kernel
theorem dX0_chooseRows_49 : decode cX0_chooseRows 49 = .ok (.iload 9, 2) := by decide +kernel
theorem dX0_chooseRows_51 : decode cX0_chooseRows 51 = .ok (.invokestatic 76, 3) := by decide +kernel
theorem dX0_chooseRows_54 : decode cX0_chooseRows 54 = .ok (.istore 11, 2) := by decide +kernel
theorem dX0_chooseRows_56 : decode cX0_chooseRows 56 = .ok (.aload_n 0, 1) := by decide +kernel
theorem dX0_chooseRows_57 : decode cX0_chooseRows 57 = .ok (.getfield 41, 3) := by decide +kernel
theorem dX0_chooseRows_60 : decode cX0_chooseRows 60 = .ok (.iload 9, 2) := by decide +kernel
theorem dX0_chooseRows_62 : decode cX0_chooseRows 62 = .ok (.iaload, 1) := by decide +kernel
theorem dX0_chooseRows_63 : decode cX0_chooseRows 63 = .ok (.iload 7, 2) := by decide +kernel
theorem dX0_chooseRows_65 : decode cX0_chooseRows 65 = .ok (.if_icmp .lt 22, 3) := by decide +kernel
theorem dX0_chooseRows_68 : decode cX0_chooseRows 68 = .ok (.aload_n 0, 1) := by decide +kernel
theorem dX0_chooseRows_69 : decode cX0_chooseRows 69 = .ok (.getfield 41, 3) := by decide +kernel
theorem dX0_chooseRows_72 : decode cX0_chooseRows 72 = .ok (.iload 9, 2) := by decide +kernel
theorem dX0_chooseRows_74 : decode cX0_chooseRows 74 = .ok (.iaload, 1) := by decide +kernel
theorem dX0_chooseRows_75 : decode cX0_chooseRows 75 = .ok (.iload 7, 2) := by decide +kernel
theorem dX0_chooseRows_77 : decode cX0_chooseRows 77 = .ok (.if_icmp .ne 14, 3) := by decide +kernel
theorem dX0_chooseRows_80 : decode cX0_chooseRows 80 = .ok (.iload 11, 2) := by decide +kernel
theorem dX0_chooseRows_82 : decode cX0_chooseRows 82 = .ok (.iload 8, 2) := by decide +kernel
theorem dX0_chooseRows_84 : decode cX0_chooseRows 84 = .ok (.if_icmp .ge 7, 3) := by decide +kernel
theorem dX0_chooseRows_87 : decode cX0_chooseRows 87 = .ok (.iconst 1, 1) := by decide +kernel
theorem dX0_chooseRows_88 : decode cX0_chooseRows 88 = .ok (.goto 4, 3) := by decide +kernel
theorem dX0_chooseRows_91 : decode cX0_chooseRows 91 = .ok (.iconst 0, 1) := by decide +kernel
theorem dX0_chooseRows_92 : decode cX0_chooseRows 92 = .ok (.istore 12, 2) := by decide +kernel
theorem dX0_chooseRows_94 : decode cX0_chooseRows 94 = .ok (.iload 11, 2) := by decide +kernel
theorem dX0_chooseRows_96 : decode cX0_chooseRows 96 = .ok (.iload_n 3, 1) := by decide +kernel
theorem dX0_chooseRows_97 : decode cX0_chooseRows 97 = .ok (.if_icmp .gt 25, 3) := by decide +kernel
theorem dX0_chooseRows_100 : decode cX0_chooseRows 100 = .ok (.iload 12, 2) := by decide +kernel
theorem dX0_chooseRows_102 : decode cX0_chooseRows 102 = .ok (.ifCond .eq 20, 3) := by decide +kernel
theorem dX0_chooseRows_105 : decode cX0_chooseRows 105 = .ok (.iload 9, 2) := by decide +kernel
theorem dX0_chooseRows_107 : decode cX0_chooseRows 107 = .ok (.istore 6, 2) := by decide +kernel
theorem dX0_chooseRows_109 : decode cX0_chooseRows 109 = .ok (.aload_n 0, 1) := by decide +kernel
theorem dX0_chooseRows_110 : decode cX0_chooseRows 110 = .ok (.getfield 41, 3) := by decide +kernel
theorem dX0_chooseRows_113 : decode cX0_chooseRows 113 = .ok (.iload 9, 2) := by decide +kernel
theorem dX0_chooseRows_115 : decode cX0_chooseRows 115 = .ok (.iaload, 1) := by decide +kernel
theorem dX0_chooseRows_116 : decode cX0_chooseRows 116 = .ok (.istore 7, 2) := by decide +kernel
theorem dX0_chooseRows_118 : decode cX0_chooseRows 118 = .ok (.iload 11, 2) := by decide +kernel
theorem dX0_chooseRows_120 : decode cX0_chooseRows 120 = .ok (.istore 8, 2) := by decide +kernel
theorem dX0_chooseRows_122 : decode cX0_chooseRows 122 = .ok (.iload 9, 2) := by decide +kernel
theorem dX0_chooseRows_124 : decode cX0_chooseRows 124 = .ok (.iload 4, 2) := by decide +kernel
theorem dX0_chooseRows_126 : decode cX0_chooseRows 126 = .ok (.invokestatic 85, 3) := by decide +kernel
theorem dX0_chooseRows_129 : decode cX0_chooseRows 129 = .ok (.istore 9, 2) := by decide +kernel
theorem dX0_chooseRows_131 : decode cX0_chooseRows 131 = .ok (.iinc 10 1, 3) := by decide +kernel
theorem dX0_chooseRows_134 : decode cX0_chooseRows 134 = .ok (.goto (-92), 3) := by decide +kernel
theorem dX0_chooseRows_137 : decode cX0_chooseRows 137 = .ok (.iload 6, 2) := by decide +kernel
theorem dX0_chooseRows_139 : decode cX0_chooseRows 139 = .ok (.ireturn, 1) := by decide +kernel
theorem dX0_nextSet_0 : decode cX0_nextSet 0 = .ok (.iload_n 0, 1) := by decide +kernel
theorem dX0_nextSet_1 : decode cX0_nextSet 1 = .ok (.iload_n 1, 1) := by decide +kernel
theorem dX0_nextSet_2 : decode cX0_nextSet 2 = .ok (.isub, 1) := by decide +kernel
theorem dX0_nextSet_3 : decode cX0_nextSet 3 = .ok (.iload_n 1, 1) := by decide +kernel
theorem dX0_nextSet_4 : decode cX0_nextSet 4 = .ok (.iand, 1) := by decide +kernel
theorem dX0_nextSet_5 : decode cX0_nextSet 5 = .ok (.ireturn, 1) := by decide +kernel
theorem dX0_times_0 : decode cX0_times 0 = .ok (.iload_n 1, 1) := by decide +kernel
theorem dX0_times_1 : decode cX0_times 1 = .ok (.ldc 64, 2) := by decide +kernel
theorem dX0_times_3 : decode cX0_times 3 = .ok (.if_icmp .lt 8, 3) := by decide +kernel
theorem dX0_times_6 : decode cX0_times 6 = .ok (.ldc 64, 2) := by decide +kernel
theorem dX0_times_8 : decode cX0_times 8 = .ok (.goto 6, 3) := by decide +kernel
theorem dX0_times_11 : decode cX0_times 11 = .ok (.iload_n 0, 1) := by decide +kernel
theorem dX0_times_12 : decode cX0_times 12 = .ok (.iload_n 1, 1) := by decide +kernel
theorem dX0_times_13 : decode cX0_times 13 = .ok (.imul, 1) := by decide +kernel
theorem dX0_times_14 : decode cX0_times 14 = .ok (.ireturn, 1) := by decide +kernel
theorem dX0_usefulRows_0 : decode cX0_usefulRows 0 = .ok (.iconst 0, 1) := by decide +kernel
theorem dX0_usefulRows_1 : decode cX0_usefulRows 1 = .ok (.istore_n 2, 1) := by decide +kernel
theorem dX0_usefulRows_2 : decode cX0_usefulRows 2 = .ok (.iconst 0, 1) := by decide +kernel
theorem dX0_usefulRows_3 : decode cX0_usefulRows 3 = .ok (.istore_n 3, 1) := by decide +kernel
theorem dX0_usefulRows_4 : decode cX0_usefulRows 4 = .ok (.iload_n 3, 1) := by decide +kernel
theorem dX0_usefulRows_5 : decode cX0_usefulRows 5 = .ok (.aload_n 0, 1) := by decide +kernel
theorem dX0_usefulRows_6 : decode cX0_usefulRows 6 = .ok (.getfield 14, 3) := by decide +kernel
theorem dX0_usefulRows_9 : decode cX0_usefulRows 9 = .ok (.getfield 48, 3) := by decide +kernel
theorem dX0_usefulRows_12 : decode cX0_usefulRows 12 = .ok (.if_icmp .ge 32, 3) := by decide +kernel
theorem dX0_usefulRows_15 : decode cX0_usefulRows 15 = .ok (.iload_n 2, 1) := by decide +kernel
theorem dX0_usefulRows_16 : decode cX0_usefulRows 16 = .ok (.aload_n 0, 1) := by decide +kernel
theorem dX0_usefulRows_17 : decode cX0_usefulRows 17 = .ok (.getfield 22, 3) := by decide +kernel
theorem dX0_usefulRows_20 : decode cX0_usefulRows 20 = .ok (.iload_n 1, 1) := by decide +kernel
theorem dX0_usefulRows_21 : decode cX0_usefulRows 21 = .ok (.aaload, 1) := by decide +kernel
theorem dX0_usefulRows_22 : decode cX0_usefulRows 22 = .ok (.iload_n 3, 1) := by decide +kernel
theorem dX0_usefulRows_23 : decode cX0_usefulRows 23 = .ok (.iaload, 1) := by decide +kernel
theorem dX0_usefulRows_24 : decode cX0_usefulRows 24 = .ok (.ifCond .le 11, 3) := by decide +kernel
theorem dX0_usefulRows_27 : decode cX0_usefulRows 27 = .ok (.aload_n 0, 1) := by decide +kernel
theorem dX0_usefulRows_28 : decode cX0_usefulRows 28 = .ok (.iload_n 3, 1) := by decide +kernel
theorem dX0_usefulRows_29 : decode cX0_usefulRows 29 = .ok (.invokevirtual 89, 3) := by decide +kernel
theorem dX0_usefulRows_32 : decode cX0_usefulRows 32 = .ok (.goto 4, 3) := by decide +kernel
theorem dX0_usefulRows_35 : decode cX0_usefulRows 35 = .ok (.iconst 0, 1) := by decide +kernel
theorem dX0_usefulRows_36 : decode cX0_usefulRows 36 = .ok (.ior, 1) := by decide +kernel
theorem dX0_usefulRows_37 : decode cX0_usefulRows 37 = .ok (.istore_n 2, 1) := by decide +kernel
theorem dX0_usefulRows_38 : decode cX0_usefulRows 38 = .ok (.iinc 3 1, 3) := by decide +kernel
theorem dX0_usefulRows_41 : decode cX0_usefulRows 41 = .ok (.goto (-37), 3) := by decide +kernel
theorem dX0_usefulRows_44 : decode cX0_usefulRows 44 = .ok (.iload_n 2, 1) := by decide +kernel
theorem dX0_usefulRows_45 : decode cX0_usefulRows 45 = .ok (.ireturn, 1) := by decide +kernel
theorem dX0_sumSets_0 : decode cX0_sumSets 0 = .ok (.iconst 1, 1) := by decide +kernel
theorem dX0_sumSets_1 : decode cX0_sumSets 1 = .ok (.iload_n 3, 1) := by decide +kernel
theorem dX0_sumSets_2 : decode cX0_sumSets 2 = .ok (.invokestatic 76, 3) := by decide +kernel
theorem dX0_sumSets_5 : decode cX0_sumSets 5 = .ok (.ishl, 1) := by decide +kernel
theorem dX0_sumSets_6 : decode cX0_sumSets 6 = .ok (.istore 5, 2) := by decide +kernel
theorem dX0_sumSets_8 : decode cX0_sumSets 8 = .ok (.aload_n 0, 1) := by decide +kernel
theorem dX0_sumSets_9 : decode cX0_sumSets 9 = .ok (.getfield 41, 3) := by decide +kernel
theorem dX0_sumSets_12 : decode cX0_sumSets 12 = .ok (.iconst 0, 1) := by decide +kernel
theorem dX0_sumSets_13 : decode cX0_sumSets 13 = .ok (.invokestatic 92, 3) := by decide +kernel
theorem dX0_sumSets_16 : decode cX0_sumSets 16 = .ok (.iconst 0, 1) := by decide +kernel
theorem dX0_sumSets_17 : decode cX0_sumSets 17 = .ok (.istore 6, 2) := by decide +kernel
theorem dX0_sumSets_19 : decode cX0_sumSets 19 = .ok (.iload 6, 2) := by decide +kernel
theorem dX0_sumSets_21 : decode cX0_sumSets 21 = .ok (.aload_n 0, 1) := by decide +kernel
theorem dX0_sumSets_22 : decode cX0_sumSets 22 = .ok (.getfield 14, 3) := by decide +kernel
theorem dX0_sumSets_25 : decode cX0_sumSets 25 = .ok (.getfield 48, 3) := by decide +kernel
theorem dX0_sumSets_28 : decode cX0_sumSets 28 = .ok (.if_icmp .ge 116, 3) := by decide +kernel
theorem dX0_sumSets_31 : decode cX0_sumSets 31 = .ok (.aload_n 0, 1) := by decide +kernel
theorem dX0_sumSets_32 : decode cX0_sumSets 32 = .ok (.getfield 22, 3) := by decide +kernel
theorem dX0_sumSets_35 : decode cX0_sumSets 35 = .ok (.iload_n 1, 1) := by decide +kernel
theorem dX0_sumSets_36 : decode cX0_sumSets 36 = .ok (.aaload, 1) := by decide +kernel
theorem dX0_sumSets_37 : decode cX0_sumSets 37 = .ok (.iload 6, 2) := by decide +kernel
theorem dX0_sumSets_39 : decode cX0_sumSets 39 = .ok (.iaload, 1) := by decide +kernel
theorem dX0_sumSets_40 : decode cX0_sumSets 40 = .ok (.istore 7, 2) := by decide +kernel
theorem dX0_sumSets_42 : decode cX0_sumSets 42 = .ok (.iload 7, 2) := by decide +kernel
theorem dX0_sumSets_44 : decode cX0_sumSets 44 = .ok (.ifCond .le 94, 3) := by decide +kernel
theorem dX0_sumSets_47 : decode cX0_sumSets 47 = .ok (.aload_n 0, 1) := by decide +kernel
theorem dX0_sumSets_48 : decode cX0_sumSets 48 = .ok (.iload 6, 2) := by decide +kernel
theorem dX0_sumSets_50 : decode cX0_sumSets 50 = .ok (.invokevirtual 89, 3) := by decide +kernel
theorem dX0_sumSets_53 : decode cX0_sumSets 53 = .ok (.istore 8, 2) := by decide +kernel
theorem dX0_sumSets_55 : decode cX0_sumSets 55 = .ok (.aload_n 0, 1) := by decide +kernel
theorem dX0_sumSets_56 : decode cX0_sumSets 56 = .ok (.iload 6, 2) := by decide +kernel
theorem dX0_sumSets_58 : decode cX0_sumSets 58 = .ok (.aload_n 2, 1) := by decide +kernel
theorem dX0_sumSets_59 : decode cX0_sumSets 59 = .ok (.iload 8, 2) := by decide +kernel
theorem dX0_sumSets_61 : decode cX0_sumSets 61 = .ok (.iload 4, 2) := by decide +kernel
theorem dX0_sumSets_63 : decode cX0_sumSets 63 = .ok (.invokevirtual 98, 3) := by decide +kernel
theorem dX0_sumSets_66 : decode cX0_sumSets 66 = .ok (.iconst 0, 1) := by decide +kernel
theorem dX0_sumSets_67 : decode cX0_sumSets 67 = .ok (.istore 9, 2) := by decide +kernel
theorem dX0_sumSets_69 : decode cX0_sumSets 69 = .ok (.iconst 0, 1) := by decide +kernel
theorem dX0_sumSets_70 : decode cX0_sumSets 70 = .ok (.istore 10, 2) := by decide +kernel
theorem dX0_sumSets_72 : decode cX0_sumSets 72 = .ok (.iload 10, 2) := by decide +kernel
theorem dX0_sumSets_74 : decode cX0_sumSets 74 = .ok (.iload 5, 2) := by decide +kernel
theorem dX0_sumSets_76 : decode cX0_sumSets 76 = .ok (.if_icmp .ge 62, 3) := by decide +kernel
theorem dX0_sumSets_79 : decode cX0_sumSets 79 = .ok (.iload 9, 2) := by decide +kernel
theorem dX0_sumSets_81 : decode cX0_sumSets 81 = .ok (.invokestatic 76, 3) := by decide +kernel
theorem dX0_sumSets_84 : decode cX0_sumSets 84 = .ok (.iload 4, 2) := by decide +kernel
theorem dX0_sumSets_86 : decode cX0_sumSets 86 = .ok (.if_icmp .gt 38, 3) := by decide +kernel
theorem dX0_sumSets_89 : decode cX0_sumSets 89 = .ok (.aload_n 0, 1) := by decide +kernel
theorem dX0_sumSets_90 : decode cX0_sumSets 90 = .ok (.getfield 41, 3) := by decide +kernel
theorem dX0_sumSets_93 : decode cX0_sumSets 93 = .ok (.iload 9, 2) := by decide +kernel
theorem dX0_sumSets_95 : decode cX0_sumSets 95 = .ok (.ldc 64, 2) := by decide +kernel
theorem dX0_sumSets_97 : decode cX0_sumSets 97 = .ok (.aload_n 0, 1) := by decide +kernel
theorem dX0_sumSets_98 : decode cX0_sumSets 98 = .ok (.getfield 41, 3) := by decide +kernel
theorem dX0_sumSets_101 : decode cX0_sumSets 101 = .ok (.iload 9, 2) := by decide +kernel
theorem dX0_sumSets_103 : decode cX0_sumSets 103 = .ok (.iaload, 1) := by decide +kernel
theorem dX0_sumSets_104 : decode cX0_sumSets 104 = .ok (.iload 7, 2) := by decide +kernel
theorem dX0_sumSets_106 : decode cX0_sumSets 106 = .ok (.aload_n 0, 1) := by decide +kernel
theorem dX0_sumSets_107 : decode cX0_sumSets 107 = .ok (.getfield 38, 3) := by decide +kernel
theorem dX0_sumSets_110 : decode cX0_sumSets 110 = .ok (.iload 9, 2) := by decide +kernel
theorem dX0_sumSets_112 : decode cX0_sumSets 112 = .ok (.iload 8, 2) := by decide +kernel
theorem dX0_sumSets_114 : decode cX0_sumSets 114 = .ok (.iand, 1) := by decide +kernel
theorem dX0_sumSets_115 : decode cX0_sumSets 115 = .ok (.iaload, 1) := by decide +kernel
theorem dX0_sumSets_116 : decode cX0_sumSets 116 = .ok (.invokestatic 101, 3) := by decide +kernel
theorem dX0_sumSets_119 : decode cX0_sumSets 119 = .ok (.iadd, 1) := by decide +kernel
theorem dX0_sumSets_120 : decode cX0_sumSets 120 = .ok (.invokestatic 104, 3) := by decide +kernel
theorem dX0_sumSets_123 : decode cX0_sumSets 123 = .ok (.iastore, 1) := by decide +kernel
theorem dX0_sumSets_124 : decode cX0_sumSets 124 = .ok (.iload 9, 2) := by decide +kernel
theorem dX0_sumSets_126 : decode cX0_sumSets 126 = .ok (.iload_n 3, 1) := by decide +kernel
theorem dX0_sumSets_127 : decode cX0_sumSets 127 = .ok (.invokestatic 85, 3) := by decide +kernel
theorem dX0_sumSets_130 : decode cX0_sumSets 130 = .ok (.istore 9, 2) := by decide +kernel
theorem dX0_sumSets_132 : decode cX0_sumSets 132 = .ok (.iinc 10 1, 3) := by decide +kernel
theorem dX0_sumSets_135 : decode cX0_sumSets 135 = .ok (.goto (-63), 3) := by decide +kernel
theorem dX0_sumSets_138 : decode cX0_sumSets 138 = .ok (.iinc 6 1, 3) := by decide +kernel
theorem dX0_sumSets_141 : decode cX0_sumSets 141 = .ok (.goto (-122), 3) := by decide +kernel
theorem dX0_sumSets_144 : decode cX0_sumSets 144 = .ok (.return_, 1) := by decide +kernel
theorem dX0_placeRows_0 : decode cX0_placeRows 0 = .ok (.aload_n 0, 1) := by decide +kernel
theorem dX0_placeRows_1 : decode cX0_placeRows 1 = .ok (.getfield 32, 3) := by decide +kernel
theorem dX0_placeRows_4 : decode cX0_placeRows 4 = .ok (.iconst 0, 1) := by decide +kernel
theorem dX0_placeRows_5 : decode cX0_placeRows 5 = .ok (.invokestatic 92, 3) := by decide +kernel
theorem dX0_placeRows_8 : decode cX0_placeRows 8 = .ok (.iconst 0, 1) := by decide +kernel
theorem dX0_placeRows_9 : decode cX0_placeRows 9 = .ok (.istore_n 2, 1) := by decide +kernel
theorem dX0_placeRows_10 : decode cX0_placeRows 10 = .ok (.iload_n 1, 1) := by decide +kernel
theorem dX0_placeRows_11 : decode cX0_placeRows 11 = .ok (.bipush 10, 2) := by decide +kernel
theorem dX0_placeRows_13 : decode cX0_placeRows 13 = .ok (.imul, 1) := by decide +kernel
theorem dX0_placeRows_14 : decode cX0_placeRows 14 = .ok (.istore_n 3, 1) := by decide +kernel
theorem dX0_placeRows_15 : decode cX0_placeRows 15 = .ok (.iconst 0, 1) := by decide +kernel
theorem dX0_placeRows_16 : decode cX0_placeRows 16 = .ok (.istore 4, 2) := by decide +kernel
theorem dX0_placeRows_18 : decode cX0_placeRows 18 = .ok (.iload 4, 2) := by decide +kernel
theorem dX0_placeRows_20 : decode cX0_placeRows 20 = .ok (.aload_n 0, 1) := by decide +kernel
theorem dX0_placeRows_21 : decode cX0_placeRows 21 = .ok (.getfield 14, 3) := by decide +kernel
theorem dX0_placeRows_24 : decode cX0_placeRows 24 = .ok (.getfield 55, 3) := by decide +kernel
theorem dX0_placeRows_27 : decode cX0_placeRows 27 = .ok (.iload_n 1, 1) := by decide +kernel
theorem dX0_placeRows_28 : decode cX0_placeRows 28 = .ok (.iaload, 1) := by decide +kernel
theorem dX0_placeRows_29 : decode cX0_placeRows 29 = .ok (.if_icmp .ge 109, 3) := by decide +kernel
theorem dX0_placeRows_32 : decode cX0_placeRows 32 = .ok (.iconst 0, 1) := by decide +kernel
theorem dX0_placeRows_33 : decode cX0_placeRows 33 = .ok (.istore 5, 2) := by decide +kernel
theorem dX0_placeRows_35 : decode cX0_placeRows 35 = .ok (.iload 5, 2) := by decide +kernel
theorem dX0_placeRows_37 : decode cX0_placeRows 37 = .ok (.aload_n 0, 1) := by decide +kernel
theorem dX0_placeRows_38 : decode cX0_placeRows 38 = .ok (.getfield 29, 3) := by decide +kernel
theorem dX0_placeRows_41 : decode cX0_placeRows 41 = .ok (.getfield 48, 3) := by decide +kernel
theorem dX0_placeRows_44 : decode cX0_placeRows 44 = .ok (.if_icmp .ge 88, 3) := by decide +kernel
theorem dX0_placeRows_47 : decode cX0_placeRows 47 = .ok (.iload 4, 2) := by decide +kernel
theorem dX0_placeRows_49 : decode cX0_placeRows 49 = .ok (.iconst 5, 1) := by decide +kernel
theorem dX0_placeRows_50 : decode cX0_placeRows 50 = .ok (.imul, 1) := by decide +kernel
theorem dX0_placeRows_51 : decode cX0_placeRows 51 = .ok (.aload_n 0, 1) := by decide +kernel
theorem dX0_placeRows_52 : decode cX0_placeRows 52 = .ok (.getfield 29, 3) := by decide +kernel
theorem dX0_placeRows_55 : decode cX0_placeRows 55 = .ok (.getfield 55, 3) := by decide +kernel
theorem dX0_placeRows_58 : decode cX0_placeRows 58 = .ok (.iload 5, 2) := by decide +kernel
theorem dX0_placeRows_60 : decode cX0_placeRows 60 = .ok (.iaload, 1) := by decide +kernel
theorem dX0_placeRows_61 : decode cX0_placeRows 61 = .ok (.iadd, 1) := by decide +kernel
theorem dX0_placeRows_62 : decode cX0_placeRows 62 = .ok (.istore 6, 2) := by decide +kernel
theorem dX0_placeRows_64 : decode cX0_placeRows 64 = .ok (.aload_n 0, 1) := by decide +kernel
theorem dX0_placeRows_65 : decode cX0_placeRows 65 = .ok (.getfield 32, 3) := by decide +kernel
theorem dX0_placeRows_68 : decode cX0_placeRows 68 = .ok (.iload 6, 2) := by decide +kernel
theorem dX0_placeRows_70 : decode cX0_placeRows 70 = .ok (.iaload, 1) := by decide +kernel
theorem dX0_placeRows_71 : decode cX0_placeRows 71 = .ok (.ifCond .ne 55, 3) := by decide +kernel
theorem dX0_placeRows_74 : decode cX0_placeRows 74 = .ok (.aload_n 0, 1) := by decide +kernel
theorem dX0_placeRows_75 : decode cX0_placeRows 75 = .ok (.getfield 29, 3) := by decide +kernel
theorem dX0_placeRows_78 : decode cX0_placeRows 78 = .ok (.iload 5, 2) := by decide +kernel
theorem dX0_placeRows_80 : decode cX0_placeRows 80 = .ok (.aload_n 0, 1) := by decide +kernel
theorem dX0_placeRows_81 : decode cX0_placeRows 81 = .ok (.getfield 14, 3) := by decide +kernel
theorem dX0_placeRows_84 : decode cX0_placeRows 84 = .ok (.getfield 52, 3) := by decide +kernel
theorem dX0_placeRows_87 : decode cX0_placeRows 87 = .ok (.iload_n 3, 1) := by decide +kernel
theorem dX0_placeRows_88 : decode cX0_placeRows 88 = .ok (.iload 4, 2) := by decide +kernel
theorem dX0_placeRows_90 : decode cX0_placeRows 90 = .ok (.iadd, 1) := by decide +kernel
theorem dX0_placeRows_91 : decode cX0_placeRows 91 = .ok (.iload_n 3, 1) := by decide +kernel
theorem dX0_placeRows_92 : decode cX0_placeRows 92 = .ok (.aload_n 0, 1) := by decide +kernel
theorem dX0_placeRows_93 : decode cX0_placeRows 93 = .ok (.getfield 14, 3) := by decide +kernel
theorem dX0_placeRows_96 : decode cX0_placeRows 96 = .ok (.getfield 55, 3) := by decide +kernel
theorem dX0_placeRows_99 : decode cX0_placeRows 99 = .ok (.iload_n 1, 1) := by decide +kernel
theorem dX0_placeRows_100 : decode cX0_placeRows 100 = .ok (.iaload, 1) := by decide +kernel
theorem dX0_placeRows_101 : decode cX0_placeRows 101 = .ok (.iadd, 1) := by decide +kernel
theorem dX0_placeRows_102 : decode cX0_placeRows 102 = .ok (.invokevirtual 109, 3) := by decide +kernel
theorem dX0_placeRows_105 : decode cX0_placeRows 105 = .ok (.ifCond .eq 21, 3) := by decide +kernel
theorem dX0_placeRows_108 : decode cX0_placeRows 108 = .ok (.aload_n 0, 1) := by decide +kernel
theorem dX0_placeRows_109 : decode cX0_placeRows 109 = .ok (.getfield 32, 3) := by decide +kernel
theorem dX0_placeRows_112 : decode cX0_placeRows 112 = .ok (.iload 6, 2) := by decide +kernel
theorem dX0_placeRows_114 : decode cX0_placeRows 114 = .ok (.iconst 1, 1) := by decide +kernel
theorem dX0_placeRows_115 : decode cX0_placeRows 115 = .ok (.iload 5, 2) := by decide +kernel
theorem dX0_placeRows_117 : decode cX0_placeRows 117 = .ok (.ishl, 1) := by decide +kernel
theorem dX0_placeRows_118 : decode cX0_placeRows 118 = .ok (.iastore, 1) := by decide +kernel
theorem dX0_placeRows_119 : decode cX0_placeRows 119 = .ok (.iload_n 2, 1) := by decide +kernel
theorem dX0_placeRows_120 : decode cX0_placeRows 120 = .ok (.iconst 1, 1) := by decide +kernel
theorem dX0_placeRows_121 : decode cX0_placeRows 121 = .ok (.iload 5, 2) := by decide +kernel
theorem dX0_placeRows_123 : decode cX0_placeRows 123 = .ok (.ishl, 1) := by decide +kernel
theorem dX0_placeRows_124 : decode cX0_placeRows 124 = .ok (.ior, 1) := by decide +kernel
theorem dX0_placeRows_125 : decode cX0_placeRows 125 = .ok (.istore_n 2, 1) := by decide +kernel
theorem dX0_placeRows_126 : decode cX0_placeRows 126 = .ok (.iinc 5 1, 3) := by decide +kernel
theorem dX0_placeRows_129 : decode cX0_placeRows 129 = .ok (.goto (-94), 3) := by decide +kernel
theorem dX0_placeRows_132 : decode cX0_placeRows 132 = .ok (.iinc 4 1, 3) := by decide +kernel
theorem dX0_placeRows_135 : decode cX0_placeRows 135 = .ok (.goto (-117), 3) := by decide +kernel
theorem dX0_placeRows_138 : decode cX0_placeRows 138 = .ok (.iload_n 2, 1) := by decide +kernel
theorem dX0_placeRows_139 : decode cX0_placeRows 139 = .ok (.ireturn, 1) := by decide +kernel
theorem dX0_measureSets_0 : decode cX0_measureSets 0 = .ok (.iconst 1, 1) := by decide +kernel
theorem dX0_measureSets_1 : decode cX0_measureSets 1 = .ok (.iload_n 3, 1) := by decide +kernel
theorem dX0_measureSets_2 : decode cX0_measureSets 2 = .ok (.invokestatic 76, 3) := by decide +kernel
theorem dX0_measureSets_5 : decode cX0_measureSets 5 = .ok (.ishl, 1) := by decide +kernel
theorem dX0_measureSets_6 : decode cX0_measureSets 6 = .ok (.istore 5, 2) := by decide +kernel
theorem dX0_measureSets_8 : decode cX0_measureSets 8 = .ok (.iconst 0, 1) := by decide +kernel
theorem dX0_measureSets_9 : decode cX0_measureSets 9 = .ok (.istore 6, 2) := by decide +kernel
theorem dX0_measureSets_11 : decode cX0_measureSets 11 = .ok (.iconst 0, 1) := by decide +kernel
theorem dX0_measureSets_12 : decode cX0_measureSets 12 = .ok (.istore 7, 2) := by decide +kernel
theorem dX0_measureSets_14 : decode cX0_measureSets 14 = .ok (.iload 7, 2) := by decide +kernel
theorem dX0_measureSets_16 : decode cX0_measureSets 16 = .ok (.iload 5, 2) := by decide +kernel
theorem dX0_measureSets_18 : decode cX0_measureSets 18 = .ok (.if_icmp .ge 42, 3) := by decide +kernel
theorem dX0_measureSets_21 : decode cX0_measureSets 21 = .ok (.iload 6, 2) := by decide +kernel
theorem dX0_measureSets_23 : decode cX0_measureSets 23 = .ok (.invokestatic 76, 3) := by decide +kernel
theorem dX0_measureSets_26 : decode cX0_measureSets 26 = .ok (.iload 4, 2) := by decide +kernel
theorem dX0_measureSets_28 : decode cX0_measureSets 28 = .ok (.if_icmp .gt 18, 3) := by decide +kernel
theorem dX0_measureSets_31 : decode cX0_measureSets 31 = .ok (.aload_n 0, 1) := by decide +kernel
theorem dX0_measureSets_32 : decode cX0_measureSets 32 = .ok (.getfield 38, 3) := by decide +kernel
theorem dX0_measureSets_35 : decode cX0_measureSets 35 = .ok (.iload 6, 2) := by decide +kernel
theorem dX0_measureSets_37 : decode cX0_measureSets 37 = .ok (.aload_n 0, 1) := by decide +kernel
theorem dX0_measureSets_38 : decode cX0_measureSets 38 = .ok (.iload_n 1, 1) := by decide +kernel
theorem dX0_measureSets_39 : decode cX0_measureSets 39 = .ok (.aload_n 2, 1) := by decide +kernel
theorem dX0_measureSets_40 : decode cX0_measureSets 40 = .ok (.iload 6, 2) := by decide +kernel
theorem dX0_measureSets_42 : decode cX0_measureSets 42 = .ok (.invokevirtual 113, 3) := by decide +kernel
theorem dX0_measureSets_45 : decode cX0_measureSets 45 = .ok (.iastore, 1) := by decide +kernel
theorem dX0_measureSets_46 : decode cX0_measureSets 46 = .ok (.iload 6, 2) := by decide +kernel
theorem dX0_measureSets_48 : decode cX0_measureSets 48 = .ok (.iload_n 3, 1) := by decide +kernel
theorem dX0_measureSets_49 : decode cX0_measureSets 49 = .ok (.invokestatic 85, 3) := by decide +kernel
theorem dX0_measureSets_52 : decode cX0_measureSets 52 = .ok (.istore 6, 2) := by decide +kernel
theorem dX0_measureSets_54 : decode cX0_measureSets 54 = .ok (.iinc 7 1, 3) := by decide +kernel
theorem dX0_measureSets_57 : decode cX0_measureSets 57 = .ok (.goto (-43), 3) := by decide +kernel
theorem dX0_measureSets_60 : decode cX0_measureSets 60 = .ok (.return_, 1) := by decide +kernel
theorem dX0_cellsWith_0 : decode cX0_cellsWith 0 = .ok (.aload_n 0, 1) := by decide +kernel
theorem dX0_cellsWith_1 : decode cX0_cellsWith 1 = .ok (.getfield 14, 3) := by decide +kernel
theorem dX0_cellsWith_4 : decode cX0_cellsWith 4 = .ok (.getfield 55, 3) := by decide +kernel
theorem dX0_cellsWith_7 : decode cX0_cellsWith 7 = .ok (.iload_n 1, 1) := by decide +kernel
theorem dX0_cellsWith_8 : decode cX0_cellsWith 8 = .ok (.iaload, 1) := by decide +kernel
theorem dX0_cellsWith_9 : decode cX0_cellsWith 9 = .ok (.istore 4, 2) := by decide +kernel
theorem dX0_cellsWith_11 : decode cX0_cellsWith 11 = .ok (.aload_n 0, 1) := by decide +kernel
theorem dX0_cellsWith_12 : decode cX0_cellsWith 12 = .ok (.getfield 35, 3) := by decide +kernel
theorem dX0_cellsWith_15 : decode cX0_cellsWith 15 = .ok (.iload 4, 2) := by decide +kernel
theorem dX0_cellsWith_17 : decode cX0_cellsWith 17 = .ok (.iconst 0, 1) := by decide +kernel
theorem dX0_cellsWith_18 : decode cX0_cellsWith 18 = .ok (.iastore, 1) := by decide +kernel
theorem dX0_cellsWith_19 : decode cX0_cellsWith 19 = .ok (.iload 4, 2) := by decide +kernel
theorem dX0_cellsWith_21 : decode cX0_cellsWith 21 = .ok (.iconst 1, 1) := by decide +kernel
theorem dX0_cellsWith_22 : decode cX0_cellsWith 22 = .ok (.isub, 1) := by decide +kernel
theorem dX0_cellsWith_23 : decode cX0_cellsWith 23 = .ok (.istore 5, 2) := by decide +kernel
theorem dX0_cellsWith_25 : decode cX0_cellsWith 25 = .ok (.iload 5, 2) := by decide +kernel
theorem dX0_cellsWith_27 : decode cX0_cellsWith 27 = .ok (.ifCond .lt 125, 3) := by decide +kernel
theorem dX0_cellsWith_30 : decode cX0_cellsWith 30 = .ok (.aload_n 2, 1) := by decide +kernel
theorem dX0_cellsWith_31 : decode cX0_cellsWith 31 = .ok (.getfield 117, 3) := by decide +kernel
theorem dX0_cellsWith_34 : decode cX0_cellsWith 34 = .ok (.aload_n 0, 1) := by decide +kernel
theorem dX0_cellsWith_35 : decode cX0_cellsWith 35 = .ok (.getfield 14, 3) := by decide +kernel
theorem dX0_cellsWith_38 : decode cX0_cellsWith 38 = .ok (.getfield 52, 3) := by decide +kernel
theorem dX0_cellsWith_41 : decode cX0_cellsWith 41 = .ok (.iload_n 1, 1) := by decide +kernel
theorem dX0_cellsWith_42 : decode cX0_cellsWith 42 = .ok (.bipush 10, 2) := by decide +kernel
theorem dX0_cellsWith_44 : decode cX0_cellsWith 44 = .ok (.imul, 1) := by decide +kernel
theorem dX0_cellsWith_45 : decode cX0_cellsWith 45 = .ok (.iload 5, 2) := by decide +kernel
theorem dX0_cellsWith_47 : decode cX0_cellsWith 47 = .ok (.iadd, 1) := by decide +kernel
theorem dX0_cellsWith_48 : decode cX0_cellsWith 48 = .ok (.iaload, 1) := by decide +kernel
theorem dX0_cellsWith_49 : decode cX0_cellsWith 49 = .ok (.iaload, 1) := by decide +kernel
theorem dX0_cellsWith_50 : decode cX0_cellsWith 50 = .ok (.ifCond .eq 7, 3) := by decide +kernel
theorem dX0_cellsWith_53 : decode cX0_cellsWith 53 = .ok (.iconst 1, 1) := by decide +kernel
theorem dX0_cellsWith_54 : decode cX0_cellsWith 54 = .ok (.goto 4, 3) := by decide +kernel
theorem dX0_cellsWith_57 : decode cX0_cellsWith 57 = .ok (.iconst 0, 1) := by decide +kernel
theorem dX0_cellsWith_58 : decode cX0_cellsWith 58 = .ok (.istore 6, 2) := by decide +kernel
theorem dX0_cellsWith_60 : decode cX0_cellsWith 60 = .ok (.iload 6, 2) := by decide +kernel
theorem dX0_cellsWith_62 : decode cX0_cellsWith 62 = .ok (.ifCond .eq 15, 3) := by decide +kernel
theorem dX0_cellsWith_65 : decode cX0_cellsWith 65 = .ok (.aload_n 0, 1) := by decide +kernel
theorem dX0_cellsWith_66 : decode cX0_cellsWith 66 = .ok (.getfield 35, 3) := by decide +kernel
theorem dX0_cellsWith_69 : decode cX0_cellsWith 69 = .ok (.iload 5, 2) := by decide +kernel
theorem dX0_cellsWith_71 : decode cX0_cellsWith 71 = .ok (.iconst 1, 1) := by decide +kernel
theorem dX0_cellsWith_72 : decode cX0_cellsWith 72 = .ok (.iadd, 1) := by decide +kernel
theorem dX0_cellsWith_73 : decode cX0_cellsWith 73 = .ok (.iaload, 1) := by decide +kernel
theorem dX0_cellsWith_74 : decode cX0_cellsWith 74 = .ok (.goto 5, 3) := by decide +kernel
theorem dX0_cellsWith_77 : decode cX0_cellsWith 77 = .ok (.ldc 64, 2) := by decide +kernel
theorem dX0_cellsWith_79 : decode cX0_cellsWith 79 = .ok (.istore 7, 2) := by decide +kernel
theorem dX0_cellsWith_81 : decode cX0_cellsWith 81 = .ok (.iconst 2, 1) := by decide +kernel
theorem dX0_cellsWith_82 : decode cX0_cellsWith 82 = .ok (.istore 8, 2) := by decide +kernel
theorem dX0_cellsWith_84 : decode cX0_cellsWith 84 = .ok (.iload 8, 2) := by decide +kernel
theorem dX0_cellsWith_86 : decode cX0_cellsWith 86 = .ok (.iconst 4, 1) := by decide +kernel
theorem dX0_cellsWith_87 : decode cX0_cellsWith 87 = .ok (.if_icmp .gt 43, 3) := by decide +kernel
theorem dX0_cellsWith_90 : decode cX0_cellsWith 90 = .ok (.aload_n 0, 1) := by decide +kernel
theorem dX0_cellsWith_91 : decode cX0_cellsWith 91 = .ok (.getfield 32, 3) := by decide +kernel
theorem dX0_cellsWith_94 : decode cX0_cellsWith 94 = .ok (.iload 5, 2) := by decide +kernel
theorem dX0_cellsWith_96 : decode cX0_cellsWith 96 = .ok (.iconst 5, 1) := by decide +kernel
theorem dX0_cellsWith_97 : decode cX0_cellsWith 97 = .ok (.imul, 1) := by decide +kernel
theorem dX0_cellsWith_98 : decode cX0_cellsWith 98 = .ok (.iload 8, 2) := by decide +kernel
theorem dX0_cellsWith_100 : decode cX0_cellsWith 100 = .ok (.iadd, 1) := by decide +kernel
theorem dX0_cellsWith_101 : decode cX0_cellsWith 101 = .ok (.iaload, 1) := by decide +kernel
theorem dX0_cellsWith_102 : decode cX0_cellsWith 102 = .ok (.iload_n 3, 1) := by decide +kernel
theorem dX0_cellsWith_103 : decode cX0_cellsWith 103 = .ok (.iand, 1) := by decide +kernel
theorem dX0_cellsWith_104 : decode cX0_cellsWith 104 = .ok (.ifCond .eq 20, 3) := by decide +kernel
theorem dX0_cellsWith_107 : decode cX0_cellsWith 107 = .ok (.iload 7, 2) := by decide +kernel
theorem dX0_cellsWith_109 : decode cX0_cellsWith 109 = .ok (.aload_n 0, 1) := by decide +kernel
theorem dX0_cellsWith_110 : decode cX0_cellsWith 110 = .ok (.getfield 35, 3) := by decide +kernel
theorem dX0_cellsWith_113 : decode cX0_cellsWith 113 = .ok (.iload 5, 2) := by decide +kernel
theorem dX0_cellsWith_115 : decode cX0_cellsWith 115 = .ok (.iload 8, 2) := by decide +kernel
theorem dX0_cellsWith_117 : decode cX0_cellsWith 117 = .ok (.iadd, 1) := by decide +kernel
theorem dX0_cellsWith_118 : decode cX0_cellsWith 118 = .ok (.iaload, 1) := by decide +kernel
theorem dX0_cellsWith_119 : decode cX0_cellsWith 119 = .ok (.invokestatic 104, 3) := by decide +kernel
theorem dX0_cellsWith_122 : decode cX0_cellsWith 122 = .ok (.istore 7, 2) := by decide +kernel
theorem dX0_cellsWith_124 : decode cX0_cellsWith 124 = .ok (.iinc 8 1, 3) := by decide +kernel
theorem dX0_cellsWith_127 : decode cX0_cellsWith 127 = .ok (.goto (-43), 3) := by decide +kernel
theorem dX0_cellsWith_130 : decode cX0_cellsWith 130 = .ok (.aload_n 0, 1) := by decide +kernel
theorem dX0_cellsWith_131 : decode cX0_cellsWith 131 = .ok (.getfield 35, 3) := by decide +kernel
theorem dX0_cellsWith_134 : decode cX0_cellsWith 134 = .ok (.iload 5, 2) := by decide +kernel
theorem dX0_cellsWith_136 : decode cX0_cellsWith 136 = .ok (.ldc 64, 2) := by decide +kernel
theorem dX0_cellsWith_138 : decode cX0_cellsWith 138 = .ok (.iload 7, 2) := by decide +kernel
theorem dX0_cellsWith_140 : decode cX0_cellsWith 140 = .ok (.iconst 1, 1) := by decide +kernel
theorem dX0_cellsWith_141 : decode cX0_cellsWith 141 = .ok (.iadd, 1) := by decide +kernel
theorem dX0_cellsWith_142 : decode cX0_cellsWith 142 = .ok (.invokestatic 104, 3) := by decide +kernel
theorem dX0_cellsWith_145 : decode cX0_cellsWith 145 = .ok (.iastore, 1) := by decide +kernel
theorem dX0_cellsWith_146 : decode cX0_cellsWith 146 = .ok (.iinc 5 (-1), 3) := by decide +kernel
theorem dX0_cellsWith_149 : decode cX0_cellsWith 149 = .ok (.goto (-124), 3) := by decide +kernel
theorem dX0_cellsWith_152 : decode cX0_cellsWith 152 = .ok (.aload_n 0, 1) := by decide +kernel
theorem dX0_cellsWith_153 : decode cX0_cellsWith 153 = .ok (.getfield 35, 3) := by decide +kernel
theorem dX0_cellsWith_156 : decode cX0_cellsWith 156 = .ok (.iconst 0, 1) := by decide +kernel
theorem dX0_cellsWith_157 : decode cX0_cellsWith 157 = .ok (.iaload, 1) := by decide +kernel
theorem dX0_cellsWith_158 : decode cX0_cellsWith 158 = .ok (.ireturn, 1) := by decide +kernel
theorem dX1_init_0 : decode cX1_init 0 = .ok (.aload_n 0, 1) := by decide +kernel
theorem dX1_init_1 : decode cX1_init 1 = .ok (.invokespecial 3, 3) := by decide +kernel
theorem dX1_init_4 : decode cX1_init 4 = .ok (.aload_n 0, 1) := by decide +kernel
theorem dX1_init_5 : decode cX1_init 5 = .ok (.bipush 26, 2) := by decide +kernel
theorem dX1_init_7 : decode cX1_init 7 = .ok (.newarray .int, 2) := by decide +kernel
theorem dX1_init_9 : decode cX1_init 9 = .ok (.putfield 9, 3) := by decide +kernel
theorem dX1_init_12 : decode cX1_init 12 = .ok (.aload_n 0, 1) := by decide +kernel
theorem dX1_init_13 : decode cX1_init 13 = .ok (.new 15, 3) := by decide +kernel
theorem dX1_init_16 : decode cX1_init 16 = .ok (.dup, 1) := by decide +kernel
theorem dX1_init_17 : decode cX1_init 17 = .ok (.bipush 12, 2) := by decide +kernel
theorem dX1_init_19 : decode cX1_init 19 = .ok (.iconst 4, 1) := by decide +kernel
theorem dX1_init_20 : decode cX1_init 20 = .ok (.invokespecial 17, 3) := by decide +kernel
theorem dX1_init_23 : decode cX1_init 23 = .ok (.putfield 20, 3) := by decide +kernel
theorem dX1_init_26 : decode cX1_init 26 = .ok (.aload_n 0, 1) := by decide +kernel
theorem dX1_init_27 : decode cX1_init 27 = .ok (.bipush 12, 2) := by decide +kernel
theorem dX1_init_29 : decode cX1_init 29 = .ok (.newarray .int, 2) := by decide +kernel
theorem dX1_init_31 : decode cX1_init 31 = .ok (.putfield 24, 3) := by decide +kernel
theorem dX1_init_34 : decode cX1_init 34 = .ok (.aload_n 0, 1) := by decide +kernel
theorem dX1_init_35 : decode cX1_init 35 = .ok (.bipush 12, 2) := by decide +kernel
theorem dX1_init_37 : decode cX1_init 37 = .ok (.newarray .int, 2) := by decide +kernel
theorem dX1_init_39 : decode cX1_init 39 = .ok (.putfield 27, 3) := by decide +kernel
theorem dX1_init_42 : decode cX1_init 42 = .ok (.return_, 1) := by decide +kernel
theorem dX1_addShort_0 : decode cX1_addShort 0 = .ok (.aload_n 0, 1) := by decide +kernel
theorem dX1_addShort_1 : decode cX1_addShort 1 = .ok (.getfield 20, 3) := by decide +kernel
theorem dX1_addShort_4 : decode cX1_addShort 4 = .ok (.aload_n 1, 1) := by decide +kernel
theorem dX1_addShort_5 : decode cX1_addShort 5 = .ok (.invokevirtual 30, 3) := by decide +kernel
theorem dX1_addShort_8 : decode cX1_addShort 8 = .ok (.istore_n 3, 1) := by decide +kernel
theorem dX1_addShort_9 : decode cX1_addShort 9 = .ok (.iload_n 3, 1) := by decide +kernel
theorem dX1_addShort_10 : decode cX1_addShort 10 = .ok (.ifCond .lt 42, 3) := by decide +kernel
theorem dX1_addShort_13 : decode cX1_addShort 13 = .ok (.aload_n 0, 1) := by decide +kernel
theorem dX1_addShort_14 : decode cX1_addShort 14 = .ok (.getfield 24, 3) := by decide +kernel
theorem dX1_addShort_17 : decode cX1_addShort 17 = .ok (.iload_n 3, 1) := by decide +kernel
theorem dX1_addShort_18 : decode cX1_addShort 18 = .ok (.aload_n 2, 1) := by decide +kernel
theorem dX1_addShort_19 : decode cX1_addShort 19 = .ok (.iconst 0, 1) := by decide +kernel
theorem dX1_addShort_20 : decode cX1_addShort 20 = .ok (.invokevirtual 34, 3) := by decide +kernel
theorem dX1_addShort_23 : decode cX1_addShort 23 = .ok (.iastore, 1) := by decide +kernel
theorem dX1_addShort_24 : decode cX1_addShort 24 = .ok (.aload_n 0, 1) := by decide +kernel
theorem dX1_addShort_25 : decode cX1_addShort 25 = .ok (.getfield 27, 3) := by decide +kernel
theorem dX1_addShort_28 : decode cX1_addShort 28 = .ok (.iload_n 3, 1) := by decide +kernel
theorem dX1_addShort_29 : decode cX1_addShort 29 = .ok (.aload_n 2, 1) := by decide +kernel
theorem dX1_addShort_30 : decode cX1_addShort 30 = .ok (.getfield 40, 3) := by decide +kernel
theorem dX1_addShort_33 : decode cX1_addShort 33 = .ok (.iconst 1, 1) := by decide +kernel
theorem dX1_addShort_34 : decode cX1_addShort 34 = .ok (.if_icmp .le 11, 3) := by decide +kernel
theorem dX1_addShort_37 : decode cX1_addShort 37 = .ok (.aload_n 2, 1) := by decide +kernel
theorem dX1_addShort_38 : decode cX1_addShort 38 = .ok (.iconst 1, 1) := by decide +kernel
theorem dX1_addShort_39 : decode cX1_addShort 39 = .ok (.invokevirtual 34, 3) := by decide +kernel
theorem dX1_addShort_42 : decode cX1_addShort 42 = .ok (.goto 4, 3) := by decide +kernel
theorem dX1_addShort_45 : decode cX1_addShort 45 = .ok (.iconst 0, 1) := by decide +kernel
theorem dX1_addShort_46 : decode cX1_addShort 46 = .ok (.iastore, 1) := by decide +kernel
theorem dX1_addShort_47 : decode cX1_addShort 47 = .ok (.aload_n 2, 1) := by decide +kernel
theorem dX1_addShort_48 : decode cX1_addShort 48 = .ok (.invokevirtual 44, 3) := by decide +kernel
theorem dX1_addShort_51 : decode cX1_addShort 51 = .ok (.pop, 1) := by decide +kernel
theorem dX1_addShort_52 : decode cX1_addShort 52 = .ok (.iload_n 3, 1) := by decide +kernel
theorem dX1_addShort_53 : decode cX1_addShort 53 = .ok (.ireturn, 1) := by decide +kernel
theorem dX1_cellsOfShort_0 : decode cX1_cellsOfShort 0 = .ok (.aload_n 0, 1) := by decide +kernel
theorem dX1_cellsOfShort_1 : decode cX1_cellsOfShort 1 = .ok (.getfield 27, 3) := by decide +kernel
theorem dX1_cellsOfShort_4 : decode cX1_cellsOfShort 4 = .ok (.iload_n 1, 1) := by decide +kernel
theorem dX1_cellsOfShort_5 : decode cX1_cellsOfShort 5 = .ok (.iaload, 1) := by decide +kernel
theorem dX1_cellsOfShort_6 : decode cX1_cellsOfShort 6 = .ok (.ifCond .ne 7, 3) := by decide +kernel
theorem dX1_cellsOfShort_9 : decode cX1_cellsOfShort 9 = .ok (.iconst 1, 1) := by decide +kernel
theorem dX1_cellsOfShort_10 : decode cX1_cellsOfShort 10 = .ok (.goto 4, 3) := by decide +kernel
theorem dX1_cellsOfShort_13 : decode cX1_cellsOfShort 13 = .ok (.iconst 2, 1) := by decide +kernel
theorem dX1_cellsOfShort_14 : decode cX1_cellsOfShort 14 = .ok (.ireturn, 1) := by decide +kernel
theorem dX1_pointsOfShort_0 : decode cX1_pointsOfShort 0 = .ok (.aload_n 0, 1) := by decide +kernel
theorem dX1_pointsOfShort_1 : decode cX1_pointsOfShort 1 = .ok (.getfield 24, 3) := by decide +kernel
theorem dX1_pointsOfShort_4 : decode cX1_pointsOfShort 4 = .ok (.iload_n 1, 1) := by decide +kernel
theorem dX1_pointsOfShort_5 : decode cX1_pointsOfShort 5 = .ok (.iaload, 1) := by decide +kernel
theorem dX1_pointsOfShort_6 : decode cX1_pointsOfShort 6 = .ok (.invokestatic 48, 3) := by decide +kernel
theorem dX1_pointsOfShort_9 : decode cX1_pointsOfShort 9 = .ok (.aload_n 0, 1) := by decide +kernel
theorem dX1_pointsOfShort_10 : decode cX1_pointsOfShort 10 = .ok (.getfield 27, 3) := by decide +kernel
theorem dX1_pointsOfShort_13 : decode cX1_pointsOfShort 13 = .ok (.iload_n 1, 1) := by decide +kernel
theorem dX1_pointsOfShort_14 : decode cX1_pointsOfShort 14 = .ok (.iaload, 1) := by decide +kernel
theorem dX1_pointsOfShort_15 : decode cX1_pointsOfShort 15 = .ok (.invokestatic 48, 3) := by decide +kernel
theorem dX1_pointsOfShort_18 : decode cX1_pointsOfShort 18 = .ok (.iadd, 1) := by decide +kernel
theorem dX1_pointsOfShort_19 : decode cX1_pointsOfShort 19 = .ok (.ireturn, 1) := by decide +kernel
theorem dX1_behindShort_0 : decode cX1_behindShort 0 = .ok (.aload_n 2, 1) := by decide +kernel
theorem dX1_behindShort_1 : decode cX1_behindShort 1 = .ok (.iload_n 3, 1) := by decide +kernel
theorem dX1_behindShort_2 : decode cX1_behindShort 2 = .ok (.invokevirtual 34, 3) := by decide +kernel
theorem dX1_behindShort_5 : decode cX1_behindShort 5 = .ok (.aload_n 0, 1) := by decide +kernel
theorem dX1_behindShort_6 : decode cX1_behindShort 6 = .ok (.getfield 24, 3) := by decide +kernel
theorem dX1_behindShort_9 : decode cX1_behindShort 9 = .ok (.iload_n 1, 1) := by decide +kernel
theorem dX1_behindShort_10 : decode cX1_behindShort 10 = .ok (.iaload, 1) := by decide +kernel
theorem dX1_behindShort_11 : decode cX1_behindShort 11 = .ok (.if_icmp .eq 6, 3) := by decide +kernel
theorem dX1_behindShort_14 : decode cX1_behindShort 14 = .ok (.bipush (-6), 2) := by decide +kernel
theorem dX1_behindShort_16 : decode cX1_behindShort 16 = .ok (.ireturn, 1) := by decide +kernel
theorem dX1_behindShort_17 : decode cX1_behindShort 17 = .ok (.aload_n 0, 1) := by decide +kernel
theorem dX1_behindShort_18 : decode cX1_behindShort 18 = .ok (.getfield 27, 3) := by decide +kernel
theorem dX1_behindShort_21 : decode cX1_behindShort 21 = .ok (.iload_n 1, 1) := by decide +kernel
theorem dX1_behindShort_22 : decode cX1_behindShort 22 = .ok (.iaload, 1) := by decide +kernel
theorem dX1_behindShort_23 : decode cX1_behindShort 23 = .ok (.ifCond .ne 7, 3) := by decide +kernel
theorem dX1_behindShort_26 : decode cX1_behindShort 26 = .ok (.iload_n 3, 1) := by decide +kernel
theorem dX1_behindShort_27 : decode cX1_behindShort 27 = .ok (.iconst 1, 1) := by decide +kernel
theorem dX1_behindShort_28 : decode cX1_behindShort 28 = .ok (.iadd, 1) := by decide +kernel
theorem dX1_behindShort_29 : decode cX1_behindShort 29 = .ok (.ireturn, 1) := by decide +kernel
theorem dX1_behindShort_30 : decode cX1_behindShort 30 = .ok (.aload_n 2, 1) := by decide +kernel
theorem dX1_behindShort_31 : decode cX1_behindShort 31 = .ok (.iload_n 3, 1) := by decide +kernel
theorem dX1_behindShort_32 : decode cX1_behindShort 32 = .ok (.iconst 1, 1) := by decide +kernel
theorem dX1_behindShort_33 : decode cX1_behindShort 33 = .ok (.iadd, 1) := by decide +kernel
theorem dX1_behindShort_34 : decode cX1_behindShort 34 = .ok (.invokevirtual 34, 3) := by decide +kernel
theorem dX1_behindShort_37 : decode cX1_behindShort 37 = .ok (.aload_n 0, 1) := by decide +kernel
theorem dX1_behindShort_38 : decode cX1_behindShort 38 = .ok (.getfield 27, 3) := by decide +kernel
theorem dX1_behindShort_41 : decode cX1_behindShort 41 = .ok (.iload_n 1, 1) := by decide +kernel
theorem dX1_behindShort_42 : decode cX1_behindShort 42 = .ok (.iaload, 1) := by decide +kernel
theorem dX1_behindShort_43 : decode cX1_behindShort 43 = .ok (.if_icmp .ne 9, 3) := by decide +kernel
theorem dX1_behindShort_46 : decode cX1_behindShort 46 = .ok (.iload_n 3, 1) := by decide +kernel
theorem dX1_behindShort_47 : decode cX1_behindShort 47 = .ok (.iconst 2, 1) := by decide +kernel
theorem dX1_behindShort_48 : decode cX1_behindShort 48 = .ok (.iadd, 1) := by decide +kernel
theorem dX1_behindShort_49 : decode cX1_behindShort 49 = .ok (.goto 5, 3) := by decide +kernel
theorem dX1_behindShort_52 : decode cX1_behindShort 52 = .ok (.bipush (-6), 2) := by decide +kernel
theorem dX1_behindShort_54 : decode cX1_behindShort 54 = .ok (.ireturn, 1) := by decide +kernel
theorem dX1_letterCount_0 : decode cX1_letterCount 0 = .ok (.iconst 0, 1) := by decide +kernel
theorem dX1_letterCount_1 : decode cX1_letterCount 1 = .ok (.istore_n 1, 1) := by decide +kernel
theorem dX1_letterCount_2 : decode cX1_letterCount 2 = .ok (.iconst 0, 1) := by decide +kernel
theorem dX1_letterCount_3 : decode cX1_letterCount 3 = .ok (.istore_n 2, 1) := by decide +kernel
theorem dX1_letterCount_4 : decode cX1_letterCount 4 = .ok (.iload_n 2, 1) := by decide +kernel
theorem dX1_letterCount_5 : decode cX1_letterCount 5 = .ok (.bipush 26, 2) := by decide +kernel
theorem dX1_letterCount_7 : decode cX1_letterCount 7 = .ok (.if_icmp .ge 26, 3) := by decide +kernel
theorem dX1_letterCount_10 : decode cX1_letterCount 10 = .ok (.iload_n 1, 1) := by decide +kernel
theorem dX1_letterCount_11 : decode cX1_letterCount 11 = .ok (.aload_n 0, 1) := by decide +kernel
theorem dX1_letterCount_12 : decode cX1_letterCount 12 = .ok (.getfield 9, 3) := by decide +kernel
theorem dX1_letterCount_15 : decode cX1_letterCount 15 = .ok (.iload_n 2, 1) := by decide +kernel
theorem dX1_letterCount_16 : decode cX1_letterCount 16 = .ok (.iaload, 1) := by decide +kernel
theorem dX1_letterCount_17 : decode cX1_letterCount 17 = .ok (.ifCond .ne 7, 3) := by decide +kernel
theorem dX1_letterCount_20 : decode cX1_letterCount 20 = .ok (.iconst 0, 1) := by decide +kernel
theorem dX1_letterCount_21 : decode cX1_letterCount 21 = .ok (.goto 4, 3) := by decide +kernel
theorem dX1_letterCount_24 : decode cX1_letterCount 24 = .ok (.iconst 1, 1) := by decide +kernel
theorem dX1_letterCount_25 : decode cX1_letterCount 25 = .ok (.iadd, 1) := by decide +kernel
theorem dX1_letterCount_26 : decode cX1_letterCount 26 = .ok (.istore_n 1, 1) := by decide +kernel
theorem dX1_letterCount_27 : decode cX1_letterCount 27 = .ok (.iinc 2 1, 3) := by decide +kernel
theorem dX1_letterCount_30 : decode cX1_letterCount 30 = .ok (.goto (-26), 3) := by decide +kernel
theorem dX1_letterCount_33 : decode cX1_letterCount 33 = .ok (.iload_n 1, 1) := by decide +kernel
theorem dX1_letterCount_34 : decode cX1_letterCount 34 = .ok (.ireturn, 1) := by decide +kernel
theorem dX1_likeOf_0 : decode cX1_likeOf 0 = .ok (.lconst 0, 1) := by decide +kernel
theorem dX1_likeOf_1 : decode cX1_likeOf 1 = .ok (.lstore_n 2, 1) := by decide +kernel
theorem dX1_likeOf_2 : decode cX1_likeOf 2 = .ok (.iconst 0, 1) := by decide +kernel
theorem dX1_likeOf_3 : decode cX1_likeOf 3 = .ok (.istore 4, 2) := by decide +kernel
theorem dX1_likeOf_5 : decode cX1_likeOf 5 = .ok (.iload 4, 2) := by decide +kernel
theorem dX1_likeOf_7 : decode cX1_likeOf 7 = .ok (.bipush 26, 2) := by decide +kernel
theorem dX1_likeOf_9 : decode cX1_likeOf 9 = .ok (.if_icmp .ge 35, 3) := by decide +kernel
theorem dX1_likeOf_12 : decode cX1_likeOf 12 = .ok (.lload_n 2, 1) := by decide +kernel
theorem dX1_likeOf_13 : decode cX1_likeOf 13 = .ok (.aload_n 0, 1) := by decide +kernel
theorem dX1_likeOf_14 : decode cX1_likeOf 14 = .ok (.getfield 9, 3) := by decide +kernel
theorem dX1_likeOf_17 : decode cX1_likeOf 17 = .ok (.iload 4, 2) := by decide +kernel
theorem dX1_likeOf_19 : decode cX1_likeOf 19 = .ok (.iaload, 1) := by decide +kernel
theorem dX1_likeOf_20 : decode cX1_likeOf 20 = .ok (.ifCond .ne 7, 3) := by decide +kernel
theorem dX1_likeOf_23 : decode cX1_likeOf 23 = .ok (.lconst 0, 1) := by decide +kernel
theorem dX1_likeOf_24 : decode cX1_likeOf 24 = .ok (.goto 12, 3) := by decide +kernel
theorem dX1_likeOf_27 : decode cX1_likeOf 27 = .ok (.lconst 1, 1) := by decide +kernel
theorem dX1_likeOf_28 : decode cX1_likeOf 28 = .ok (.aload_n 0, 1) := by decide +kernel
theorem dX1_likeOf_29 : decode cX1_likeOf 29 = .ok (.getfield 9, 3) := by decide +kernel
theorem dX1_likeOf_32 : decode cX1_likeOf 32 = .ok (.iload 4, 2) := by decide +kernel
theorem dX1_likeOf_34 : decode cX1_likeOf 34 = .ok (.iaload, 1) := by decide +kernel
theorem dX1_likeOf_35 : decode cX1_likeOf 35 = .ok (.lshl, 1) := by decide +kernel
theorem dX1_likeOf_36 : decode cX1_likeOf 36 = .ok (.lor, 1) := by decide +kernel
theorem dX1_likeOf_37 : decode cX1_likeOf 37 = .ok (.lstore_n 2, 1) := by decide +kernel
theorem dX1_likeOf_38 : decode cX1_likeOf 38 = .ok (.iinc 4 1, 3) := by decide +kernel
theorem dX1_likeOf_41 : decode cX1_likeOf 41 = .ok (.goto (-36), 3) := by decide +kernel
theorem dX1_likeOf_44 : decode cX1_likeOf 44 = .ok (.iconst 0, 1) := by decide +kernel
theorem dX1_likeOf_45 : decode cX1_likeOf 45 = .ok (.istore 4, 2) := by decide +kernel
theorem dX1_likeOf_47 : decode cX1_likeOf 47 = .ok (.iconst 0, 1) := by decide +kernel
theorem dX1_likeOf_48 : decode cX1_likeOf 48 = .ok (.istore 5, 2) := by decide +kernel
theorem dX1_likeOf_50 : decode cX1_likeOf 50 = .ok (.iload 5, 2) := by decide +kernel
theorem dX1_likeOf_52 : decode cX1_likeOf 52 = .ok (.bipush 6, 2) := by decide +kernel
theorem dX1_likeOf_54 : decode cX1_likeOf 54 = .ok (.if_icmp .ge 25, 3) := by decide +kernel
theorem dX1_likeOf_57 : decode cX1_likeOf 57 = .ok (.iload 4, 2) := by decide +kernel
theorem dX1_likeOf_59 : decode cX1_likeOf 59 = .ok (.lload_n 2, 1) := by decide +kernel
theorem dX1_likeOf_60 : decode cX1_likeOf 60 = .ok (.iload_n 1, 1) := by decide +kernel
theorem dX1_likeOf_61 : decode cX1_likeOf 61 = .ok (.iconst 1, 1) := by decide +kernel
theorem dX1_likeOf_62 : decode cX1_likeOf 62 = .ok (.iload 5, 2) := by decide +kernel
theorem dX1_likeOf_64 : decode cX1_likeOf 64 = .ok (.ishl, 1) := by decide +kernel
theorem dX1_likeOf_65 : decode cX1_likeOf 65 = .ok (.ixor, 1) := by decide +kernel
theorem dX1_likeOf_66 : decode cX1_likeOf 66 = .ok (.lushr, 1) := by decide +kernel
theorem dX1_likeOf_67 : decode cX1_likeOf 67 = .ok (.lconst 1, 1) := by decide +kernel
theorem dX1_likeOf_68 : decode cX1_likeOf 68 = .ok (.land, 1) := by decide +kernel
theorem dX1_likeOf_69 : decode cX1_likeOf 69 = .ok (.l2i, 1) := by decide +kernel
theorem dX1_likeOf_70 : decode cX1_likeOf 70 = .ok (.iadd, 1) := by decide +kernel
theorem dX1_likeOf_71 : decode cX1_likeOf 71 = .ok (.istore 4, 2) := by decide +kernel
theorem dX1_likeOf_73 : decode cX1_likeOf 73 = .ok (.iinc 5 1, 3) := by decide +kernel
theorem dX1_likeOf_76 : decode cX1_likeOf 76 = .ok (.goto (-26), 3) := by decide +kernel
theorem dX1_likeOf_79 : decode cX1_likeOf 79 = .ok (.iload 4, 2) := by decide +kernel
theorem dX1_likeOf_81 : decode cX1_likeOf 81 = .ok (.ireturn, 1) := by decide +kernel
theorem dX1_unlikeLetters_0 : decode cX1_unlikeLetters 0 = .ok (.iconst 0, 1) := by decide +kernel
theorem dX1_unlikeLetters_1 : decode cX1_unlikeLetters 1 = .ok (.istore_n 2, 1) := by decide +kernel
theorem dX1_unlikeLetters_2 : decode cX1_unlikeLetters 2 = .ok (.iconst 0, 1) := by decide +kernel
theorem dX1_unlikeLetters_3 : decode cX1_unlikeLetters 3 = .ok (.istore_n 3, 1) := by decide +kernel
theorem dX1_unlikeLetters_4 : decode cX1_unlikeLetters 4 = .ok (.iload_n 3, 1) := by decide +kernel
theorem dX1_unlikeLetters_5 : decode cX1_unlikeLetters 5 = .ok (.bipush 26, 2) := by decide +kernel
theorem dX1_unlikeLetters_7 : decode cX1_unlikeLetters 7 = .ok (.if_icmp .ge 40, 3) := by decide +kernel
theorem dX1_unlikeLetters_10 : decode cX1_unlikeLetters 10 = .ok (.aload_n 0, 1) := by decide +kernel
theorem dX1_unlikeLetters_11 : decode cX1_unlikeLetters 11 = .ok (.getfield 9, 3) := by decide +kernel
theorem dX1_unlikeLetters_14 : decode cX1_unlikeLetters 14 = .ok (.iload_n 3, 1) := by decide +kernel
theorem dX1_unlikeLetters_15 : decode cX1_unlikeLetters 15 = .ok (.iaload, 1) := by decide +kernel
theorem dX1_unlikeLetters_16 : decode cX1_unlikeLetters 16 = .ok (.ifCond .eq 25, 3) := by decide +kernel
theorem dX1_unlikeLetters_19 : decode cX1_unlikeLetters 19 = .ok (.aload_n 1, 1) := by decide +kernel
theorem dX1_unlikeLetters_20 : decode cX1_unlikeLetters 20 = .ok (.ifnull 18, 3) := by decide +kernel
theorem dX1_unlikeLetters_23 : decode cX1_unlikeLetters 23 = .ok (.aload_n 1, 1) := by decide +kernel
theorem dX1_unlikeLetters_24 : decode cX1_unlikeLetters 24 = .ok (.getfield 9, 3) := by decide +kernel
theorem dX1_unlikeLetters_27 : decode cX1_unlikeLetters 27 = .ok (.iload_n 3, 1) := by decide +kernel
theorem dX1_unlikeLetters_28 : decode cX1_unlikeLetters 28 = .ok (.iaload, 1) := by decide +kernel
theorem dX1_unlikeLetters_29 : decode cX1_unlikeLetters 29 = .ok (.aload_n 0, 1) := by decide +kernel
theorem dX1_unlikeLetters_30 : decode cX1_unlikeLetters 30 = .ok (.getfield 9, 3) := by decide +kernel
theorem dX1_unlikeLetters_33 : decode cX1_unlikeLetters 33 = .ok (.iload_n 3, 1) := by decide +kernel
theorem dX1_unlikeLetters_34 : decode cX1_unlikeLetters 34 = .ok (.iaload, 1) := by decide +kernel
theorem dX1_unlikeLetters_35 : decode cX1_unlikeLetters 35 = .ok (.if_icmp .eq 6, 3) := by decide +kernel
theorem dX1_unlikeLetters_38 : decode cX1_unlikeLetters 38 = .ok (.iinc 2 1, 3) := by decide +kernel
theorem dX1_unlikeLetters_41 : decode cX1_unlikeLetters 41 = .ok (.iinc 3 1, 3) := by decide +kernel
theorem dX1_unlikeLetters_44 : decode cX1_unlikeLetters 44 = .ok (.goto (-40), 3) := by decide +kernel
theorem dX1_unlikeLetters_47 : decode cX1_unlikeLetters 47 = .ok (.iload_n 2, 1) := by decide +kernel
theorem dX1_unlikeLetters_48 : decode cX1_unlikeLetters 48 = .ok (.ireturn, 1) := by decide +kernel
theorem dX2_init_0 : decode cX2_init 0 = .ok (.aload_n 0, 1) := by decide +kernel
theorem dX2_init_1 : decode cX2_init 1 = .ok (.invokespecial 3, 3) := by decide +kernel
theorem dX2_init_4 : decode cX2_init 4 = .ok (.aload_n 0, 1) := by decide +kernel
theorem dX2_init_5 : decode cX2_init 5 = .ok (.bipush 13, 2) := by decide +kernel
theorem dX2_init_7 : decode cX2_init 7 = .ok (.newarray .int, 2) := by decide +kernel
theorem dX2_init_9 : decode cX2_init 9 = .ok (.putfield 9, 3) := by decide +kernel
theorem dX2_init_12 : decode cX2_init 12 = .ok (.aload_n 0, 1) := by decide +kernel
theorem dX2_init_13 : decode cX2_init 13 = .ok (.new 15, 3) := by decide +kernel
theorem dX2_init_16 : decode cX2_init 16 = .ok (.dup, 1) := by decide +kernel
theorem dX2_init_17 : decode cX2_init 17 = .ok (.bipush 48, 2) := by decide +kernel
theorem dX2_init_19 : decode cX2_init 19 = .ok (.invokespecial 17, 3) := by decide +kernel
theorem dX2_init_22 : decode cX2_init 22 = .ok (.putfield 20, 3) := by decide +kernel
theorem dX2_init_25 : decode cX2_init 25 = .ok (.aload_n 0, 1) := by decide +kernel
theorem dX2_init_26 : decode cX2_init 26 = .ok (.bipush 64, 2) := by decide +kernel
theorem dX2_init_28 : decode cX2_init 28 = .ok (.newarray .int, 2) := by decide +kernel
theorem dX2_init_30 : decode cX2_init 30 = .ok (.putfield 24, 3) := by decide +kernel
theorem dX2_init_33 : decode cX2_init 33 = .ok (.aload_n 0, 1) := by decide +kernel
theorem dX2_init_34 : decode cX2_init 34 = .ok (.bipush 64, 2) := by decide +kernel
theorem dX2_init_36 : decode cX2_init 36 = .ok (.newarray .int, 2) := by decide +kernel
theorem dX2_init_38 : decode cX2_init 38 = .ok (.putfield 27, 3) := by decide +kernel
theorem dX2_init_41 : decode cX2_init 41 = .ok (.aload_n 0, 1) := by decide +kernel
theorem dX2_init_42 : decode cX2_init 42 = .ok (.new 15, 3) := by decide +kernel
theorem dX2_init_45 : decode cX2_init 45 = .ok (.dup, 1) := by decide +kernel
theorem dX2_init_46 : decode cX2_init 46 = .ok (.bipush 14, 2) := by decide +kernel
theorem dX2_init_48 : decode cX2_init 48 = .ok (.invokespecial 17, 3) := by decide +kernel
theorem dX2_init_51 : decode cX2_init 51 = .ok (.putfield 30, 3) := by decide +kernel
theorem dX2_init_54 : decode cX2_init 54 = .ok (.return_, 1) := by decide +kernel
theorem dX2_countWays_0 : decode cX2_countWays 0 = .ok (.aload_n 2, 1) := by decide +kernel
theorem dX2_countWays_1 : decode cX2_countWays 1 = .ok (.getfield 33, 3) := by decide +kernel
theorem dX2_countWays_4 : decode cX2_countWays 4 = .ok (.bipush 12, 2) := by decide +kernel
theorem dX2_countWays_6 : decode cX2_countWays 6 = .ok (.invokestatic 37, 3) := by decide +kernel
theorem dX2_countWays_9 : decode cX2_countWays 9 = .ok (.istore_n 3, 1) := by decide +kernel
theorem dX2_countWays_10 : decode cX2_countWays 10 = .ok (.aload_n 0, 1) := by decide +kernel
theorem dX2_countWays_11 : decode cX2_countWays 11 = .ok (.getfield 9, 3) := by decide +kernel
theorem dX2_countWays_14 : decode cX2_countWays 14 = .ok (.iload_n 3, 1) := by decide +kernel
theorem dX2_countWays_15 : decode cX2_countWays 15 = .ok (.iconst 1, 1) := by decide +kernel
theorem dX2_countWays_16 : decode cX2_countWays 16 = .ok (.iastore, 1) := by decide +kernel
theorem dX2_countWays_17 : decode cX2_countWays 17 = .ok (.iload_n 3, 1) := by decide +kernel
theorem dX2_countWays_18 : decode cX2_countWays 18 = .ok (.iconst 1, 1) := by decide +kernel
theorem dX2_countWays_19 : decode cX2_countWays 19 = .ok (.isub, 1) := by decide +kernel
theorem dX2_countWays_20 : decode cX2_countWays 20 = .ok (.istore 4, 2) := by decide +kernel
theorem dX2_countWays_22 : decode cX2_countWays 22 = .ok (.iload 4, 2) := by decide +kernel
theorem dX2_countWays_24 : decode cX2_countWays 24 = .ok (.ifCond .lt 133, 3) := by decide +kernel
theorem dX2_countWays_27 : decode cX2_countWays 27 = .ok (.iconst 0, 1) := by decide +kernel
theorem dX2_countWays_28 : decode cX2_countWays 28 = .ok (.istore 5, 2) := by decide +kernel
theorem dX2_countWays_30 : decode cX2_countWays 30 = .ok (.iconst 0, 1) := by decide +kernel
theorem dX2_countWays_31 : decode cX2_countWays 31 = .ok (.istore 6, 2) := by decide +kernel
theorem dX2_countWays_33 : decode cX2_countWays 33 = .ok (.iload 6, 2) := by decide +kernel
theorem dX2_countWays_35 : decode cX2_countWays 35 = .ok (.aload_n 1, 1) := by decide +kernel
theorem dX2_countWays_36 : decode cX2_countWays 36 = .ok (.getfield 43, 3) := by decide +kernel
theorem dX2_countWays_39 : decode cX2_countWays 39 = .ok (.getfield 49, 3) := by decide +kernel
theorem dX2_countWays_42 : decode cX2_countWays 42 = .ok (.if_icmp .ge 41, 3) := by decide +kernel
theorem dX2_countWays_45 : decode cX2_countWays 45 = .ok (.aload_n 1, 1) := by decide +kernel
theorem dX2_countWays_46 : decode cX2_countWays 46 = .ok (.iload 6, 2) := by decide +kernel
theorem dX2_countWays_48 : decode cX2_countWays 48 = .ok (.aload_n 2, 1) := by decide +kernel
theorem dX2_countWays_49 : decode cX2_countWays 49 = .ok (.iload 4, 2) := by decide +kernel
theorem dX2_countWays_51 : decode cX2_countWays 51 = .ok (.invokevirtual 54, 3) := by decide +kernel
theorem dX2_countWays_54 : decode cX2_countWays 54 = .ok (.istore 7, 2) := by decide +kernel
theorem dX2_countWays_56 : decode cX2_countWays 56 = .ok (.iload 5, 2) := by decide +kernel
theorem dX2_countWays_58 : decode cX2_countWays 58 = .ok (.iload 7, 2) := by decide +kernel
theorem dX2_countWays_60 : decode cX2_countWays 60 = .ok (.ifCond .ge 7, 3) := by decide +kernel
theorem dX2_countWays_63 : decode cX2_countWays 63 = .ok (.iconst 0, 1) := by decide +kernel
theorem dX2_countWays_64 : decode cX2_countWays 64 = .ok (.goto 10, 3) := by decide +kernel
theorem dX2_countWays_67 : decode cX2_countWays 67 = .ok (.aload_n 0, 1) := by decide +kernel
theorem dX2_countWays_68 : decode cX2_countWays 68 = .ok (.getfield 9, 3) := by decide +kernel
theorem dX2_countWays_71 : decode cX2_countWays 71 = .ok (.iload 7, 2) := by decide +kernel
theorem dX2_countWays_73 : decode cX2_countWays 73 = .ok (.iaload, 1) := by decide +kernel
theorem dX2_countWays_74 : decode cX2_countWays 74 = .ok (.iadd, 1) := by decide +kernel
theorem dX2_countWays_75 : decode cX2_countWays 75 = .ok (.istore 5, 2) := by decide +kernel
theorem dX2_countWays_77 : decode cX2_countWays 77 = .ok (.iinc 6 1, 3) := by decide +kernel
theorem dX2_countWays_80 : decode cX2_countWays 80 = .ok (.goto (-47), 3) := by decide +kernel
theorem dX2_countWays_83 : decode cX2_countWays 83 = .ok (.aload_n 2, 1) := by decide +kernel
theorem dX2_countWays_84 : decode cX2_countWays 84 = .ok (.iload 4, 2) := by decide +kernel
theorem dX2_countWays_86 : decode cX2_countWays 86 = .ok (.invokevirtual 58, 3) := by decide +kernel
theorem dX2_countWays_89 : decode cX2_countWays 89 = .ok (.istore 6, 2) := by decide +kernel
theorem dX2_countWays_91 : decode cX2_countWays 91 = .ok (.iconst 0, 1) := by decide +kernel
theorem dX2_countWays_92 : decode cX2_countWays 92 = .ok (.istore 7, 2) := by decide +kernel
theorem dX2_countWays_94 : decode cX2_countWays 94 = .ok (.iload 7, 2) := by decide +kernel
theorem dX2_countWays_96 : decode cX2_countWays 96 = .ok (.bipush 26, 2) := by decide +kernel
theorem dX2_countWays_98 : decode cX2_countWays 98 = .ok (.if_icmp .ge 39, 3) := by decide +kernel
theorem dX2_countWays_101 : decode cX2_countWays 101 = .ok (.iload 5, 2) := by decide +kernel
theorem dX2_countWays_103 : decode cX2_countWays 103 = .ok (.aload_n 1, 1) := by decide +kernel
theorem dX2_countWays_104 : decode cX2_countWays 104 = .ok (.getfield 62, 3) := by decide +kernel
theorem dX2_countWays_107 : decode cX2_countWays 107 = .ok (.iload 7, 2) := by decide +kernel
theorem dX2_countWays_109 : decode cX2_countWays 109 = .ok (.iaload, 1) := by decide +kernel
theorem dX2_countWays_110 : decode cX2_countWays 110 = .ok (.iload 6, 2) := by decide +kernel
theorem dX2_countWays_112 : decode cX2_countWays 112 = .ok (.if_icmp .ne 15, 3) := by decide +kernel
theorem dX2_countWays_115 : decode cX2_countWays 115 = .ok (.aload_n 0, 1) := by decide +kernel
theorem dX2_countWays_116 : decode cX2_countWays 116 = .ok (.getfield 9, 3) := by decide +kernel
theorem dX2_countWays_119 : decode cX2_countWays 119 = .ok (.iload 4, 2) := by decide +kernel
theorem dX2_countWays_121 : decode cX2_countWays 121 = .ok (.iconst 1, 1) := by decide +kernel
theorem dX2_countWays_122 : decode cX2_countWays 122 = .ok (.iadd, 1) := by decide +kernel
theorem dX2_countWays_123 : decode cX2_countWays 123 = .ok (.iaload, 1) := by decide +kernel
theorem dX2_countWays_124 : decode cX2_countWays 124 = .ok (.goto 4, 3) := by decide +kernel
theorem dX2_countWays_127 : decode cX2_countWays 127 = .ok (.iconst 0, 1) := by decide +kernel
theorem dX2_countWays_128 : decode cX2_countWays 128 = .ok (.iadd, 1) := by decide +kernel
theorem dX2_countWays_129 : decode cX2_countWays 129 = .ok (.istore 5, 2) := by decide +kernel
theorem dX2_countWays_131 : decode cX2_countWays 131 = .ok (.iinc 7 1, 3) := by decide +kernel
theorem dX2_countWays_134 : decode cX2_countWays 134 = .ok (.goto (-40), 3) := by decide +kernel
theorem dX2_countWays_137 : decode cX2_countWays 137 = .ok (.aload_n 0, 1) := by decide +kernel
theorem dX2_countWays_138 : decode cX2_countWays 138 = .ok (.getfield 9, 3) := by decide +kernel
theorem dX2_countWays_141 : decode cX2_countWays 141 = .ok (.iload 4, 2) := by decide +kernel
theorem dX2_countWays_143 : decode cX2_countWays 143 = .ok (.iload 5, 2) := by decide +kernel
theorem dX2_countWays_145 : decode cX2_countWays 145 = .ok (.ldc 65, 2) := by decide +kernel
theorem dX2_countWays_147 : decode cX2_countWays 147 = .ok (.invokestatic 37, 3) := by decide +kernel
theorem dX2_countWays_150 : decode cX2_countWays 150 = .ok (.iastore, 1) := by decide +kernel
theorem dX2_countWays_151 : decode cX2_countWays 151 = .ok (.iinc 4 (-1), 3) := by decide +kernel
theorem dX2_countWays_154 : decode cX2_countWays 154 = .ok (.goto (-132), 3) := by decide +kernel
theorem dX2_countWays_157 : decode cX2_countWays 157 = .ok (.aload_n 0, 1) := by decide +kernel
theorem dX2_countWays_158 : decode cX2_countWays 158 = .ok (.getfield 9, 3) := by decide +kernel
theorem dX2_countWays_161 : decode cX2_countWays 161 = .ok (.iconst 0, 1) := by decide +kernel
theorem dX2_countWays_162 : decode cX2_countWays 162 = .ok (.iaload, 1) := by decide +kernel
theorem dX2_countWays_163 : decode cX2_countWays 163 = .ok (.ireturn, 1) := by decide +kernel
theorem dX2_takeFirstWay_0 : decode cX2_takeFirstWay 0 = .ok (.aload_n 0, 1) := by decide +kernel
theorem dX2_takeFirstWay_1 : decode cX2_takeFirstWay 1 = .ok (.getfield 20, 3) := by decide +kernel
theorem dX2_takeFirstWay_4 : decode cX2_takeFirstWay 4 = .ok (.invokevirtual 66, 3) := by decide +kernel
theorem dX2_takeFirstWay_7 : decode cX2_takeFirstWay 7 = .ok (.pop, 1) := by decide +kernel
theorem dX2_takeFirstWay_8 : decode cX2_takeFirstWay 8 = .ok (.aload_n 2, 1) := by decide +kernel
theorem dX2_takeFirstWay_9 : decode cX2_takeFirstWay 9 = .ok (.getfield 33, 3) := by decide +kernel
theorem dX2_takeFirstWay_12 : decode cX2_takeFirstWay 12 = .ok (.bipush 12, 2) := by decide +kernel
theorem dX2_takeFirstWay_14 : decode cX2_takeFirstWay 14 = .ok (.invokestatic 37, 3) := by decide +kernel
theorem dX2_takeFirstWay_17 : decode cX2_takeFirstWay 17 = .ok (.istore_n 3, 1) := by decide +kernel
theorem dX2_takeFirstWay_18 : decode cX2_takeFirstWay 18 = .ok (.iconst 0, 1) := by decide +kernel
theorem dX2_takeFirstWay_19 : decode cX2_takeFirstWay 19 = .ok (.istore 4, 2) := by decide +kernel
theorem dX2_takeFirstWay_21 : decode cX2_takeFirstWay 21 = .ok (.iconst 0, 1) := by decide +kernel
theorem dX2_takeFirstWay_22 : decode cX2_takeFirstWay 22 = .ok (.istore 5, 2) := by decide +kernel
theorem dX2_takeFirstWay_24 : decode cX2_takeFirstWay 24 = .ok (.iload 5, 2) := by decide +kernel
theorem dX2_takeFirstWay_26 : decode cX2_takeFirstWay 26 = .ok (.bipush 12, 2) := by decide +kernel
theorem dX2_takeFirstWay_28 : decode cX2_takeFirstWay 28 = .ok (.if_icmp .ge 122, 3) := by decide +kernel
theorem dX2_takeFirstWay_31 : decode cX2_takeFirstWay 31 = .ok (.iload 4, 2) := by decide +kernel
theorem dX2_takeFirstWay_33 : decode cX2_takeFirstWay 33 = .ok (.iload_n 3, 1) := by decide +kernel
theorem dX2_takeFirstWay_34 : decode cX2_takeFirstWay 34 = .ok (.if_icmp .ge 116, 3) := by decide +kernel
theorem dX2_takeFirstWay_37 : decode cX2_takeFirstWay 37 = .ok (.aload_n 0, 1) := by decide +kernel
theorem dX2_takeFirstWay_38 : decode cX2_takeFirstWay 38 = .ok (.getfield 9, 3) := by decide +kernel
theorem dX2_takeFirstWay_41 : decode cX2_takeFirstWay 41 = .ok (.iload 4, 2) := by decide +kernel
theorem dX2_takeFirstWay_43 : decode cX2_takeFirstWay 43 = .ok (.iaload, 1) := by decide +kernel
theorem dX2_takeFirstWay_44 : decode cX2_takeFirstWay 44 = .ok (.ifCond .le 106, 3) := by decide +kernel
theorem dX2_takeFirstWay_47 : decode cX2_takeFirstWay 47 = .ok (.aload_n 0, 1) := by decide +kernel
theorem dX2_takeFirstWay_48 : decode cX2_takeFirstWay 48 = .ok (.aload_n 1, 1) := by decide +kernel
theorem dX2_takeFirstWay_49 : decode cX2_takeFirstWay 49 = .ok (.aload_n 2, 1) := by decide +kernel
theorem dX2_takeFirstWay_50 : decode cX2_takeFirstWay 50 = .ok (.iload 4, 2) := by decide +kernel
theorem dX2_takeFirstWay_52 : decode cX2_takeFirstWay 52 = .ok (.invokevirtual 70, 3) := by decide +kernel
theorem dX2_takeFirstWay_55 : decode cX2_takeFirstWay 55 = .ok (.istore 6, 2) := by decide +kernel
theorem dX2_takeFirstWay_57 : decode cX2_takeFirstWay 57 = .ok (.iload 6, 2) := by decide +kernel
theorem dX2_takeFirstWay_59 : decode cX2_takeFirstWay 59 = .ok (.ifCond .ge 27, 3) := by decide +kernel
theorem dX2_takeFirstWay_62 : decode cX2_takeFirstWay 62 = .ok (.aload_n 0, 1) := by decide +kernel
theorem dX2_takeFirstWay_63 : decode cX2_takeFirstWay 63 = .ok (.getfield 20, 3) := by decide +kernel
theorem dX2_takeFirstWay_66 : decode cX2_takeFirstWay 66 = .ok (.aload_n 1, 1) := by decide +kernel
theorem dX2_takeFirstWay_67 : decode cX2_takeFirstWay 67 = .ok (.aload_n 2, 1) := by decide +kernel
theorem dX2_takeFirstWay_68 : decode cX2_takeFirstWay 68 = .ok (.iload 4, 2) := by decide +kernel
theorem dX2_takeFirstWay_70 : decode cX2_takeFirstWay 70 = .ok (.invokevirtual 58, 3) := by decide +kernel
theorem dX2_takeFirstWay_73 : decode cX2_takeFirstWay 73 = .ok (.invokestatic 74, 3) := by decide +kernel
theorem dX2_takeFirstWay_76 : decode cX2_takeFirstWay 76 = .ok (.invokevirtual 78, 3) := by decide +kernel
theorem dX2_takeFirstWay_79 : decode cX2_takeFirstWay 79 = .ok (.pop, 1) := by decide +kernel
theorem dX2_takeFirstWay_80 : decode cX2_takeFirstWay 80 = .ok (.iinc 4 1, 3) := by decide +kernel
theorem dX2_takeFirstWay_83 : decode cX2_takeFirstWay 83 = .ok (.goto 61, 3) := by decide +kernel
theorem dX2_takeFirstWay_86 : decode cX2_takeFirstWay 86 = .ok (.iconst 0, 1) := by decide +kernel
theorem dX2_takeFirstWay_87 : decode cX2_takeFirstWay 87 = .ok (.istore 7, 2) := by decide +kernel
theorem dX2_takeFirstWay_89 : decode cX2_takeFirstWay 89 = .ok (.iload 7, 2) := by decide +kernel
theorem dX2_takeFirstWay_91 : decode cX2_takeFirstWay 91 = .ok (.aload_n 1, 1) := by decide +kernel
theorem dX2_takeFirstWay_92 : decode cX2_takeFirstWay 92 = .ok (.getfield 43, 3) := by decide +kernel
theorem dX2_takeFirstWay_95 : decode cX2_takeFirstWay 95 = .ok (.getfield 81, 3) := by decide +kernel
theorem dX2_takeFirstWay_98 : decode cX2_takeFirstWay 98 = .ok (.iload 6, 2) := by decide +kernel
theorem dX2_takeFirstWay_100 : decode cX2_takeFirstWay 100 = .ok (.iaload, 1) := by decide +kernel
theorem dX2_takeFirstWay_101 : decode cX2_takeFirstWay 101 = .ok (.if_icmp .ge 32, 3) := by decide +kernel
theorem dX2_takeFirstWay_104 : decode cX2_takeFirstWay 104 = .ok (.aload_n 0, 1) := by decide +kernel
theorem dX2_takeFirstWay_105 : decode cX2_takeFirstWay 105 = .ok (.getfield 20, 3) := by decide +kernel
theorem dX2_takeFirstWay_108 : decode cX2_takeFirstWay 108 = .ok (.aload_n 1, 1) := by decide +kernel
theorem dX2_takeFirstWay_109 : decode cX2_takeFirstWay 109 = .ok (.getfield 43, 3) := by decide +kernel
theorem dX2_takeFirstWay_112 : decode cX2_takeFirstWay 112 = .ok (.getfield 84, 3) := by decide +kernel
theorem dX2_takeFirstWay_115 : decode cX2_takeFirstWay 115 = .ok (.iload 6, 2) := by decide +kernel
theorem dX2_takeFirstWay_117 : decode cX2_takeFirstWay 117 = .ok (.iconst 4, 1) := by decide +kernel
theorem dX2_takeFirstWay_118 : decode cX2_takeFirstWay 118 = .ok (.imul, 1) := by decide +kernel
theorem dX2_takeFirstWay_119 : decode cX2_takeFirstWay 119 = .ok (.iload 7, 2) := by decide +kernel
theorem dX2_takeFirstWay_121 : decode cX2_takeFirstWay 121 = .ok (.iadd, 1) := by decide +kernel
theorem dX2_takeFirstWay_122 : decode cX2_takeFirstWay 122 = .ok (.iaload, 1) := by decide +kernel
theorem dX2_takeFirstWay_123 : decode cX2_takeFirstWay 123 = .ok (.invokevirtual 78, 3) := by decide +kernel
theorem dX2_takeFirstWay_126 : decode cX2_takeFirstWay 126 = .ok (.pop, 1) := by decide +kernel
theorem dX2_takeFirstWay_127 : decode cX2_takeFirstWay 127 = .ok (.iinc 7 1, 3) := by decide +kernel
theorem dX2_takeFirstWay_130 : decode cX2_takeFirstWay 130 = .ok (.goto (-41), 3) := by decide +kernel
theorem dX2_takeFirstWay_133 : decode cX2_takeFirstWay 133 = .ok (.iload 4, 2) := by decide +kernel
theorem dX2_takeFirstWay_135 : decode cX2_takeFirstWay 135 = .ok (.aload_n 1, 1) := by decide +kernel
theorem dX2_takeFirstWay_136 : decode cX2_takeFirstWay 136 = .ok (.iload 6, 2) := by decide +kernel
theorem dX2_takeFirstWay_138 : decode cX2_takeFirstWay 138 = .ok (.invokevirtual 87, 3) := by decide +kernel
theorem dX2_takeFirstWay_141 : decode cX2_takeFirstWay 141 = .ok (.iadd, 1) := by decide +kernel
theorem dX2_takeFirstWay_142 : decode cX2_takeFirstWay 142 = .ok (.istore 4, 2) := by decide +kernel
theorem dX2_takeFirstWay_144 : decode cX2_takeFirstWay 144 = .ok (.iinc 5 1, 3) := by decide +kernel
theorem dX2_takeFirstWay_147 : decode cX2_takeFirstWay 147 = .ok (.goto (-123), 3) := by decide +kernel
theorem dX2_takeFirstWay_150 : decode cX2_takeFirstWay 150 = .ok (.return_, 1) := by decide +kernel
theorem dX2_firstShort_0 : decode cX2_firstShort 0 = .ok (.iconst 0, 1) := by decide +kernel
theorem dX2_firstShort_1 : decode cX2_firstShort 1 = .ok (.istore 4, 2) := by decide +kernel
theorem dX2_firstShort_3 : decode cX2_firstShort 3 = .ok (.iload 4, 2) := by decide +kernel
theorem dX2_firstShort_5 : decode cX2_firstShort 5 = .ok (.aload_n 1, 1) := by decide +kernel
theorem dX2_firstShort_6 : decode cX2_firstShort 6 = .ok (.getfield 43, 3) := by decide +kernel
theorem dX2_firstShort_9 : decode cX2_firstShort 9 = .ok (.getfield 49, 3) := by decide +kernel
theorem dX2_firstShort_12 : decode cX2_firstShort 12 = .ok (.if_icmp .ge 37, 3) := by decide +kernel
theorem dX2_firstShort_15 : decode cX2_firstShort 15 = .ok (.aload_n 1, 1) := by decide +kernel
theorem dX2_firstShort_16 : decode cX2_firstShort 16 = .ok (.iload 4, 2) := by decide +kernel
theorem dX2_firstShort_18 : decode cX2_firstShort 18 = .ok (.aload_n 2, 1) := by decide +kernel
theorem dX2_firstShort_19 : decode cX2_firstShort 19 = .ok (.iload_n 3, 1) := by decide +kernel
theorem dX2_firstShort_20 : decode cX2_firstShort 20 = .ok (.invokevirtual 54, 3) := by decide +kernel
theorem dX2_firstShort_23 : decode cX2_firstShort 23 = .ok (.istore 5, 2) := by decide +kernel
theorem dX2_firstShort_25 : decode cX2_firstShort 25 = .ok (.iload 5, 2) := by decide +kernel
theorem dX2_firstShort_27 : decode cX2_firstShort 27 = .ok (.ifCond .lt 16, 3) := by decide +kernel
theorem dX2_firstShort_30 : decode cX2_firstShort 30 = .ok (.aload_n 0, 1) := by decide +kernel
theorem dX2_firstShort_31 : decode cX2_firstShort 31 = .ok (.getfield 9, 3) := by decide +kernel
theorem dX2_firstShort_34 : decode cX2_firstShort 34 = .ok (.iload 5, 2) := by decide +kernel
theorem dX2_firstShort_36 : decode cX2_firstShort 36 = .ok (.iaload, 1) := by decide +kernel
theorem dX2_firstShort_37 : decode cX2_firstShort 37 = .ok (.ifCond .le 6, 3) := by decide +kernel
theorem dX2_firstShort_40 : decode cX2_firstShort 40 = .ok (.iload 4, 2) := by decide +kernel
theorem dX2_firstShort_42 : decode cX2_firstShort 42 = .ok (.ireturn, 1) := by decide +kernel
theorem dX2_firstShort_43 : decode cX2_firstShort 43 = .ok (.iinc 4 1, 3) := by decide +kernel
theorem dX2_firstShort_46 : decode cX2_firstShort 46 = .ok (.goto (-43), 3) := by decide +kernel
theorem dX2_firstShort_49 : decode cX2_firstShort 49 = .ok (.bipush (-6), 2) := by decide +kernel
theorem dX2_firstShort_51 : decode cX2_firstShort 51 = .ok (.ireturn, 1) := by decide +kernel
theorem dX2_firstLetter_0 : decode cX2_firstLetter 0 = .ok (.iconst 0, 1) := by decide +kernel
theorem dX2_firstLetter_1 : decode cX2_firstLetter 1 = .ok (.istore_n 2, 1) := by decide +kernel
theorem dX2_firstLetter_2 : decode cX2_firstLetter 2 = .ok (.iload_n 2, 1) := by decide +kernel
theorem dX2_firstLetter_3 : decode cX2_firstLetter 3 = .ok (.bipush 26, 2) := by decide +kernel
theorem dX2_firstLetter_5 : decode cX2_firstLetter 5 = .ok (.if_icmp .ge 21, 3) := by decide +kernel
theorem dX2_firstLetter_8 : decode cX2_firstLetter 8 = .ok (.aload_n 0, 1) := by decide +kernel
theorem dX2_firstLetter_9 : decode cX2_firstLetter 9 = .ok (.getfield 62, 3) := by decide +kernel
theorem dX2_firstLetter_12 : decode cX2_firstLetter 12 = .ok (.iload_n 2, 1) := by decide +kernel
theorem dX2_firstLetter_13 : decode cX2_firstLetter 13 = .ok (.iaload, 1) := by decide +kernel
theorem dX2_firstLetter_14 : decode cX2_firstLetter 14 = .ok (.iload_n 1, 1) := by decide +kernel
theorem dX2_firstLetter_15 : decode cX2_firstLetter 15 = .ok (.if_icmp .ne 5, 3) := by decide +kernel
theorem dX2_firstLetter_18 : decode cX2_firstLetter 18 = .ok (.iload_n 2, 1) := by decide +kernel
theorem dX2_firstLetter_19 : decode cX2_firstLetter 19 = .ok (.ireturn, 1) := by decide +kernel
theorem dX2_firstLetter_20 : decode cX2_firstLetter 20 = .ok (.iinc 2 1, 3) := by decide +kernel
theorem dX2_firstLetter_23 : decode cX2_firstLetter 23 = .ok (.goto (-21), 3) := by decide +kernel
theorem dX2_firstLetter_26 : decode cX2_firstLetter 26 = .ok (.bipush (-6), 2) := by decide +kernel
theorem dX2_firstLetter_28 : decode cX2_firstLetter 28 = .ok (.ireturn, 1) := by decide +kernel
theorem dX2_findTwoWays_0 : decode cX2_findTwoWays 0 = .ok (.aload_n 0, 1) := by decide +kernel
theorem dX2_findTwoWays_1 : decode cX2_findTwoWays 1 = .ok (.getfield 30, 3) := by decide +kernel
theorem dX2_findTwoWays_4 : decode cX2_findTwoWays 4 = .ok (.invokevirtual 66, 3) := by decide +kernel
theorem dX2_findTwoWays_7 : decode cX2_findTwoWays 7 = .ok (.pop, 1) := by decide +kernel
theorem dX2_findTwoWays_8 : decode cX2_findTwoWays 8 = .ok (.aload_n 0, 1) := by decide +kernel
theorem dX2_findTwoWays_9 : decode cX2_findTwoWays 9 = .ok (.aload_n 1, 1) := by decide +kernel
theorem dX2_findTwoWays_10 : decode cX2_findTwoWays 10 = .ok (.invokevirtual 90, 3) := by decide +kernel
theorem dX2_findTwoWays_13 : decode cX2_findTwoWays 13 = .ok (.iconst 1, 1) := by decide +kernel
theorem dX2_findTwoWays_14 : decode cX2_findTwoWays 14 = .ok (.istore_n 2, 1) := by decide +kernel
theorem dX2_findTwoWays_15 : decode cX2_findTwoWays 15 = .ok (.iload_n 2, 1) := by decide +kernel
theorem dX2_findTwoWays_16 : decode cX2_findTwoWays 16 = .ok (.bipush 64, 2) := by decide +kernel
theorem dX2_findTwoWays_18 : decode cX2_findTwoWays 18 = .ok (.if_icmp .ge 29, 3) := by decide +kernel
theorem dX2_findTwoWays_21 : decode cX2_findTwoWays 21 = .ok (.aload_n 0, 1) := by decide +kernel
theorem dX2_findTwoWays_22 : decode cX2_findTwoWays 22 = .ok (.getfield 24, 3) := by decide +kernel
theorem dX2_findTwoWays_25 : decode cX2_findTwoWays 25 = .ok (.iload_n 2, 1) := by decide +kernel
theorem dX2_findTwoWays_26 : decode cX2_findTwoWays 26 = .ok (.iaload, 1) := by decide +kernel
theorem dX2_findTwoWays_27 : decode cX2_findTwoWays 27 = .ok (.iconst 1, 1) := by decide +kernel
theorem dX2_findTwoWays_28 : decode cX2_findTwoWays 28 = .ok (.if_icmp .le 13, 3) := by decide +kernel
theorem dX2_findTwoWays_31 : decode cX2_findTwoWays 31 = .ok (.aload_n 0, 1) := by decide +kernel
theorem dX2_findTwoWays_32 : decode cX2_findTwoWays 32 = .ok (.getfield 30, 3) := by decide +kernel
theorem dX2_findTwoWays_35 : decode cX2_findTwoWays 35 = .ok (.iload_n 2, 1) := by decide +kernel
theorem dX2_findTwoWays_36 : decode cX2_findTwoWays 36 = .ok (.invokevirtual 78, 3) := by decide +kernel
theorem dX2_findTwoWays_39 : decode cX2_findTwoWays 39 = .ok (.pop, 1) := by decide +kernel
theorem dX2_findTwoWays_40 : decode cX2_findTwoWays 40 = .ok (.return_, 1) := by decide +kernel
theorem dX2_findTwoWays_41 : decode cX2_findTwoWays 41 = .ok (.iinc 2 1, 3) := by decide +kernel
theorem dX2_findTwoWays_44 : decode cX2_findTwoWays 44 = .ok (.goto (-29), 3) := by decide +kernel
theorem dX2_findTwoWays_47 : decode cX2_findTwoWays 47 = .ok (.aload_n 0, 1) := by decide +kernel
theorem dX2_findTwoWays_48 : decode cX2_findTwoWays 48 = .ok (.aload_n 1, 1) := by decide +kernel
theorem dX2_findTwoWays_49 : decode cX2_findTwoWays 49 = .ok (.invokevirtual 94, 3) := by decide +kernel
theorem dX2_findTwoWays_52 : decode cX2_findTwoWays 52 = .ok (.aload_n 0, 1) := by decide +kernel
theorem dX2_findTwoWays_53 : decode cX2_findTwoWays 53 = .ok (.aload_n 1, 1) := by decide +kernel
theorem dX2_findTwoWays_54 : decode cX2_findTwoWays 54 = .ok (.invokevirtual 97, 3) := by decide +kernel
theorem dX2_findTwoWays_57 : decode cX2_findTwoWays 57 = .ok (.aload_n 1, 1) := by decide +kernel
theorem dX2_findTwoWays_58 : decode cX2_findTwoWays 58 = .ok (.invokestatic 100, 3) := by decide +kernel
theorem dX2_findTwoWays_61 : decode cX2_findTwoWays 61 = .ok (.istore_n 2, 1) := by decide +kernel
theorem dX2_findTwoWays_62 : decode cX2_findTwoWays 62 = .ok (.aload_n 0, 1) := by decide +kernel
theorem dX2_findTwoWays_63 : decode cX2_findTwoWays 63 = .ok (.getfield 30, 3) := by decide +kernel
theorem dX2_findTwoWays_66 : decode cX2_findTwoWays 66 = .ok (.getfield 33, 3) := by decide +kernel
theorem dX2_findTwoWays_69 : decode cX2_findTwoWays 69 = .ok (.iconst 2, 1) := by decide +kernel
theorem dX2_findTwoWays_70 : decode cX2_findTwoWays 70 = .ok (.if_icmp .ne 27, 3) := by decide +kernel
theorem dX2_findTwoWays_73 : decode cX2_findTwoWays 73 = .ok (.iload_n 2, 1) := by decide +kernel
theorem dX2_findTwoWays_74 : decode cX2_findTwoWays 74 = .ok (.aload_n 0, 1) := by decide +kernel
theorem dX2_findTwoWays_75 : decode cX2_findTwoWays 75 = .ok (.getfield 30, 3) := by decide +kernel
theorem dX2_findTwoWays_78 : decode cX2_findTwoWays 78 = .ok (.iconst 0, 1) := by decide +kernel
theorem dX2_findTwoWays_79 : decode cX2_findTwoWays 79 = .ok (.invokevirtual 58, 3) := by decide +kernel
theorem dX2_findTwoWays_82 : decode cX2_findTwoWays 82 = .ok (.bipush 64, 2) := by decide +kernel
theorem dX2_findTwoWays_84 : decode cX2_findTwoWays 84 = .ok (.imul, 1) := by decide +kernel
theorem dX2_findTwoWays_85 : decode cX2_findTwoWays 85 = .ok (.aload_n 0, 1) := by decide +kernel
theorem dX2_findTwoWays_86 : decode cX2_findTwoWays 86 = .ok (.getfield 30, 3) := by decide +kernel
theorem dX2_findTwoWays_89 : decode cX2_findTwoWays 89 = .ok (.iconst 1, 1) := by decide +kernel
theorem dX2_findTwoWays_90 : decode cX2_findTwoWays 90 = .ok (.invokevirtual 58, 3) := by decide +kernel
theorem dX2_findTwoWays_93 : decode cX2_findTwoWays 93 = .ok (.iadd, 1) := by decide +kernel
theorem dX2_findTwoWays_94 : decode cX2_findTwoWays 94 = .ok (.if_icmp .ge 7, 3) := by decide +kernel
theorem dX2_findTwoWays_97 : decode cX2_findTwoWays 97 = .ok (.iconst 1, 1) := by decide +kernel
theorem dX2_findTwoWays_98 : decode cX2_findTwoWays 98 = .ok (.goto 4, 3) := by decide +kernel
theorem dX2_findTwoWays_101 : decode cX2_findTwoWays 101 = .ok (.iconst 0, 1) := by decide +kernel
theorem dX2_findTwoWays_102 : decode cX2_findTwoWays 102 = .ok (.istore_n 3, 1) := by decide +kernel
theorem dX2_findTwoWays_103 : decode cX2_findTwoWays 103 = .ok (.iload_n 2, 1) := by decide +kernel
theorem dX2_findTwoWays_104 : decode cX2_findTwoWays 104 = .ok (.sipush 4096, 3) := by decide +kernel
theorem dX2_findTwoWays_107 : decode cX2_findTwoWays 107 = .ok (.if_icmp .ge 39, 3) := by decide +kernel
theorem dX2_findTwoWays_110 : decode cX2_findTwoWays 110 = .ok (.iload_n 3, 1) := by decide +kernel
theorem dX2_findTwoWays_111 : decode cX2_findTwoWays 111 = .ok (.ifCond .eq 35, 3) := by decide +kernel
theorem dX2_findTwoWays_114 : decode cX2_findTwoWays 114 = .ok (.aload_n 0, 1) := by decide +kernel
theorem dX2_findTwoWays_115 : decode cX2_findTwoWays 115 = .ok (.getfield 30, 3) := by decide +kernel
theorem dX2_findTwoWays_118 : decode cX2_findTwoWays 118 = .ok (.invokevirtual 66, 3) := by decide +kernel
theorem dX2_findTwoWays_121 : decode cX2_findTwoWays 121 = .ok (.pop, 1) := by decide +kernel
theorem dX2_findTwoWays_122 : decode cX2_findTwoWays 122 = .ok (.aload_n 0, 1) := by decide +kernel
theorem dX2_findTwoWays_123 : decode cX2_findTwoWays 123 = .ok (.getfield 30, 3) := by decide +kernel
theorem dX2_findTwoWays_126 : decode cX2_findTwoWays 126 = .ok (.iload_n 2, 1) := by decide +kernel
theorem dX2_findTwoWays_127 : decode cX2_findTwoWays 127 = .ok (.bipush 64, 2) := by decide +kernel
theorem dX2_findTwoWays_129 : decode cX2_findTwoWays 129 = .ok (.idiv, 1) := by decide +kernel
theorem dX2_findTwoWays_130 : decode cX2_findTwoWays 130 = .ok (.invokevirtual 78, 3) := by decide +kernel
theorem dX2_findTwoWays_133 : decode cX2_findTwoWays 133 = .ok (.pop, 1) := by decide +kernel
theorem dX2_findTwoWays_134 : decode cX2_findTwoWays 134 = .ok (.aload_n 0, 1) := by decide +kernel
theorem dX2_findTwoWays_135 : decode cX2_findTwoWays 135 = .ok (.getfield 30, 3) := by decide +kernel
theorem dX2_findTwoWays_138 : decode cX2_findTwoWays 138 = .ok (.iload_n 2, 1) := by decide +kernel
theorem dX2_findTwoWays_139 : decode cX2_findTwoWays 139 = .ok (.bipush 64, 2) := by decide +kernel
theorem dX2_findTwoWays_141 : decode cX2_findTwoWays 141 = .ok (.irem, 1) := by decide +kernel
theorem dX2_findTwoWays_142 : decode cX2_findTwoWays 142 = .ok (.invokevirtual 78, 3) := by decide +kernel
theorem dX2_findTwoWays_145 : decode cX2_findTwoWays 145 = .ok (.pop, 1) := by decide +kernel
theorem dX2_findTwoWays_146 : decode cX2_findTwoWays 146 = .ok (.return_, 1) := by decide +kernel
theorem dX2_countSingles_0 : decode cX2_countSingles 0 = .ok (.aload_n 0, 1) := by decide +kernel
theorem dX2_countSingles_1 : decode cX2_countSingles 1 = .ok (.getfield 24, 3) := by decide +kernel
theorem dX2_countSingles_4 : decode cX2_countSingles 4 = .ok (.iconst 0, 1) := by decide +kernel
theorem dX2_countSingles_5 : decode cX2_countSingles 5 = .ok (.invokestatic 104, 3) := by decide +kernel
theorem dX2_countSingles_8 : decode cX2_countSingles 8 = .ok (.iconst 0, 1) := by decide +kernel
theorem dX2_countSingles_9 : decode cX2_countSingles 9 = .ok (.istore_n 2, 1) := by decide +kernel
theorem dX2_countSingles_10 : decode cX2_countSingles 10 = .ok (.iload_n 2, 1) := by decide +kernel
theorem dX2_countSingles_11 : decode cX2_countSingles 11 = .ok (.bipush 26, 2) := by decide +kernel
theorem dX2_countSingles_13 : decode cX2_countSingles 13 = .ok (.if_icmp .ge 24, 3) := by decide +kernel
theorem dX2_countSingles_16 : decode cX2_countSingles 16 = .ok (.aload_n 0, 1) := by decide +kernel
theorem dX2_countSingles_17 : decode cX2_countSingles 17 = .ok (.getfield 24, 3) := by decide +kernel
theorem dX2_countSingles_20 : decode cX2_countSingles 20 = .ok (.aload_n 1, 1) := by decide +kernel
theorem dX2_countSingles_21 : decode cX2_countSingles 21 = .ok (.getfield 62, 3) := by decide +kernel
theorem dX2_countSingles_24 : decode cX2_countSingles 24 = .ok (.iload_n 2, 1) := by decide +kernel
theorem dX2_countSingles_25 : decode cX2_countSingles 25 = .ok (.iaload, 1) := by decide +kernel
theorem dX2_countSingles_26 : decode cX2_countSingles 26 = .ok (.dup2, 1) := by decide +kernel
theorem dX2_countSingles_27 : decode cX2_countSingles 27 = .ok (.iaload, 1) := by decide +kernel
theorem dX2_countSingles_28 : decode cX2_countSingles 28 = .ok (.iconst 1, 1) := by decide +kernel
theorem dX2_countSingles_29 : decode cX2_countSingles 29 = .ok (.iadd, 1) := by decide +kernel
theorem dX2_countSingles_30 : decode cX2_countSingles 30 = .ok (.iastore, 1) := by decide +kernel
theorem dX2_countSingles_31 : decode cX2_countSingles 31 = .ok (.iinc 2 1, 3) := by decide +kernel
theorem dX2_countSingles_34 : decode cX2_countSingles 34 = .ok (.goto (-24), 3) := by decide +kernel
theorem dX2_countSingles_37 : decode cX2_countSingles 37 = .ok (.aload_n 0, 1) := by decide +kernel
theorem dX2_countSingles_38 : decode cX2_countSingles 38 = .ok (.getfield 24, 3) := by decide +kernel
theorem dX2_countSingles_41 : decode cX2_countSingles 41 = .ok (.iconst 0, 1) := by decide +kernel
theorem dX2_countSingles_42 : decode cX2_countSingles 42 = .ok (.iconst 0, 1) := by decide +kernel
theorem dX2_countSingles_43 : decode cX2_countSingles 43 = .ok (.iastore, 1) := by decide +kernel
theorem dX2_countSingles_44 : decode cX2_countSingles 44 = .ok (.iconst 0, 1) := by decide +kernel
theorem dX2_countSingles_45 : decode cX2_countSingles 45 = .ok (.istore_n 2, 1) := by decide +kernel
theorem dX2_countSingles_46 : decode cX2_countSingles 46 = .ok (.iload_n 2, 1) := by decide +kernel
theorem dX2_countSingles_47 : decode cX2_countSingles 47 = .ok (.aload_n 1, 1) := by decide +kernel
theorem dX2_countSingles_48 : decode cX2_countSingles 48 = .ok (.getfield 43, 3) := by decide +kernel
theorem dX2_countSingles_51 : decode cX2_countSingles 51 = .ok (.getfield 49, 3) := by decide +kernel
theorem dX2_countSingles_54 : decode cX2_countSingles 54 = .ok (.if_icmp .ge 33, 3) := by decide +kernel
theorem dX2_countSingles_57 : decode cX2_countSingles 57 = .ok (.aload_n 1, 1) := by decide +kernel
theorem dX2_countSingles_58 : decode cX2_countSingles 58 = .ok (.getfield 110, 3) := by decide +kernel
theorem dX2_countSingles_61 : decode cX2_countSingles 61 = .ok (.iload_n 2, 1) := by decide +kernel
theorem dX2_countSingles_62 : decode cX2_countSingles 62 = .ok (.iaload, 1) := by decide +kernel
theorem dX2_countSingles_63 : decode cX2_countSingles 63 = .ok (.ifCond .ne 18, 3) := by decide +kernel
theorem dX2_countSingles_66 : decode cX2_countSingles 66 = .ok (.aload_n 0, 1) := by decide +kernel
theorem dX2_countSingles_67 : decode cX2_countSingles 67 = .ok (.getfield 24, 3) := by decide +kernel
theorem dX2_countSingles_70 : decode cX2_countSingles 70 = .ok (.aload_n 1, 1) := by decide +kernel
theorem dX2_countSingles_71 : decode cX2_countSingles 71 = .ok (.getfield 113, 3) := by decide +kernel
theorem dX2_countSingles_74 : decode cX2_countSingles 74 = .ok (.iload_n 2, 1) := by decide +kernel
theorem dX2_countSingles_75 : decode cX2_countSingles 75 = .ok (.iaload, 1) := by decide +kernel
theorem dX2_countSingles_76 : decode cX2_countSingles 76 = .ok (.dup2, 1) := by decide +kernel
theorem dX2_countSingles_77 : decode cX2_countSingles 77 = .ok (.iaload, 1) := by decide +kernel
theorem dX2_countSingles_78 : decode cX2_countSingles 78 = .ok (.iconst 1, 1) := by decide +kernel
theorem dX2_countSingles_79 : decode cX2_countSingles 79 = .ok (.iadd, 1) := by decide +kernel
theorem dX2_countSingles_80 : decode cX2_countSingles 80 = .ok (.iastore, 1) := by decide +kernel
theorem dX2_countSingles_81 : decode cX2_countSingles 81 = .ok (.iinc 2 1, 3) := by decide +kernel
theorem dX2_countSingles_84 : decode cX2_countSingles 84 = .ok (.goto (-38), 3) := by decide +kernel
theorem dX2_countSingles_87 : decode cX2_countSingles 87 = .ok (.return_, 1) := by decide +kernel
theorem dX2_measureFar_0 : decode cX2_measureFar 0 = .ok (.iconst 0, 1) := by decide +kernel
theorem dX2_measureFar_1 : decode cX2_measureFar 1 = .ok (.istore_n 2, 1) := by decide +kernel
theorem dX2_measureFar_2 : decode cX2_measureFar 2 = .ok (.iload_n 2, 1) := by decide +kernel
theorem dX2_measureFar_3 : decode cX2_measureFar 3 = .ok (.bipush 64, 2) := by decide +kernel
theorem dX2_measureFar_5 : decode cX2_measureFar 5 = .ok (.if_icmp .ge 31, 3) := by decide +kernel
theorem dX2_measureFar_8 : decode cX2_measureFar 8 = .ok (.aload_n 0, 1) := by decide +kernel
theorem dX2_measureFar_9 : decode cX2_measureFar 9 = .ok (.getfield 27, 3) := by decide +kernel
theorem dX2_measureFar_12 : decode cX2_measureFar 12 = .ok (.iload_n 2, 1) := by decide +kernel
theorem dX2_measureFar_13 : decode cX2_measureFar 13 = .ok (.aload_n 0, 1) := by decide +kernel
theorem dX2_measureFar_14 : decode cX2_measureFar 14 = .ok (.getfield 24, 3) := by decide +kernel
theorem dX2_measureFar_17 : decode cX2_measureFar 17 = .ok (.iload_n 2, 1) := by decide +kernel
theorem dX2_measureFar_18 : decode cX2_measureFar 18 = .ok (.iaload, 1) := by decide +kernel
theorem dX2_measureFar_19 : decode cX2_measureFar 19 = .ok (.ifCond .le 7, 3) := by decide +kernel
theorem dX2_measureFar_22 : decode cX2_measureFar 22 = .ok (.iconst 0, 1) := by decide +kernel
theorem dX2_measureFar_23 : decode cX2_measureFar 23 = .ok (.goto 6, 3) := by decide +kernel
theorem dX2_measureFar_26 : decode cX2_measureFar 26 = .ok (.sipush 1000, 3) := by decide +kernel
theorem dX2_measureFar_29 : decode cX2_measureFar 29 = .ok (.iastore, 1) := by decide +kernel
theorem dX2_measureFar_30 : decode cX2_measureFar 30 = .ok (.iinc 2 1, 3) := by decide +kernel
theorem dX2_measureFar_33 : decode cX2_measureFar 33 = .ok (.goto (-31), 3) := by decide +kernel
theorem dX2_measureFar_36 : decode cX2_measureFar 36 = .ok (.iconst 0, 1) := by decide +kernel
theorem dX2_measureFar_37 : decode cX2_measureFar 37 = .ok (.istore_n 2, 1) := by decide +kernel
theorem dX2_measureFar_38 : decode cX2_measureFar 38 = .ok (.iload_n 2, 1) := by decide +kernel
theorem dX2_measureFar_39 : decode cX2_measureFar 39 = .ok (.bipush 12, 2) := by decide +kernel
theorem dX2_measureFar_41 : decode cX2_measureFar 41 = .ok (.if_icmp .ge 75, 3) := by decide +kernel
theorem dX2_measureFar_44 : decode cX2_measureFar 44 = .ok (.iconst 0, 1) := by decide +kernel
theorem dX2_measureFar_45 : decode cX2_measureFar 45 = .ok (.istore_n 3, 1) := by decide +kernel
theorem dX2_measureFar_46 : decode cX2_measureFar 46 = .ok (.iload_n 3, 1) := by decide +kernel
theorem dX2_measureFar_47 : decode cX2_measureFar 47 = .ok (.aload_n 1, 1) := by decide +kernel
theorem dX2_measureFar_48 : decode cX2_measureFar 48 = .ok (.getfield 43, 3) := by decide +kernel
theorem dX2_measureFar_51 : decode cX2_measureFar 51 = .ok (.getfield 49, 3) := by decide +kernel
theorem dX2_measureFar_54 : decode cX2_measureFar 54 = .ok (.if_icmp .ge 56, 3) := by decide +kernel
theorem dX2_measureFar_57 : decode cX2_measureFar 57 = .ok (.aload_n 1, 1) := by decide +kernel
theorem dX2_measureFar_58 : decode cX2_measureFar 58 = .ok (.getfield 110, 3) := by decide +kernel
theorem dX2_measureFar_61 : decode cX2_measureFar 61 = .ok (.iload_n 3, 1) := by decide +kernel
theorem dX2_measureFar_62 : decode cX2_measureFar 62 = .ok (.iaload, 1) := by decide +kernel
theorem dX2_measureFar_63 : decode cX2_measureFar 63 = .ok (.ifCond .eq 41, 3) := by decide +kernel
theorem dX2_measureFar_66 : decode cX2_measureFar 66 = .ok (.aload_n 0, 1) := by decide +kernel
theorem dX2_measureFar_67 : decode cX2_measureFar 67 = .ok (.getfield 27, 3) := by decide +kernel
theorem dX2_measureFar_70 : decode cX2_measureFar 70 = .ok (.aload_n 1, 1) := by decide +kernel
theorem dX2_measureFar_71 : decode cX2_measureFar 71 = .ok (.getfield 113, 3) := by decide +kernel
theorem dX2_measureFar_74 : decode cX2_measureFar 74 = .ok (.iload_n 3, 1) := by decide +kernel
theorem dX2_measureFar_75 : decode cX2_measureFar 75 = .ok (.iaload, 1) := by decide +kernel
theorem dX2_measureFar_76 : decode cX2_measureFar 76 = .ok (.aload_n 0, 1) := by decide +kernel
theorem dX2_measureFar_77 : decode cX2_measureFar 77 = .ok (.getfield 27, 3) := by decide +kernel
theorem dX2_measureFar_80 : decode cX2_measureFar 80 = .ok (.aload_n 1, 1) := by decide +kernel
theorem dX2_measureFar_81 : decode cX2_measureFar 81 = .ok (.getfield 113, 3) := by decide +kernel
theorem dX2_measureFar_84 : decode cX2_measureFar 84 = .ok (.iload_n 3, 1) := by decide +kernel
theorem dX2_measureFar_85 : decode cX2_measureFar 85 = .ok (.iaload, 1) := by decide +kernel
theorem dX2_measureFar_86 : decode cX2_measureFar 86 = .ok (.iaload, 1) := by decide +kernel
theorem dX2_measureFar_87 : decode cX2_measureFar 87 = .ok (.aload_n 0, 1) := by decide +kernel
theorem dX2_measureFar_88 : decode cX2_measureFar 88 = .ok (.getfield 27, 3) := by decide +kernel
theorem dX2_measureFar_91 : decode cX2_measureFar 91 = .ok (.aload_n 1, 1) := by decide +kernel
theorem dX2_measureFar_92 : decode cX2_measureFar 92 = .ok (.getfield 110, 3) := by decide +kernel
theorem dX2_measureFar_95 : decode cX2_measureFar 95 = .ok (.iload_n 3, 1) := by decide +kernel
theorem dX2_measureFar_96 : decode cX2_measureFar 96 = .ok (.iaload, 1) := by decide +kernel
theorem dX2_measureFar_97 : decode cX2_measureFar 97 = .ok (.iaload, 1) := by decide +kernel
theorem dX2_measureFar_98 : decode cX2_measureFar 98 = .ok (.iconst 1, 1) := by decide +kernel
theorem dX2_measureFar_99 : decode cX2_measureFar 99 = .ok (.iadd, 1) := by decide +kernel
theorem dX2_measureFar_100 : decode cX2_measureFar 100 = .ok (.invokestatic 37, 3) := by decide +kernel
theorem dX2_measureFar_103 : decode cX2_measureFar 103 = .ok (.iastore, 1) := by decide +kernel
theorem dX2_measureFar_104 : decode cX2_measureFar 104 = .ok (.iinc 3 1, 3) := by decide +kernel
theorem dX2_measureFar_107 : decode cX2_measureFar 107 = .ok (.goto (-61), 3) := by decide +kernel
theorem dX2_measureFar_110 : decode cX2_measureFar 110 = .ok (.iinc 2 1, 3) := by decide +kernel
theorem dX2_measureFar_113 : decode cX2_measureFar 113 = .ok (.goto (-75), 3) := by decide +kernel
theorem dX2_measureFar_116 : decode cX2_measureFar 116 = .ok (.return_, 1) := by decide +kernel
theorem dX2_layChain_0 : decode cX2_layChain 0 = .ok (.sipush 1000, 3) := by decide +kernel
theorem dX2_layChain_3 : decode cX2_layChain 3 = .ok (.istore_n 2, 1) := by decide +kernel
theorem dX2_layChain_4 : decode cX2_layChain 4 = .ok (.iconst 0, 1) := by decide +kernel
theorem dX2_layChain_5 : decode cX2_layChain 5 = .ok (.istore_n 3, 1) := by decide +kernel
theorem dX2_layChain_6 : decode cX2_layChain 6 = .ok (.iload_n 3, 1) := by decide +kernel
theorem dX2_layChain_7 : decode cX2_layChain 7 = .ok (.aload_n 1, 1) := by decide +kernel
theorem dX2_layChain_8 : decode cX2_layChain 8 = .ok (.getfield 43, 3) := by decide +kernel
theorem dX2_layChain_11 : decode cX2_layChain 11 = .ok (.getfield 49, 3) := by decide +kernel
theorem dX2_layChain_14 : decode cX2_layChain 14 = .ok (.if_icmp .ge 50, 3) := by decide +kernel
theorem dX2_layChain_17 : decode cX2_layChain 17 = .ok (.aload_n 1, 1) := by decide +kernel
theorem dX2_layChain_18 : decode cX2_layChain 18 = .ok (.getfield 110, 3) := by decide +kernel
theorem dX2_layChain_21 : decode cX2_layChain 21 = .ok (.iload_n 3, 1) := by decide +kernel
theorem dX2_layChain_22 : decode cX2_layChain 22 = .ok (.iaload, 1) := by decide +kernel
theorem dX2_layChain_23 : decode cX2_layChain 23 = .ok (.ifCond .eq 35, 3) := by decide +kernel
theorem dX2_layChain_26 : decode cX2_layChain 26 = .ok (.aload_n 0, 1) := by decide +kernel
theorem dX2_layChain_27 : decode cX2_layChain 27 = .ok (.getfield 24, 3) := by decide +kernel
theorem dX2_layChain_30 : decode cX2_layChain 30 = .ok (.aload_n 1, 1) := by decide +kernel
theorem dX2_layChain_31 : decode cX2_layChain 31 = .ok (.getfield 113, 3) := by decide +kernel
theorem dX2_layChain_34 : decode cX2_layChain 34 = .ok (.iload_n 3, 1) := by decide +kernel
theorem dX2_layChain_35 : decode cX2_layChain 35 = .ok (.iaload, 1) := by decide +kernel
theorem dX2_layChain_36 : decode cX2_layChain 36 = .ok (.iaload, 1) := by decide +kernel
theorem dX2_layChain_37 : decode cX2_layChain 37 = .ok (.ifCond .le 21, 3) := by decide +kernel
theorem dX2_layChain_40 : decode cX2_layChain 40 = .ok (.iload_n 2, 1) := by decide +kernel
theorem dX2_layChain_41 : decode cX2_layChain 41 = .ok (.aload_n 0, 1) := by decide +kernel
theorem dX2_layChain_42 : decode cX2_layChain 42 = .ok (.getfield 27, 3) := by decide +kernel
theorem dX2_layChain_45 : decode cX2_layChain 45 = .ok (.aload_n 1, 1) := by decide +kernel
theorem dX2_layChain_46 : decode cX2_layChain 46 = .ok (.getfield 110, 3) := by decide +kernel
theorem dX2_layChain_49 : decode cX2_layChain 49 = .ok (.iload_n 3, 1) := by decide +kernel
theorem dX2_layChain_50 : decode cX2_layChain 50 = .ok (.iaload, 1) := by decide +kernel
theorem dX2_layChain_51 : decode cX2_layChain 51 = .ok (.iaload, 1) := by decide +kernel
theorem dX2_layChain_52 : decode cX2_layChain 52 = .ok (.iconst 1, 1) := by decide +kernel
theorem dX2_layChain_53 : decode cX2_layChain 53 = .ok (.iadd, 1) := by decide +kernel
theorem dX2_layChain_54 : decode cX2_layChain 54 = .ok (.invokestatic 37, 3) := by decide +kernel
theorem dX2_layChain_57 : decode cX2_layChain 57 = .ok (.istore_n 2, 1) := by decide +kernel
theorem dX2_layChain_58 : decode cX2_layChain 58 = .ok (.iinc 3 1, 3) := by decide +kernel
theorem dX2_layChain_61 : decode cX2_layChain 61 = .ok (.goto (-55), 3) := by decide +kernel
theorem dX2_layChain_64 : decode cX2_layChain 64 = .ok (.iload_n 2, 1) := by decide +kernel
theorem dX2_layChain_65 : decode cX2_layChain 65 = .ok (.sipush 1000, 3) := by decide +kernel
theorem dX2_layChain_68 : decode cX2_layChain 68 = .ok (.if_icmp .lt 4, 3) := by decide +kernel
theorem dX2_layChain_71 : decode cX2_layChain 71 = .ok (.return_, 1) := by decide +kernel
theorem dX2_layChain_72 : decode cX2_layChain 72 = .ok (.aload_n 0, 1) := by decide +kernel
theorem dX2_layChain_73 : decode cX2_layChain 73 = .ok (.aload_n 1, 1) := by decide +kernel
theorem dX2_layChain_74 : decode cX2_layChain 74 = .ok (.iload_n 2, 1) := by decide +kernel
theorem dX2_layChain_75 : decode cX2_layChain 75 = .ok (.invokevirtual 116, 3) := by decide +kernel
theorem dX2_layChain_78 : decode cX2_layChain 78 = .ok (.istore_n 3, 1) := by decide +kernel
theorem dX2_layChain_79 : decode cX2_layChain 79 = .ok (.aload_n 0, 1) := by decide +kernel
theorem dX2_layChain_80 : decode cX2_layChain 80 = .ok (.getfield 30, 3) := by decide +kernel
theorem dX2_layChain_83 : decode cX2_layChain 83 = .ok (.iload_n 3, 1) := by decide +kernel
theorem dX2_layChain_84 : decode cX2_layChain 84 = .ok (.invokevirtual 78, 3) := by decide +kernel
theorem dX2_layChain_87 : decode cX2_layChain 87 = .ok (.pop, 1) := by decide +kernel
theorem dX2_layChain_88 : decode cX2_layChain 88 = .ok (.iload_n 2, 1) := by decide +kernel
theorem dX2_layChain_89 : decode cX2_layChain 89 = .ok (.bipush 12, 2) := by decide +kernel
theorem dX2_layChain_91 : decode cX2_layChain 91 = .ok (.invokestatic 37, 3) := by decide +kernel
theorem dX2_layChain_94 : decode cX2_layChain 94 = .ok (.iconst 1, 1) := by decide +kernel
theorem dX2_layChain_95 : decode cX2_layChain 95 = .ok (.isub, 1) := by decide +kernel
theorem dX2_layChain_96 : decode cX2_layChain 96 = .ok (.istore 4, 2) := by decide +kernel
theorem dX2_layChain_98 : decode cX2_layChain 98 = .ok (.iload 4, 2) := by decide +kernel
theorem dX2_layChain_100 : decode cX2_layChain 100 = .ok (.ifCond .lt 27, 3) := by decide +kernel
theorem dX2_layChain_103 : decode cX2_layChain 103 = .ok (.aload_n 0, 1) := by decide +kernel
theorem dX2_layChain_104 : decode cX2_layChain 104 = .ok (.aload_n 1, 1) := by decide +kernel
theorem dX2_layChain_105 : decode cX2_layChain 105 = .ok (.iload_n 3, 1) := by decide +kernel
theorem dX2_layChain_106 : decode cX2_layChain 106 = .ok (.iload 4, 2) := by decide +kernel
theorem dX2_layChain_108 : decode cX2_layChain 108 = .ok (.invokevirtual 119, 3) := by decide +kernel
theorem dX2_layChain_111 : decode cX2_layChain 111 = .ok (.istore_n 3, 1) := by decide +kernel
theorem dX2_layChain_112 : decode cX2_layChain 112 = .ok (.aload_n 0, 1) := by decide +kernel
theorem dX2_layChain_113 : decode cX2_layChain 113 = .ok (.getfield 30, 3) := by decide +kernel
theorem dX2_layChain_116 : decode cX2_layChain 116 = .ok (.iload_n 3, 1) := by decide +kernel
theorem dX2_layChain_117 : decode cX2_layChain 117 = .ok (.invokevirtual 78, 3) := by decide +kernel
theorem dX2_layChain_120 : decode cX2_layChain 120 = .ok (.pop, 1) := by decide +kernel
theorem dX2_layChain_121 : decode cX2_layChain 121 = .ok (.iinc 4 (-1), 3) := by decide +kernel
theorem dX2_layChain_124 : decode cX2_layChain 124 = .ok (.goto (-26), 3) := by decide +kernel
theorem dX2_layChain_127 : decode cX2_layChain 127 = .ok (.return_, 1) := by decide +kernel
theorem dX2_leastStart_0 : decode cX2_leastStart 0 = .ok (.bipush 64, 2) := by decide +kernel
theorem dX2_leastStart_2 : decode cX2_leastStart 2 = .ok (.istore_n 3, 1) := by decide +kernel
theorem dX2_leastStart_3 : decode cX2_leastStart 3 = .ok (.iconst 0, 1) := by decide +kernel
theorem dX2_leastStart_4 : decode cX2_leastStart 4 = .ok (.istore 4, 2) := by decide +kernel
theorem dX2_leastStart_6 : decode cX2_leastStart 6 = .ok (.iload 4, 2) := by decide +kernel
theorem dX2_leastStart_8 : decode cX2_leastStart 8 = .ok (.aload_n 1, 1) := by decide +kernel
theorem dX2_leastStart_9 : decode cX2_leastStart 9 = .ok (.getfield 43, 3) := by decide +kernel
theorem dX2_leastStart_12 : decode cX2_leastStart 12 = .ok (.getfield 49, 3) := by decide +kernel
theorem dX2_leastStart_15 : decode cX2_leastStart 15 = .ok (.if_icmp .ge 63, 3) := by decide +kernel
theorem dX2_leastStart_18 : decode cX2_leastStart 18 = .ok (.aload_n 1, 1) := by decide +kernel
theorem dX2_leastStart_19 : decode cX2_leastStart 19 = .ok (.getfield 113, 3) := by decide +kernel
theorem dX2_leastStart_22 : decode cX2_leastStart 22 = .ok (.iload 4, 2) := by decide +kernel
theorem dX2_leastStart_24 : decode cX2_leastStart 24 = .ok (.iaload, 1) := by decide +kernel
theorem dX2_leastStart_25 : decode cX2_leastStart 25 = .ok (.istore 5, 2) := by decide +kernel
theorem dX2_leastStart_27 : decode cX2_leastStart 27 = .ok (.aload_n 1, 1) := by decide +kernel
theorem dX2_leastStart_28 : decode cX2_leastStart 28 = .ok (.getfield 110, 3) := by decide +kernel
theorem dX2_leastStart_31 : decode cX2_leastStart 31 = .ok (.iload 4, 2) := by decide +kernel
theorem dX2_leastStart_33 : decode cX2_leastStart 33 = .ok (.iaload, 1) := by decide +kernel
theorem dX2_leastStart_34 : decode cX2_leastStart 34 = .ok (.ifCond .eq 38, 3) := by decide +kernel
theorem dX2_leastStart_37 : decode cX2_leastStart 37 = .ok (.aload_n 0, 1) := by decide +kernel
theorem dX2_leastStart_38 : decode cX2_leastStart 38 = .ok (.getfield 24, 3) := by decide +kernel
theorem dX2_leastStart_41 : decode cX2_leastStart 41 = .ok (.iload 5, 2) := by decide +kernel
theorem dX2_leastStart_43 : decode cX2_leastStart 43 = .ok (.iaload, 1) := by decide +kernel
theorem dX2_leastStart_44 : decode cX2_leastStart 44 = .ok (.ifCond .le 28, 3) := by decide +kernel
theorem dX2_leastStart_47 : decode cX2_leastStart 47 = .ok (.aload_n 0, 1) := by decide +kernel
theorem dX2_leastStart_48 : decode cX2_leastStart 48 = .ok (.getfield 27, 3) := by decide +kernel
theorem dX2_leastStart_51 : decode cX2_leastStart 51 = .ok (.aload_n 1, 1) := by decide +kernel
theorem dX2_leastStart_52 : decode cX2_leastStart 52 = .ok (.getfield 110, 3) := by decide +kernel
theorem dX2_leastStart_55 : decode cX2_leastStart 55 = .ok (.iload 4, 2) := by decide +kernel
theorem dX2_leastStart_57 : decode cX2_leastStart 57 = .ok (.iaload, 1) := by decide +kernel
theorem dX2_leastStart_58 : decode cX2_leastStart 58 = .ok (.iaload, 1) := by decide +kernel
theorem dX2_leastStart_59 : decode cX2_leastStart 59 = .ok (.iconst 1, 1) := by decide +kernel
theorem dX2_leastStart_60 : decode cX2_leastStart 60 = .ok (.iadd, 1) := by decide +kernel
theorem dX2_leastStart_61 : decode cX2_leastStart 61 = .ok (.iload_n 2, 1) := by decide +kernel
theorem dX2_leastStart_62 : decode cX2_leastStart 62 = .ok (.if_icmp .ne 10, 3) := by decide +kernel
theorem dX2_leastStart_65 : decode cX2_leastStart 65 = .ok (.iload_n 3, 1) := by decide +kernel
theorem dX2_leastStart_66 : decode cX2_leastStart 66 = .ok (.iload 5, 2) := by decide +kernel
theorem dX2_leastStart_68 : decode cX2_leastStart 68 = .ok (.invokestatic 37, 3) := by decide +kernel
theorem dX2_leastStart_71 : decode cX2_leastStart 71 = .ok (.istore_n 3, 1) := by decide +kernel
theorem dX2_leastStart_72 : decode cX2_leastStart 72 = .ok (.iinc 4 1, 3) := by decide +kernel
theorem dX2_leastStart_75 : decode cX2_leastStart 75 = .ok (.goto (-69), 3) := by decide +kernel
theorem dX2_leastStart_78 : decode cX2_leastStart 78 = .ok (.iload_n 3, 1) := by decide +kernel
theorem dX2_leastStart_79 : decode cX2_leastStart 79 = .ok (.ireturn, 1) := by decide +kernel
theorem dX2_leastNext_0 : decode cX2_leastNext 0 = .ok (.bipush 64, 2) := by decide +kernel
theorem dX2_leastNext_2 : decode cX2_leastNext 2 = .ok (.istore 4, 2) := by decide +kernel
theorem dX2_leastNext_4 : decode cX2_leastNext 4 = .ok (.iconst 0, 1) := by decide +kernel
theorem dX2_leastNext_5 : decode cX2_leastNext 5 = .ok (.istore 5, 2) := by decide +kernel
theorem dX2_leastNext_7 : decode cX2_leastNext 7 = .ok (.iload 5, 2) := by decide +kernel
theorem dX2_leastNext_9 : decode cX2_leastNext 9 = .ok (.aload_n 1, 1) := by decide +kernel
theorem dX2_leastNext_10 : decode cX2_leastNext 10 = .ok (.getfield 43, 3) := by decide +kernel
theorem dX2_leastNext_13 : decode cX2_leastNext 13 = .ok (.getfield 49, 3) := by decide +kernel
theorem dX2_leastNext_16 : decode cX2_leastNext 16 = .ok (.if_icmp .ge 54, 3) := by decide +kernel
theorem dX2_leastNext_19 : decode cX2_leastNext 19 = .ok (.aload_n 1, 1) := by decide +kernel
theorem dX2_leastNext_20 : decode cX2_leastNext 20 = .ok (.getfield 110, 3) := by decide +kernel
theorem dX2_leastNext_23 : decode cX2_leastNext 23 = .ok (.iload 5, 2) := by decide +kernel
theorem dX2_leastNext_25 : decode cX2_leastNext 25 = .ok (.iaload, 1) := by decide +kernel
theorem dX2_leastNext_26 : decode cX2_leastNext 26 = .ok (.istore 6, 2) := by decide +kernel
theorem dX2_leastNext_28 : decode cX2_leastNext 28 = .ok (.iload 6, 2) := by decide +kernel
theorem dX2_leastNext_30 : decode cX2_leastNext 30 = .ok (.ifCond .eq 34, 3) := by decide +kernel
theorem dX2_leastNext_33 : decode cX2_leastNext 33 = .ok (.aload_n 1, 1) := by decide +kernel
theorem dX2_leastNext_34 : decode cX2_leastNext 34 = .ok (.getfield 113, 3) := by decide +kernel
theorem dX2_leastNext_37 : decode cX2_leastNext 37 = .ok (.iload 5, 2) := by decide +kernel
theorem dX2_leastNext_39 : decode cX2_leastNext 39 = .ok (.iaload, 1) := by decide +kernel
theorem dX2_leastNext_40 : decode cX2_leastNext 40 = .ok (.iload_n 2, 1) := by decide +kernel
theorem dX2_leastNext_41 : decode cX2_leastNext 41 = .ok (.if_icmp .ne 23, 3) := by decide +kernel
theorem dX2_leastNext_44 : decode cX2_leastNext 44 = .ok (.aload_n 0, 1) := by decide +kernel
theorem dX2_leastNext_45 : decode cX2_leastNext 45 = .ok (.getfield 27, 3) := by decide +kernel
theorem dX2_leastNext_48 : decode cX2_leastNext 48 = .ok (.iload 6, 2) := by decide +kernel
theorem dX2_leastNext_50 : decode cX2_leastNext 50 = .ok (.iaload, 1) := by decide +kernel
theorem dX2_leastNext_51 : decode cX2_leastNext 51 = .ok (.iload_n 3, 1) := by decide +kernel
theorem dX2_leastNext_52 : decode cX2_leastNext 52 = .ok (.if_icmp .ne 12, 3) := by decide +kernel
theorem dX2_leastNext_55 : decode cX2_leastNext 55 = .ok (.iload 4, 2) := by decide +kernel
theorem dX2_leastNext_57 : decode cX2_leastNext 57 = .ok (.iload 6, 2) := by decide +kernel
theorem dX2_leastNext_59 : decode cX2_leastNext 59 = .ok (.invokestatic 37, 3) := by decide +kernel
theorem dX2_leastNext_62 : decode cX2_leastNext 62 = .ok (.istore 4, 2) := by decide +kernel
theorem dX2_leastNext_64 : decode cX2_leastNext 64 = .ok (.iinc 5 1, 3) := by decide +kernel
theorem dX2_leastNext_67 : decode cX2_leastNext 67 = .ok (.goto (-60), 3) := by decide +kernel
theorem dX2_leastNext_70 : decode cX2_leastNext 70 = .ok (.iload 4, 2) := by decide +kernel
theorem dX2_leastNext_72 : decode cX2_leastNext 72 = .ok (.ireturn, 1) := by decide +kernel
theorem dX2_leastSharedPair_0 : decode cX2_leastSharedPair 0 = .ok (.sipush 4096, 3) := by decide +kernel
theorem dX2_leastSharedPair_3 : decode cX2_leastSharedPair 3 = .ok (.istore_n 1, 1) := by decide +kernel
theorem dX2_leastSharedPair_4 : decode cX2_leastSharedPair 4 = .ok (.iconst 0, 1) := by decide +kernel
theorem dX2_leastSharedPair_5 : decode cX2_leastSharedPair 5 = .ok (.istore_n 2, 1) := by decide +kernel
theorem dX2_leastSharedPair_6 : decode cX2_leastSharedPair 6 = .ok (.iload_n 2, 1) := by decide +kernel
theorem dX2_leastSharedPair_7 : decode cX2_leastSharedPair 7 = .ok (.aload_n 0, 1) := by decide +kernel
theorem dX2_leastSharedPair_8 : decode cX2_leastSharedPair 8 = .ok (.getfield 43, 3) := by decide +kernel
theorem dX2_leastSharedPair_11 : decode cX2_leastSharedPair 11 = .ok (.getfield 49, 3) := by decide +kernel
theorem dX2_leastSharedPair_14 : decode cX2_leastSharedPair 14 = .ok (.if_icmp .ge 94, 3) := by decide +kernel
theorem dX2_leastSharedPair_17 : decode cX2_leastSharedPair 17 = .ok (.iconst 0, 1) := by decide +kernel
theorem dX2_leastSharedPair_18 : decode cX2_leastSharedPair 18 = .ok (.istore_n 3, 1) := by decide +kernel
theorem dX2_leastSharedPair_19 : decode cX2_leastSharedPair 19 = .ok (.iload_n 3, 1) := by decide +kernel
theorem dX2_leastSharedPair_20 : decode cX2_leastSharedPair 20 = .ok (.iload_n 2, 1) := by decide +kernel
theorem dX2_leastSharedPair_21 : decode cX2_leastSharedPair 21 = .ok (.if_icmp .ge 81, 3) := by decide +kernel
theorem dX2_leastSharedPair_24 : decode cX2_leastSharedPair 24 = .ok (.aload_n 0, 1) := by decide +kernel
theorem dX2_leastSharedPair_25 : decode cX2_leastSharedPair 25 = .ok (.getfield 113, 3) := by decide +kernel
theorem dX2_leastSharedPair_28 : decode cX2_leastSharedPair 28 = .ok (.iload_n 2, 1) := by decide +kernel
theorem dX2_leastSharedPair_29 : decode cX2_leastSharedPair 29 = .ok (.iaload, 1) := by decide +kernel
theorem dX2_leastSharedPair_30 : decode cX2_leastSharedPair 30 = .ok (.aload_n 0, 1) := by decide +kernel
theorem dX2_leastSharedPair_31 : decode cX2_leastSharedPair 31 = .ok (.getfield 113, 3) := by decide +kernel
theorem dX2_leastSharedPair_34 : decode cX2_leastSharedPair 34 = .ok (.iload_n 3, 1) := by decide +kernel
theorem dX2_leastSharedPair_35 : decode cX2_leastSharedPair 35 = .ok (.iaload, 1) := by decide +kernel
theorem dX2_leastSharedPair_36 : decode cX2_leastSharedPair 36 = .ok (.if_icmp .ne 22, 3) := by decide +kernel
theorem dX2_leastSharedPair_39 : decode cX2_leastSharedPair 39 = .ok (.aload_n 0, 1) := by decide +kernel
theorem dX2_leastSharedPair_40 : decode cX2_leastSharedPair 40 = .ok (.getfield 110, 3) := by decide +kernel
theorem dX2_leastSharedPair_43 : decode cX2_leastSharedPair 43 = .ok (.iload_n 2, 1) := by decide +kernel
theorem dX2_leastSharedPair_44 : decode cX2_leastSharedPair 44 = .ok (.iaload, 1) := by decide +kernel
theorem dX2_leastSharedPair_45 : decode cX2_leastSharedPair 45 = .ok (.aload_n 0, 1) := by decide +kernel
theorem dX2_leastSharedPair_46 : decode cX2_leastSharedPair 46 = .ok (.getfield 110, 3) := by decide +kernel
theorem dX2_leastSharedPair_49 : decode cX2_leastSharedPair 49 = .ok (.iload_n 3, 1) := by decide +kernel
theorem dX2_leastSharedPair_50 : decode cX2_leastSharedPair 50 = .ok (.iaload, 1) := by decide +kernel
theorem dX2_leastSharedPair_51 : decode cX2_leastSharedPair 51 = .ok (.if_icmp .ne 7, 3) := by decide +kernel
theorem dX2_leastSharedPair_54 : decode cX2_leastSharedPair 54 = .ok (.iconst 1, 1) := by decide +kernel
theorem dX2_leastSharedPair_55 : decode cX2_leastSharedPair 55 = .ok (.goto 4, 3) := by decide +kernel
theorem dX2_leastSharedPair_58 : decode cX2_leastSharedPair 58 = .ok (.iconst 0, 1) := by decide +kernel
theorem dX2_leastSharedPair_59 : decode cX2_leastSharedPair 59 = .ok (.istore 4, 2) := by decide +kernel
theorem dX2_leastSharedPair_61 : decode cX2_leastSharedPair 61 = .ok (.iload 4, 2) := by decide +kernel
theorem dX2_leastSharedPair_63 : decode cX2_leastSharedPair 63 = .ok (.ifCond .eq 33, 3) := by decide +kernel
theorem dX2_leastSharedPair_66 : decode cX2_leastSharedPair 66 = .ok (.aload_n 0, 1) := by decide +kernel
theorem dX2_leastSharedPair_67 : decode cX2_leastSharedPair 67 = .ok (.getfield 110, 3) := by decide +kernel
theorem dX2_leastSharedPair_70 : decode cX2_leastSharedPair 70 = .ok (.iload_n 2, 1) := by decide +kernel
theorem dX2_leastSharedPair_71 : decode cX2_leastSharedPair 71 = .ok (.iaload, 1) := by decide +kernel
theorem dX2_leastSharedPair_72 : decode cX2_leastSharedPair 72 = .ok (.ifCond .eq 24, 3) := by decide +kernel
theorem dX2_leastSharedPair_75 : decode cX2_leastSharedPair 75 = .ok (.iload_n 1, 1) := by decide +kernel
theorem dX2_leastSharedPair_76 : decode cX2_leastSharedPair 76 = .ok (.aload_n 0, 1) := by decide +kernel
theorem dX2_leastSharedPair_77 : decode cX2_leastSharedPair 77 = .ok (.getfield 113, 3) := by decide +kernel
theorem dX2_leastSharedPair_80 : decode cX2_leastSharedPair 80 = .ok (.iload_n 2, 1) := by decide +kernel
theorem dX2_leastSharedPair_81 : decode cX2_leastSharedPair 81 = .ok (.iaload, 1) := by decide +kernel
theorem dX2_leastSharedPair_82 : decode cX2_leastSharedPair 82 = .ok (.bipush 64, 2) := by decide +kernel
theorem dX2_leastSharedPair_84 : decode cX2_leastSharedPair 84 = .ok (.imul, 1) := by decide +kernel
theorem dX2_leastSharedPair_85 : decode cX2_leastSharedPair 85 = .ok (.aload_n 0, 1) := by decide +kernel
theorem dX2_leastSharedPair_86 : decode cX2_leastSharedPair 86 = .ok (.getfield 110, 3) := by decide +kernel
theorem dX2_leastSharedPair_89 : decode cX2_leastSharedPair 89 = .ok (.iload_n 2, 1) := by decide +kernel
theorem dX2_leastSharedPair_90 : decode cX2_leastSharedPair 90 = .ok (.iaload, 1) := by decide +kernel
theorem dX2_leastSharedPair_91 : decode cX2_leastSharedPair 91 = .ok (.iadd, 1) := by decide +kernel
theorem dX2_leastSharedPair_92 : decode cX2_leastSharedPair 92 = .ok (.invokestatic 37, 3) := by decide +kernel
theorem dX2_leastSharedPair_95 : decode cX2_leastSharedPair 95 = .ok (.istore_n 1, 1) := by decide +kernel
theorem dX2_leastSharedPair_96 : decode cX2_leastSharedPair 96 = .ok (.iinc 3 1, 3) := by decide +kernel
theorem dX2_leastSharedPair_99 : decode cX2_leastSharedPair 99 = .ok (.goto (-80), 3) := by decide +kernel
theorem dX2_leastSharedPair_102 : decode cX2_leastSharedPair 102 = .ok (.iinc 2 1, 3) := by decide +kernel
theorem dX2_leastSharedPair_105 : decode cX2_leastSharedPair 105 = .ok (.goto (-99), 3) := by decide +kernel
theorem dX2_leastSharedPair_108 : decode cX2_leastSharedPair 108 = .ok (.iload_n 1, 1) := by decide +kernel
theorem dX2_leastSharedPair_109 : decode cX2_leastSharedPair 109 = .ok (.ireturn, 1) := by decide +kernel
theorem dX3_init_0 : decode cX3_init 0 = .ok (.aload_n 0, 1) := by decide +kernel
theorem dX3_init_1 : decode cX3_init 1 = .ok (.invokespecial 3, 3) := by decide +kernel
theorem dX3_init_4 : decode cX3_init 4 = .ok (.aload_n 0, 1) := by decide +kernel
theorem dX3_init_5 : decode cX3_init 5 = .ok (.bipush 8, 2) := by decide +kernel
theorem dX3_init_7 : decode cX3_init 7 = .ok (.newarray .int, 2) := by decide +kernel
theorem dX3_init_9 : decode cX3_init 9 = .ok (.putfield 9, 3) := by decide +kernel
theorem dX3_init_12 : decode cX3_init 12 = .ok (.aload_n 0, 1) := by decide +kernel
theorem dX3_init_13 : decode cX3_init 13 = .ok (.bipush 8, 2) := by decide +kernel
theorem dX3_init_15 : decode cX3_init 15 = .ok (.newarray .int, 2) := by decide +kernel
theorem dX3_init_17 : decode cX3_init 17 = .ok (.putfield 15, 3) := by decide +kernel
theorem dX3_init_20 : decode cX3_init 20 = .ok (.return_, 1) := by decide +kernel
theorem dX3_clear_0 : decode cX3_clear 0 = .ok (.aload_n 0, 1) := by decide +kernel
theorem dX3_clear_1 : decode cX3_clear 1 = .ok (.iconst 0, 1) := by decide +kernel
theorem dX3_clear_2 : decode cX3_clear 2 = .ok (.putfield 18, 3) := by decide +kernel
theorem dX3_clear_5 : decode cX3_clear 5 = .ok (.aload_n 0, 1) := by decide +kernel
theorem dX3_clear_6 : decode cX3_clear 6 = .ok (.bipush (-6), 2) := by decide +kernel
theorem dX3_clear_8 : decode cX3_clear 8 = .ok (.putfield 22, 3) := by decide +kernel
theorem dX3_clear_11 : decode cX3_clear 11 = .ok (.aload_n 0, 1) := by decide +kernel
theorem dX3_clear_12 : decode cX3_clear 12 = .ok (.iconst 0, 1) := by decide +kernel
theorem dX3_clear_13 : decode cX3_clear 13 = .ok (.putfield 25, 3) := by decide +kernel
theorem dX3_clear_16 : decode cX3_clear 16 = .ok (.aload_n 0, 1) := by decide +kernel
theorem dX3_clear_17 : decode cX3_clear 17 = .ok (.iconst 0, 1) := by decide +kernel
theorem dX3_clear_18 : decode cX3_clear 18 = .ok (.putfield 28, 3) := by decide +kernel
theorem dX3_clear_21 : decode cX3_clear 21 = .ok (.return_, 1) := by decide +kernel
theorem dX3_weigh_0 : decode cX3_weigh 0 = .ok (.aload_n 0, 1) := by decide +kernel
theorem dX3_weigh_1 : decode cX3_weigh 1 = .ok (.iload_n 2, 1) := by decide +kernel
theorem dX3_weigh_2 : decode cX3_weigh 2 = .ok (.invokevirtual 31, 3) := by decide +kernel
theorem dX3_weigh_5 : decode cX3_weigh 5 = .ok (.istore_n 3, 1) := by decide +kernel
theorem dX3_weigh_6 : decode cX3_weigh 6 = .ok (.iconst 1, 1) := by decide +kernel
theorem dX3_weigh_7 : decode cX3_weigh 7 = .ok (.istore 4, 2) := by decide +kernel
theorem dX3_weigh_9 : decode cX3_weigh 9 = .ok (.iload 4, 2) := by decide +kernel
theorem dX3_weigh_11 : decode cX3_weigh 11 = .ok (.sipush 256, 3) := by decide +kernel
theorem dX3_weigh_14 : decode cX3_weigh 14 = .ok (.if_icmp .ge 26, 3) := by decide +kernel
theorem dX3_weigh_17 : decode cX3_weigh 17 = .ok (.iload 4, 2) := by decide +kernel
theorem dX3_weigh_19 : decode cX3_weigh 19 = .ok (.iload_n 3, 1) := by decide +kernel
theorem dX3_weigh_20 : decode cX3_weigh 20 = .ok (.iconst (-1), 1) := by decide +kernel
theorem dX3_weigh_21 : decode cX3_weigh 21 = .ok (.ixor, 1) := by decide +kernel
theorem dX3_weigh_22 : decode cX3_weigh 22 = .ok (.iand, 1) := by decide +kernel
theorem dX3_weigh_23 : decode cX3_weigh 23 = .ok (.ifCond .ne 11, 3) := by decide +kernel
theorem dX3_weigh_26 : decode cX3_weigh 26 = .ok (.aload_n 0, 1) := by decide +kernel
theorem dX3_weigh_27 : decode cX3_weigh 27 = .ok (.iload_n 1, 1) := by decide +kernel
theorem dX3_weigh_28 : decode cX3_weigh 28 = .ok (.iload_n 2, 1) := by decide +kernel
theorem dX3_weigh_29 : decode cX3_weigh 29 = .ok (.iload 4, 2) := by decide +kernel
theorem dX3_weigh_31 : decode cX3_weigh 31 = .ok (.invokevirtual 35, 3) := by decide +kernel
theorem dX3_weigh_34 : decode cX3_weigh 34 = .ok (.iinc 4 1, 3) := by decide +kernel
theorem dX3_weigh_37 : decode cX3_weigh 37 = .ok (.goto (-28), 3) := by decide +kernel
theorem dX3_weigh_40 : decode cX3_weigh 40 = .ok (.return_, 1) := by decide +kernel
theorem dX3_affordableBooks_0 : decode cX3_affordableBooks 0 = .ok (.iconst 0, 1) := by decide +kernel
theorem dX3_affordableBooks_1 : decode cX3_affordableBooks 1 = .ok (.istore_n 2, 1) := by decide +kernel
theorem dX3_affordableBooks_2 : decode cX3_affordableBooks 2 = .ok (.iconst 0, 1) := by decide +kernel
theorem dX3_affordableBooks_3 : decode cX3_affordableBooks 3 = .ok (.istore_n 3, 1) := by decide +kernel
theorem dX3_affordableBooks_4 : decode cX3_affordableBooks 4 = .ok (.iload_n 3, 1) := by decide +kernel
theorem dX3_affordableBooks_5 : decode cX3_affordableBooks 5 = .ok (.bipush 8, 2) := by decide +kernel
theorem dX3_affordableBooks_7 : decode cX3_affordableBooks 7 = .ok (.if_icmp .ge 29, 3) := by decide +kernel
theorem dX3_affordableBooks_10 : decode cX3_affordableBooks 10 = .ok (.iload_n 2, 1) := by decide +kernel
theorem dX3_affordableBooks_11 : decode cX3_affordableBooks 11 = .ok (.aload_n 0, 1) := by decide +kernel
theorem dX3_affordableBooks_12 : decode cX3_affordableBooks 12 = .ok (.getfield 15, 3) := by decide +kernel
theorem dX3_affordableBooks_15 : decode cX3_affordableBooks 15 = .ok (.iload_n 3, 1) := by decide +kernel
theorem dX3_affordableBooks_16 : decode cX3_affordableBooks 16 = .ok (.iaload, 1) := by decide +kernel
theorem dX3_affordableBooks_17 : decode cX3_affordableBooks 17 = .ok (.iload_n 1, 1) := by decide +kernel
theorem dX3_affordableBooks_18 : decode cX3_affordableBooks 18 = .ok (.if_icmp .gt 9, 3) := by decide +kernel
theorem dX3_affordableBooks_21 : decode cX3_affordableBooks 21 = .ok (.iconst 1, 1) := by decide +kernel
theorem dX3_affordableBooks_22 : decode cX3_affordableBooks 22 = .ok (.iload_n 3, 1) := by decide +kernel
theorem dX3_affordableBooks_23 : decode cX3_affordableBooks 23 = .ok (.ishl, 1) := by decide +kernel
theorem dX3_affordableBooks_24 : decode cX3_affordableBooks 24 = .ok (.goto 4, 3) := by decide +kernel
theorem dX3_affordableBooks_27 : decode cX3_affordableBooks 27 = .ok (.iconst 0, 1) := by decide +kernel
theorem dX3_affordableBooks_28 : decode cX3_affordableBooks 28 = .ok (.ior, 1) := by decide +kernel
theorem dX3_affordableBooks_29 : decode cX3_affordableBooks 29 = .ok (.istore_n 2, 1) := by decide +kernel
theorem dX3_affordableBooks_30 : decode cX3_affordableBooks 30 = .ok (.iinc 3 1, 3) := by decide +kernel
theorem dX3_affordableBooks_33 : decode cX3_affordableBooks 33 = .ok (.goto (-29), 3) := by decide +kernel
theorem dX3_affordableBooks_36 : decode cX3_affordableBooks 36 = .ok (.iload_n 2, 1) := by decide +kernel
theorem dX3_affordableBooks_37 : decode cX3_affordableBooks 37 = .ok (.ireturn, 1) := by decide +kernel
theorem dX3_weighSet_0 : decode cX3_weighSet 0 = .ok (.iconst 0, 1) := by decide +kernel
theorem dX3_weighSet_1 : decode cX3_weighSet 1 = .ok (.istore 4, 2) := by decide +kernel
theorem dX3_weighSet_3 : decode cX3_weighSet 3 = .ok (.iconst 0, 1) := by decide +kernel
theorem dX3_weighSet_4 : decode cX3_weighSet 4 = .ok (.istore 5, 2) := by decide +kernel
theorem dX3_weighSet_6 : decode cX3_weighSet 6 = .ok (.iconst 0, 1) := by decide +kernel
theorem dX3_weighSet_7 : decode cX3_weighSet 7 = .ok (.istore 6, 2) := by decide +kernel
theorem dX3_weighSet_9 : decode cX3_weighSet 9 = .ok (.iload 6, 2) := by decide +kernel
theorem dX3_weighSet_11 : decode cX3_weighSet 11 = .ok (.bipush 8, 2) := by decide +kernel
theorem dX3_weighSet_13 : decode cX3_weighSet 13 = .ok (.if_icmp .ge 43, 3) := by decide +kernel
theorem dX3_weighSet_16 : decode cX3_weighSet 16 = .ok (.iload_n 3, 1) := by decide +kernel
theorem dX3_weighSet_17 : decode cX3_weighSet 17 = .ok (.iload 6, 2) := by decide +kernel
theorem dX3_weighSet_19 : decode cX3_weighSet 19 = .ok (.ishr, 1) := by decide +kernel
theorem dX3_weighSet_20 : decode cX3_weighSet 20 = .ok (.iconst 1, 1) := by decide +kernel
theorem dX3_weighSet_21 : decode cX3_weighSet 21 = .ok (.iand, 1) := by decide +kernel
theorem dX3_weighSet_22 : decode cX3_weighSet 22 = .ok (.iconst 1, 1) := by decide +kernel
theorem dX3_weighSet_23 : decode cX3_weighSet 23 = .ok (.if_icmp .ne 27, 3) := by decide +kernel
theorem dX3_weighSet_26 : decode cX3_weighSet 26 = .ok (.iload 4, 2) := by decide +kernel
theorem dX3_weighSet_28 : decode cX3_weighSet 28 = .ok (.aload_n 0, 1) := by decide +kernel
theorem dX3_weighSet_29 : decode cX3_weighSet 29 = .ok (.getfield 9, 3) := by decide +kernel
theorem dX3_weighSet_32 : decode cX3_weighSet 32 = .ok (.iload 6, 2) := by decide +kernel
theorem dX3_weighSet_34 : decode cX3_weighSet 34 = .ok (.iaload, 1) := by decide +kernel
theorem dX3_weighSet_35 : decode cX3_weighSet 35 = .ok (.iadd, 1) := by decide +kernel
theorem dX3_weighSet_36 : decode cX3_weighSet 36 = .ok (.istore 4, 2) := by decide +kernel
theorem dX3_weighSet_38 : decode cX3_weighSet 38 = .ok (.iload 5, 2) := by decide +kernel
theorem dX3_weighSet_40 : decode cX3_weighSet 40 = .ok (.aload_n 0, 1) := by decide +kernel
theorem dX3_weighSet_41 : decode cX3_weighSet 41 = .ok (.getfield 15, 3) := by decide +kernel
theorem dX3_weighSet_44 : decode cX3_weighSet 44 = .ok (.iload 6, 2) := by decide +kernel
theorem dX3_weighSet_46 : decode cX3_weighSet 46 = .ok (.iaload, 1) := by decide +kernel
theorem dX3_weighSet_47 : decode cX3_weighSet 47 = .ok (.iadd, 1) := by decide +kernel
theorem dX3_weighSet_48 : decode cX3_weighSet 48 = .ok (.istore 5, 2) := by decide +kernel
theorem dX3_weighSet_50 : decode cX3_weighSet 50 = .ok (.iinc 6 1, 3) := by decide +kernel
theorem dX3_weighSet_53 : decode cX3_weighSet 53 = .ok (.goto (-44), 3) := by decide +kernel
theorem dX3_weighSet_56 : decode cX3_weighSet 56 = .ok (.iload 4, 2) := by decide +kernel
theorem dX3_weighSet_58 : decode cX3_weighSet 58 = .ok (.aload_n 0, 1) := by decide +kernel
theorem dX3_weighSet_59 : decode cX3_weighSet 59 = .ok (.getfield 18, 3) := by decide +kernel
theorem dX3_weighSet_62 : decode cX3_weighSet 62 = .ok (.if_icmp .gt 29, 3) := by decide +kernel
theorem dX3_weighSet_65 : decode cX3_weighSet 65 = .ok (.iload 4, 2) := by decide +kernel
theorem dX3_weighSet_67 : decode cX3_weighSet 67 = .ok (.aload_n 0, 1) := by decide +kernel
theorem dX3_weighSet_68 : decode cX3_weighSet 68 = .ok (.getfield 18, 3) := by decide +kernel
theorem dX3_weighSet_71 : decode cX3_weighSet 71 = .ok (.if_icmp .ne 24, 3) := by decide +kernel
theorem dX3_weighSet_74 : decode cX3_weighSet 74 = .ok (.iload_n 1, 1) := by decide +kernel
theorem dX3_weighSet_75 : decode cX3_weighSet 75 = .ok (.aload_n 0, 1) := by decide +kernel
theorem dX3_weighSet_76 : decode cX3_weighSet 76 = .ok (.getfield 22, 3) := by decide +kernel
theorem dX3_weighSet_79 : decode cX3_weighSet 79 = .ok (.if_icmp .ne 16, 3) := by decide +kernel
theorem dX3_weighSet_82 : decode cX3_weighSet 82 = .ok (.iload 5, 2) := by decide +kernel
theorem dX3_weighSet_84 : decode cX3_weighSet 84 = .ok (.aload_n 0, 1) := by decide +kernel
theorem dX3_weighSet_85 : decode cX3_weighSet 85 = .ok (.getfield 28, 3) := by decide +kernel
theorem dX3_weighSet_88 : decode cX3_weighSet 88 = .ok (.if_icmp .ge 7, 3) := by decide +kernel
theorem dX3_weighSet_91 : decode cX3_weighSet 91 = .ok (.iconst 1, 1) := by decide +kernel
theorem dX3_weighSet_92 : decode cX3_weighSet 92 = .ok (.goto 4, 3) := by decide +kernel
theorem dX3_weighSet_95 : decode cX3_weighSet 95 = .ok (.iconst 0, 1) := by decide +kernel
theorem dX3_weighSet_96 : decode cX3_weighSet 96 = .ok (.istore 6, 2) := by decide +kernel
theorem dX3_weighSet_98 : decode cX3_weighSet 98 = .ok (.iload 5, 2) := by decide +kernel
theorem dX3_weighSet_100 : decode cX3_weighSet 100 = .ok (.iload_n 2, 1) := by decide +kernel
theorem dX3_weighSet_101 : decode cX3_weighSet 101 = .ok (.if_icmp .gt 30, 3) := by decide +kernel
theorem dX3_weighSet_104 : decode cX3_weighSet 104 = .ok (.iload 6, 2) := by decide +kernel
theorem dX3_weighSet_106 : decode cX3_weighSet 106 = .ok (.ifCond .eq 25, 3) := by decide +kernel
theorem dX3_weighSet_109 : decode cX3_weighSet 109 = .ok (.aload_n 0, 1) := by decide +kernel
theorem dX3_weighSet_110 : decode cX3_weighSet 110 = .ok (.iload 4, 2) := by decide +kernel
theorem dX3_weighSet_112 : decode cX3_weighSet 112 = .ok (.putfield 18, 3) := by decide +kernel
theorem dX3_weighSet_115 : decode cX3_weighSet 115 = .ok (.aload_n 0, 1) := by decide +kernel
theorem dX3_weighSet_116 : decode cX3_weighSet 116 = .ok (.iload_n 1, 1) := by decide +kernel
theorem dX3_weighSet_117 : decode cX3_weighSet 117 = .ok (.putfield 22, 3) := by decide +kernel
theorem dX3_weighSet_120 : decode cX3_weighSet 120 = .ok (.aload_n 0, 1) := by decide +kernel
theorem dX3_weighSet_121 : decode cX3_weighSet 121 = .ok (.iload_n 3, 1) := by decide +kernel
theorem dX3_weighSet_122 : decode cX3_weighSet 122 = .ok (.putfield 25, 3) := by decide +kernel
theorem dX3_weighSet_125 : decode cX3_weighSet 125 = .ok (.aload_n 0, 1) := by decide +kernel
theorem dX3_weighSet_126 : decode cX3_weighSet 126 = .ok (.iload 5, 2) := by decide +kernel
theorem dX3_weighSet_128 : decode cX3_weighSet 128 = .ok (.putfield 28, 3) := by decide +kernel
theorem dX3_weighSet_131 : decode cX3_weighSet 131 = .ok (.return_, 1) := by decide +kernel
theorem dX4_init_0 : decode cX4_init 0 = .ok (.aload_n 0, 1) := by decide +kernel
theorem dX4_init_1 : decode cX4_init 1 = .ok (.invokespecial 3, 3) := by decide +kernel
theorem dX4_init_4 : decode cX4_init 4 = .ok (.aload_n 0, 1) := by decide +kernel
theorem dX4_init_5 : decode cX4_init 5 = .ok (.bipush 26, 2) := by decide +kernel
theorem dX4_init_7 : decode cX4_init 7 = .ok (.newarray .int, 2) := by decide +kernel
theorem dX4_init_9 : decode cX4_init 9 = .ok (.putfield 9, 3) := by decide +kernel
theorem dX4_init_12 : decode cX4_init 12 = .ok (.aload_n 0, 1) := by decide +kernel
theorem dX4_init_13 : decode cX4_init 13 = .ok (.iconst 5, 1) := by decide +kernel
theorem dX4_init_14 : decode cX4_init 14 = .ok (.newarray .int, 2) := by decide +kernel
theorem dX4_init_16 : decode cX4_init 16 = .ok (.putfield 15, 3) := by decide +kernel
theorem dX4_init_19 : decode cX4_init 19 = .ok (.aload_n 0, 1) := by decide +kernel
theorem dX4_init_20 : decode cX4_init 20 = .ok (.bipush 7, 2) := by decide +kernel
theorem dX4_init_22 : decode cX4_init 22 = .ok (.newarray .int, 2) := by decide +kernel
theorem dX4_init_24 : decode cX4_init 24 = .ok (.putfield 18, 3) := by decide +kernel
theorem dX4_init_27 : decode cX4_init 27 = .ok (.aload_n 0, 1) := by decide +kernel
theorem dX4_init_28 : decode cX4_init 28 = .ok (.bipush 35, 2) := by decide +kernel
theorem dX4_init_30 : decode cX4_init 30 = .ok (.newarray .long, 2) := by decide +kernel
theorem dX4_init_32 : decode cX4_init 32 = .ok (.putfield 21, 3) := by decide +kernel
theorem dX4_init_35 : decode cX4_init 35 = .ok (.aload_n 0, 1) := by decide +kernel
theorem dX4_init_36 : decode cX4_init 36 = .ok (.bipush 35, 2) := by decide +kernel
theorem dX4_init_38 : decode cX4_init 38 = .ok (.newarray .int, 2) := by decide +kernel
theorem dX4_init_40 : decode cX4_init 40 = .ok (.putfield 25, 3) := by decide +kernel
theorem dX4_init_43 : decode cX4_init 43 = .ok (.aload_n 0, 1) := by decide +kernel
theorem dX4_init_44 : decode cX4_init 44 = .ok (.bipush 8, 2) := by decide +kernel
theorem dX4_init_46 : decode cX4_init 46 = .ok (.newarray .int, 2) := by decide +kernel
theorem dX4_init_48 : decode cX4_init 48 = .ok (.putfield 28, 3) := by decide +kernel
theorem dX4_init_51 : decode cX4_init 51 = .ok (.aload_n 0, 1) := by decide +kernel
theorem dX4_init_52 : decode cX4_init 52 = .ok (.aload_n 1, 1) := by decide +kernel
theorem dX4_init_53 : decode cX4_init 53 = .ok (.putfield 31, 3) := by decide +kernel
theorem dX4_init_56 : decode cX4_init 56 = .ok (.aload_n 0, 1) := by decide +kernel
theorem dX4_init_57 : decode cX4_init 57 = .ok (.getfield 9, 3) := by decide +kernel
theorem dX4_init_60 : decode cX4_init 60 = .ok (.iconst (-1), 1) := by decide +kernel
theorem dX4_init_61 : decode cX4_init 61 = .ok (.invokestatic 35, 3) := by decide +kernel
theorem dX4_init_64 : decode cX4_init 64 = .ok (.return_, 1) := by decide +kernel
theorem dX4_takeDigits_0 : decode cX4_takeDigits 0 = .ok (.iload_n 1, 1) := by decide +kernel
theorem dX4_takeDigits_1 : decode cX4_takeDigits 1 = .ok (.ifCond .ge 5, 3) := by decide +kernel
theorem dX4_takeDigits_4 : decode cX4_takeDigits 4 = .ok (.iconst 0, 1) := by decide +kernel
theorem dX4_takeDigits_5 : decode cX4_takeDigits 5 = .ok (.ireturn, 1) := by decide +kernel
theorem dX4_takeDigits_6 : decode cX4_takeDigits 6 = .ok (.iload_n 1, 1) := by decide +kernel
theorem dX4_takeDigits_7 : decode cX4_takeDigits 7 = .ok (.istore_n 2, 1) := by decide +kernel
theorem dX4_takeDigits_8 : decode cX4_takeDigits 8 = .ok (.bipush 6, 2) := by decide +kernel
theorem dX4_takeDigits_10 : decode cX4_takeDigits 10 = .ok (.istore_n 3, 1) := by decide +kernel
theorem dX4_takeDigits_11 : decode cX4_takeDigits 11 = .ok (.iload_n 3, 1) := by decide +kernel
theorem dX4_takeDigits_12 : decode cX4_takeDigits 12 = .ok (.ifCond .lt 36, 3) := by decide +kernel
theorem dX4_takeDigits_15 : decode cX4_takeDigits 15 = .ok (.aload_n 0, 1) := by decide +kernel
theorem dX4_takeDigits_16 : decode cX4_takeDigits 16 = .ok (.getfield 18, 3) := by decide +kernel
theorem dX4_takeDigits_19 : decode cX4_takeDigits 19 = .ok (.iload_n 3, 1) := by decide +kernel
theorem dX4_takeDigits_20 : decode cX4_takeDigits 20 = .ok (.iload_n 2, 1) := by decide +kernel
theorem dX4_takeDigits_21 : decode cX4_takeDigits 21 = .ok (.bipush 10, 2) := by decide +kernel
theorem dX4_takeDigits_23 : decode cX4_takeDigits 23 = .ok (.irem, 1) := by decide +kernel
theorem dX4_takeDigits_24 : decode cX4_takeDigits 24 = .ok (.iastore, 1) := by decide +kernel
theorem dX4_takeDigits_25 : decode cX4_takeDigits 25 = .ok (.aload_n 0, 1) := by decide +kernel
theorem dX4_takeDigits_26 : decode cX4_takeDigits 26 = .ok (.getfield 18, 3) := by decide +kernel
theorem dX4_takeDigits_29 : decode cX4_takeDigits 29 = .ok (.iload_n 3, 1) := by decide +kernel
theorem dX4_takeDigits_30 : decode cX4_takeDigits 30 = .ok (.iaload, 1) := by decide +kernel
theorem dX4_takeDigits_31 : decode cX4_takeDigits 31 = .ok (.iconst 5, 1) := by decide +kernel
theorem dX4_takeDigits_32 : decode cX4_takeDigits 32 = .ok (.if_icmp .lt 5, 3) := by decide +kernel
theorem dX4_takeDigits_35 : decode cX4_takeDigits 35 = .ok (.iconst 0, 1) := by decide +kernel
theorem dX4_takeDigits_36 : decode cX4_takeDigits 36 = .ok (.ireturn, 1) := by decide +kernel
theorem dX4_takeDigits_37 : decode cX4_takeDigits 37 = .ok (.iload_n 2, 1) := by decide +kernel
theorem dX4_takeDigits_38 : decode cX4_takeDigits 38 = .ok (.bipush 10, 2) := by decide +kernel
theorem dX4_takeDigits_40 : decode cX4_takeDigits 40 = .ok (.idiv, 1) := by decide +kernel
theorem dX4_takeDigits_41 : decode cX4_takeDigits 41 = .ok (.istore_n 2, 1) := by decide +kernel
theorem dX4_takeDigits_42 : decode cX4_takeDigits 42 = .ok (.iinc 3 (-1), 3) := by decide +kernel
theorem dX4_takeDigits_45 : decode cX4_takeDigits 45 = .ok (.goto (-34), 3) := by decide +kernel
theorem dX4_takeDigits_48 : decode cX4_takeDigits 48 = .ok (.iload_n 2, 1) := by decide +kernel
theorem dX4_takeDigits_49 : decode cX4_takeDigits 49 = .ok (.ifCond .ne 7, 3) := by decide +kernel
theorem dX4_takeDigits_52 : decode cX4_takeDigits 52 = .ok (.iconst 1, 1) := by decide +kernel
theorem dX4_takeDigits_53 : decode cX4_takeDigits 53 = .ok (.goto 4, 3) := by decide +kernel
theorem dX4_takeDigits_56 : decode cX4_takeDigits 56 = .ok (.iconst 0, 1) := by decide +kernel
theorem dX4_takeDigits_57 : decode cX4_takeDigits 57 = .ok (.ireturn, 1) := by decide +kernel
theorem dX4_mayBe_0 : decode cX4_mayBe 0 = .ok (.lconst 0, 1) := by decide +kernel
theorem dX4_mayBe_1 : decode cX4_mayBe 1 = .ok (.lstore_n 1, 1) := by decide +kernel
theorem dX4_mayBe_2 : decode cX4_mayBe 2 = .ok (.iconst 0, 1) := by decide +kernel
theorem dX4_mayBe_3 : decode cX4_mayBe 3 = .ok (.istore_n 3, 1) := by decide +kernel
theorem dX4_mayBe_4 : decode cX4_mayBe 4 = .ok (.iload_n 3, 1) := by decide +kernel
theorem dX4_mayBe_5 : decode cX4_mayBe 5 = .ok (.bipush 26, 2) := by decide +kernel
theorem dX4_mayBe_7 : decode cX4_mayBe 7 = .ok (.if_icmp .ge 59, 3) := by decide +kernel
theorem dX4_mayBe_10 : decode cX4_mayBe 10 = .ok (.aload_n 0, 1) := by decide +kernel
theorem dX4_mayBe_11 : decode cX4_mayBe 11 = .ok (.getfield 9, 3) := by decide +kernel
theorem dX4_mayBe_14 : decode cX4_mayBe 14 = .ok (.iload_n 3, 1) := by decide +kernel
theorem dX4_mayBe_15 : decode cX4_mayBe 15 = .ok (.iaload, 1) := by decide +kernel
theorem dX4_mayBe_16 : decode cX4_mayBe 16 = .ok (.ifCond .lt 44, 3) := by decide +kernel
theorem dX4_mayBe_19 : decode cX4_mayBe 19 = .ok (.aload_n 0, 1) := by decide +kernel
theorem dX4_mayBe_20 : decode cX4_mayBe 20 = .ok (.getfield 31, 3) := by decide +kernel
theorem dX4_mayBe_23 : decode cX4_mayBe 23 = .ok (.aload_n 0, 1) := by decide +kernel
theorem dX4_mayBe_24 : decode cX4_mayBe 24 = .ok (.getfield 18, 3) := by decide +kernel
theorem dX4_mayBe_27 : decode cX4_mayBe 27 = .ok (.aload_n 0, 1) := by decide +kernel
theorem dX4_mayBe_28 : decode cX4_mayBe 28 = .ok (.getfield 9, 3) := by decide +kernel
theorem dX4_mayBe_31 : decode cX4_mayBe 31 = .ok (.iload_n 3, 1) := by decide +kernel
theorem dX4_mayBe_32 : decode cX4_mayBe 32 = .ok (.iaload, 1) := by decide +kernel
theorem dX4_mayBe_33 : decode cX4_mayBe 33 = .ok (.iaload, 1) := by decide +kernel
theorem dX4_mayBe_34 : decode cX4_mayBe 34 = .ok (.aaload, 1) := by decide +kernel
theorem dX4_mayBe_35 : decode cX4_mayBe 35 = .ok (.getfield 41, 3) := by decide +kernel
theorem dX4_mayBe_38 : decode cX4_mayBe 38 = .ok (.iload_n 3, 1) := by decide +kernel
theorem dX4_mayBe_39 : decode cX4_mayBe 39 = .ok (.iaload, 1) := by decide +kernel
theorem dX4_mayBe_40 : decode cX4_mayBe 40 = .ok (.lload_n 1, 1) := by decide +kernel
theorem dX4_mayBe_41 : decode cX4_mayBe 41 = .ok (.invokestatic 46, 3) := by decide +kernel
theorem dX4_mayBe_44 : decode cX4_mayBe 44 = .ok (.lstore 4, 2) := by decide +kernel
theorem dX4_mayBe_46 : decode cX4_mayBe 46 = .ok (.lload 4, 2) := by decide +kernel
theorem dX4_mayBe_48 : decode cX4_mayBe 48 = .ok (.lconst 1, 1) := by decide +kernel
theorem dX4_mayBe_49 : decode cX4_mayBe 49 = .ok (.lcmp, 1) := by decide +kernel
theorem dX4_mayBe_50 : decode cX4_mayBe 50 = .ok (.ifCond .ne 5, 3) := by decide +kernel
theorem dX4_mayBe_53 : decode cX4_mayBe 53 = .ok (.iconst 0, 1) := by decide +kernel
theorem dX4_mayBe_54 : decode cX4_mayBe 54 = .ok (.ireturn, 1) := by decide +kernel
theorem dX4_mayBe_55 : decode cX4_mayBe 55 = .ok (.lload_n 1, 1) := by decide +kernel
theorem dX4_mayBe_56 : decode cX4_mayBe 56 = .ok (.lload 4, 2) := by decide +kernel
theorem dX4_mayBe_58 : decode cX4_mayBe 58 = .ok (.lor, 1) := by decide +kernel
theorem dX4_mayBe_59 : decode cX4_mayBe 59 = .ok (.lstore_n 1, 1) := by decide +kernel
theorem dX4_mayBe_60 : decode cX4_mayBe 60 = .ok (.iinc 3 1, 3) := by decide +kernel
theorem dX4_mayBe_63 : decode cX4_mayBe 63 = .ok (.goto (-59), 3) := by decide +kernel
theorem dX4_mayBe_66 : decode cX4_mayBe 66 = .ok (.iconst 1, 1) := by decide +kernel
theorem dX4_mayBe_67 : decode cX4_mayBe 67 = .ok (.ireturn, 1) := by decide +kernel
theorem dX4_cellBit_0 : decode cX4_cellBit 0 = .ok (.iload_n 0, 1) := by decide +kernel
theorem dX4_cellBit_1 : decode cX4_cellBit 1 = .ok (.ifCond .eq 13, 3) := by decide +kernel
theorem dX4_cellBit_4 : decode cX4_cellBit 4 = .ok (.lload_n 1, 1) := by decide +kernel
theorem dX4_cellBit_5 : decode cX4_cellBit 5 = .ok (.iload_n 0, 1) := by decide +kernel
theorem dX4_cellBit_6 : decode cX4_cellBit 6 = .ok (.lushr, 1) := by decide +kernel
theorem dX4_cellBit_7 : decode cX4_cellBit 7 = .ok (.lconst 1, 1) := by decide +kernel
theorem dX4_cellBit_8 : decode cX4_cellBit 8 = .ok (.land, 1) := by decide +kernel
theorem dX4_cellBit_9 : decode cX4_cellBit 9 = .ok (.lconst 1, 1) := by decide +kernel
theorem dX4_cellBit_10 : decode cX4_cellBit 10 = .ok (.lcmp, 1) := by decide +kernel
theorem dX4_cellBit_11 : decode cX4_cellBit 11 = .ok (.ifCond .ne 7, 3) := by decide +kernel
theorem dX4_cellBit_14 : decode cX4_cellBit 14 = .ok (.lconst 1, 1) := by decide +kernel
theorem dX4_cellBit_15 : decode cX4_cellBit 15 = .ok (.goto 6, 3) := by decide +kernel
theorem dX4_cellBit_18 : decode cX4_cellBit 18 = .ok (.lconst 1, 1) := by decide +kernel
theorem dX4_cellBit_19 : decode cX4_cellBit 19 = .ok (.iload_n 0, 1) := by decide +kernel
theorem dX4_cellBit_20 : decode cX4_cellBit 20 = .ok (.lshl, 1) := by decide +kernel
theorem dX4_cellBit_21 : decode cX4_cellBit 21 = .ok (.lreturn, 1) := by decide +kernel
theorem dX4_newToAll_0 : decode cX4_newToAll 0 = .ok (.iconst 0, 1) := by decide +kernel
theorem dX4_newToAll_1 : decode cX4_newToAll 1 = .ok (.istore_n 1, 1) := by decide +kernel
theorem dX4_newToAll_2 : decode cX4_newToAll 2 = .ok (.iconst 0, 1) := by decide +kernel
theorem dX4_newToAll_3 : decode cX4_newToAll 3 = .ok (.istore_n 2, 1) := by decide +kernel
theorem dX4_newToAll_4 : decode cX4_newToAll 4 = .ok (.iload_n 2, 1) := by decide +kernel
theorem dX4_newToAll_5 : decode cX4_newToAll 5 = .ok (.bipush 26, 2) := by decide +kernel
theorem dX4_newToAll_7 : decode cX4_newToAll 7 = .ok (.if_icmp .ge 47, 3) := by decide +kernel
theorem dX4_newToAll_10 : decode cX4_newToAll 10 = .ok (.aload_n 0, 1) := by decide +kernel
theorem dX4_newToAll_11 : decode cX4_newToAll 11 = .ok (.getfield 9, 3) := by decide +kernel
theorem dX4_newToAll_14 : decode cX4_newToAll 14 = .ok (.iload_n 2, 1) := by decide +kernel
theorem dX4_newToAll_15 : decode cX4_newToAll 15 = .ok (.iaload, 1) := by decide +kernel
theorem dX4_newToAll_16 : decode cX4_newToAll 16 = .ok (.ifCond .lt 32, 3) := by decide +kernel
theorem dX4_newToAll_19 : decode cX4_newToAll 19 = .ok (.iload_n 1, 1) := by decide +kernel
theorem dX4_newToAll_20 : decode cX4_newToAll 20 = .ok (.aload_n 0, 1) := by decide +kernel
theorem dX4_newToAll_21 : decode cX4_newToAll 21 = .ok (.iload_n 2, 1) := by decide +kernel
theorem dX4_newToAll_22 : decode cX4_newToAll 22 = .ok (.aload_n 0, 1) := by decide +kernel
theorem dX4_newToAll_23 : decode cX4_newToAll 23 = .ok (.getfield 31, 3) := by decide +kernel
theorem dX4_newToAll_26 : decode cX4_newToAll 26 = .ok (.aload_n 0, 1) := by decide +kernel
theorem dX4_newToAll_27 : decode cX4_newToAll 27 = .ok (.getfield 18, 3) := by decide +kernel
theorem dX4_newToAll_30 : decode cX4_newToAll 30 = .ok (.aload_n 0, 1) := by decide +kernel
theorem dX4_newToAll_31 : decode cX4_newToAll 31 = .ok (.getfield 9, 3) := by decide +kernel
theorem dX4_newToAll_34 : decode cX4_newToAll 34 = .ok (.iload_n 2, 1) := by decide +kernel
theorem dX4_newToAll_35 : decode cX4_newToAll 35 = .ok (.iaload, 1) := by decide +kernel
theorem dX4_newToAll_36 : decode cX4_newToAll 36 = .ok (.iaload, 1) := by decide +kernel
theorem dX4_newToAll_37 : decode cX4_newToAll 37 = .ok (.aaload, 1) := by decide +kernel
theorem dX4_newToAll_38 : decode cX4_newToAll 38 = .ok (.getfield 41, 3) := by decide +kernel
theorem dX4_newToAll_41 : decode cX4_newToAll 41 = .ok (.iload_n 2, 1) := by decide +kernel
theorem dX4_newToAll_42 : decode cX4_newToAll 42 = .ok (.iaload, 1) := by decide +kernel
theorem dX4_newToAll_43 : decode cX4_newToAll 43 = .ok (.invokevirtual 50, 3) := by decide +kernel
theorem dX4_newToAll_46 : decode cX4_newToAll 46 = .ok (.iadd, 1) := by decide +kernel
theorem dX4_newToAll_47 : decode cX4_newToAll 47 = .ok (.istore_n 1, 1) := by decide +kernel
theorem dX4_newToAll_48 : decode cX4_newToAll 48 = .ok (.iinc 2 1, 3) := by decide +kernel
theorem dX4_newToAll_51 : decode cX4_newToAll 51 = .ok (.goto (-47), 3) := by decide +kernel
theorem dX4_newToAll_54 : decode cX4_newToAll 54 = .ok (.iload_n 1, 1) := by decide +kernel
theorem dX4_newToAll_55 : decode cX4_newToAll 55 = .ok (.ireturn, 1) := by decide +kernel
theorem dX4_strangersTo_0 : decode cX4_strangersTo 0 = .ok (.iconst 0, 1) := by decide +kernel
theorem dX4_strangersTo_1 : decode cX4_strangersTo 1 = .ok (.istore_n 3, 1) := by decide +kernel
theorem dX4_strangersTo_2 : decode cX4_strangersTo 2 = .ok (.iconst 0, 1) := by decide +kernel
theorem dX4_strangersTo_3 : decode cX4_strangersTo 3 = .ok (.istore 4, 2) := by decide +kernel
theorem dX4_strangersTo_5 : decode cX4_strangersTo 5 = .ok (.iload 4, 2) := by decide +kernel
theorem dX4_strangersTo_7 : decode cX4_strangersTo 7 = .ok (.iconst 5, 1) := by decide +kernel
theorem dX4_strangersTo_8 : decode cX4_strangersTo 8 = .ok (.if_icmp .ge 39, 3) := by decide +kernel
theorem dX4_strangersTo_11 : decode cX4_strangersTo 11 = .ok (.iload_n 3, 1) := by decide +kernel
theorem dX4_strangersTo_12 : decode cX4_strangersTo 12 = .ok (.aload_n 0, 1) := by decide +kernel
theorem dX4_strangersTo_13 : decode cX4_strangersTo 13 = .ok (.getfield 31, 3) := by decide +kernel
theorem dX4_strangersTo_16 : decode cX4_strangersTo 16 = .ok (.iload 4, 2) := by decide +kernel
theorem dX4_strangersTo_18 : decode cX4_strangersTo 18 = .ok (.aaload, 1) := by decide +kernel
theorem dX4_strangersTo_19 : decode cX4_strangersTo 19 = .ok (.getfield 41, 3) := by decide +kernel
theorem dX4_strangersTo_22 : decode cX4_strangersTo 22 = .ok (.iload_n 1, 1) := by decide +kernel
theorem dX4_strangersTo_23 : decode cX4_strangersTo 23 = .ok (.iaload, 1) := by decide +kernel
theorem dX4_strangersTo_24 : decode cX4_strangersTo 24 = .ok (.iload_n 2, 1) := by decide +kernel
theorem dX4_strangersTo_25 : decode cX4_strangersTo 25 = .ok (.if_icmp .ne 7, 3) := by decide +kernel
theorem dX4_strangersTo_28 : decode cX4_strangersTo 28 = .ok (.iconst 0, 1) := by decide +kernel
theorem dX4_strangersTo_29 : decode cX4_strangersTo 29 = .ok (.goto 10, 3) := by decide +kernel
theorem dX4_strangersTo_32 : decode cX4_strangersTo 32 = .ok (.aload_n 0, 1) := by decide +kernel
theorem dX4_strangersTo_33 : decode cX4_strangersTo 33 = .ok (.getfield 15, 3) := by decide +kernel
theorem dX4_strangersTo_36 : decode cX4_strangersTo 36 = .ok (.iload 4, 2) := by decide +kernel
theorem dX4_strangersTo_38 : decode cX4_strangersTo 38 = .ok (.iaload, 1) := by decide +kernel
theorem dX4_strangersTo_39 : decode cX4_strangersTo 39 = .ok (.iadd, 1) := by decide +kernel
theorem dX4_strangersTo_40 : decode cX4_strangersTo 40 = .ok (.istore_n 3, 1) := by decide +kernel
theorem dX4_strangersTo_41 : decode cX4_strangersTo 41 = .ok (.iinc 4 1, 3) := by decide +kernel
theorem dX4_strangersTo_44 : decode cX4_strangersTo 44 = .ok (.goto (-39), 3) := by decide +kernel
theorem dX4_strangersTo_47 : decode cX4_strangersTo 47 = .ok (.iload_n 3, 1) := by decide +kernel
theorem dX4_strangersTo_48 : decode cX4_strangersTo 48 = .ok (.ireturn, 1) := by decide +kernel
theorem dX4_findBest_0 : decode cX4_findBest 0 = .ok (.iconst 0, 1) := by decide +kernel
theorem dX4_findBest_1 : decode cX4_findBest 1 = .ok (.istore_n 1, 1) := by decide +kernel
theorem dX4_findBest_2 : decode cX4_findBest 2 = .ok (.iload_n 1, 1) := by decide +kernel
theorem dX4_findBest_3 : decode cX4_findBest 3 = .ok (.bipush 7, 2) := by decide +kernel
theorem dX4_findBest_5 : decode cX4_findBest 5 = .ok (.if_icmp .ge 28, 3) := by decide +kernel
theorem dX4_findBest_8 : decode cX4_findBest 8 = .ok (.iconst 0, 1) := by decide +kernel
theorem dX4_findBest_9 : decode cX4_findBest 9 = .ok (.istore_n 2, 1) := by decide +kernel
theorem dX4_findBest_10 : decode cX4_findBest 10 = .ok (.iload_n 2, 1) := by decide +kernel
theorem dX4_findBest_11 : decode cX4_findBest 11 = .ok (.iconst 5, 1) := by decide +kernel
theorem dX4_findBest_12 : decode cX4_findBest 12 = .ok (.if_icmp .ge 15, 3) := by decide +kernel
theorem dX4_findBest_15 : decode cX4_findBest 15 = .ok (.aload_n 0, 1) := by decide +kernel
theorem dX4_findBest_16 : decode cX4_findBest 16 = .ok (.iload_n 1, 1) := by decide +kernel
theorem dX4_findBest_17 : decode cX4_findBest 17 = .ok (.iload_n 2, 1) := by decide +kernel
theorem dX4_findBest_18 : decode cX4_findBest 18 = .ok (.invokevirtual 54, 3) := by decide +kernel
theorem dX4_findBest_21 : decode cX4_findBest 21 = .ok (.iinc 2 1, 3) := by decide +kernel
theorem dX4_findBest_24 : decode cX4_findBest 24 = .ok (.goto (-14), 3) := by decide +kernel
theorem dX4_findBest_27 : decode cX4_findBest 27 = .ok (.iinc 1 1, 3) := by decide +kernel
theorem dX4_findBest_30 : decode cX4_findBest 30 = .ok (.goto (-28), 3) := by decide +kernel
theorem dX4_findBest_33 : decode cX4_findBest 33 = .ok (.aload_n 0, 1) := by decide +kernel
theorem dX4_findBest_34 : decode cX4_findBest 34 = .ok (.invokevirtual 58, 3) := by decide +kernel
theorem dX4_findBest_37 : decode cX4_findBest 37 = .ok (.aload_n 0, 1) := by decide +kernel
theorem dX4_findBest_38 : decode cX4_findBest 38 = .ok (.ldc 61, 2) := by decide +kernel
theorem dX4_findBest_40 : decode cX4_findBest 40 = .ok (.putfield 62, 3) := by decide +kernel
theorem dX4_findBest_43 : decode cX4_findBest 43 = .ok (.aload_n 0, 1) := by decide +kernel
theorem dX4_findBest_44 : decode cX4_findBest 44 = .ok (.bipush (-5), 2) := by decide +kernel
theorem dX4_findBest_46 : decode cX4_findBest 46 = .ok (.putfield 66, 3) := by decide +kernel
theorem dX4_findBest_49 : decode cX4_findBest 49 = .ok (.aload_n 0, 1) := by decide +kernel
theorem dX4_findBest_50 : decode cX4_findBest 50 = .ok (.iconst 0, 1) := by decide +kernel
theorem dX4_findBest_51 : decode cX4_findBest 51 = .ok (.lconst 0, 1) := by decide +kernel
theorem dX4_findBest_52 : decode cX4_findBest 52 = .ok (.iconst 0, 1) := by decide +kernel
theorem dX4_findBest_53 : decode cX4_findBest 53 = .ok (.iconst 0, 1) := by decide +kernel
theorem dX4_findBest_54 : decode cX4_findBest 54 = .ok (.invokevirtual 69, 3) := by decide +kernel
theorem dX4_findBest_57 : decode cX4_findBest 57 = .ok (.aload_n 0, 1) := by decide +kernel
theorem dX4_findBest_58 : decode cX4_findBest 58 = .ok (.getfield 66, 3) := by decide +kernel
theorem dX4_findBest_61 : decode cX4_findBest 61 = .ok (.ireturn, 1) := by decide +kernel
theorem dX4_weighPart_0 : decode cX4_weighPart 0 = .ok (.lconst 0, 1) := by decide +kernel
theorem dX4_weighPart_1 : decode cX4_weighPart 1 = .ok (.lstore_n 3, 1) := by decide +kernel
theorem dX4_weighPart_2 : decode cX4_weighPart 2 = .ok (.iconst 0, 1) := by decide +kernel
theorem dX4_weighPart_3 : decode cX4_weighPart 3 = .ok (.istore 5, 2) := by decide +kernel
theorem dX4_weighPart_5 : decode cX4_weighPart 5 = .ok (.iconst 0, 1) := by decide +kernel
theorem dX4_weighPart_6 : decode cX4_weighPart 6 = .ok (.istore 6, 2) := by decide +kernel
theorem dX4_weighPart_8 : decode cX4_weighPart 8 = .ok (.iload 6, 2) := by decide +kernel
theorem dX4_weighPart_10 : decode cX4_weighPart 10 = .ok (.bipush 26, 2) := by decide +kernel
theorem dX4_weighPart_12 : decode cX4_weighPart 12 = .ok (.if_icmp .ge 56, 3) := by decide +kernel
theorem dX4_weighPart_15 : decode cX4_weighPart 15 = .ok (.aload_n 0, 1) := by decide +kernel
theorem dX4_weighPart_16 : decode cX4_weighPart 16 = .ok (.getfield 9, 3) := by decide +kernel
theorem dX4_weighPart_19 : decode cX4_weighPart 19 = .ok (.iload 6, 2) := by decide +kernel
theorem dX4_weighPart_21 : decode cX4_weighPart 21 = .ok (.iaload, 1) := by decide +kernel
theorem dX4_weighPart_22 : decode cX4_weighPart 22 = .ok (.iload_n 1, 1) := by decide +kernel
theorem dX4_weighPart_23 : decode cX4_weighPart 23 = .ok (.if_icmp .ne 39, 3) := by decide +kernel
theorem dX4_weighPart_26 : decode cX4_weighPart 26 = .ok (.aload_n 0, 1) := by decide +kernel
theorem dX4_weighPart_27 : decode cX4_weighPart 27 = .ok (.getfield 31, 3) := by decide +kernel
theorem dX4_weighPart_30 : decode cX4_weighPart 30 = .ok (.iload_n 2, 1) := by decide +kernel
theorem dX4_weighPart_31 : decode cX4_weighPart 31 = .ok (.aaload, 1) := by decide +kernel
theorem dX4_weighPart_32 : decode cX4_weighPart 32 = .ok (.getfield 41, 3) := by decide +kernel
theorem dX4_weighPart_35 : decode cX4_weighPart 35 = .ok (.iload 6, 2) := by decide +kernel
theorem dX4_weighPart_37 : decode cX4_weighPart 37 = .ok (.iaload, 1) := by decide +kernel
theorem dX4_weighPart_38 : decode cX4_weighPart 38 = .ok (.istore 7, 2) := by decide +kernel
theorem dX4_weighPart_40 : decode cX4_weighPart 40 = .ok (.lload_n 3, 1) := by decide +kernel
theorem dX4_weighPart_41 : decode cX4_weighPart 41 = .ok (.iload 7, 2) := by decide +kernel
theorem dX4_weighPart_43 : decode cX4_weighPart 43 = .ok (.lload_n 3, 1) := by decide +kernel
theorem dX4_weighPart_44 : decode cX4_weighPart 44 = .ok (.invokestatic 46, 3) := by decide +kernel
theorem dX4_weighPart_47 : decode cX4_weighPart 47 = .ok (.lor, 1) := by decide +kernel
theorem dX4_weighPart_48 : decode cX4_weighPart 48 = .ok (.lstore_n 3, 1) := by decide +kernel
theorem dX4_weighPart_49 : decode cX4_weighPart 49 = .ok (.iload 5, 2) := by decide +kernel
theorem dX4_weighPart_51 : decode cX4_weighPart 51 = .ok (.aload_n 0, 1) := by decide +kernel
theorem dX4_weighPart_52 : decode cX4_weighPart 52 = .ok (.iload 6, 2) := by decide +kernel
theorem dX4_weighPart_54 : decode cX4_weighPart 54 = .ok (.iload 7, 2) := by decide +kernel
theorem dX4_weighPart_56 : decode cX4_weighPart 56 = .ok (.invokevirtual 50, 3) := by decide +kernel
theorem dX4_weighPart_59 : decode cX4_weighPart 59 = .ok (.iadd, 1) := by decide +kernel
theorem dX4_weighPart_60 : decode cX4_weighPart 60 = .ok (.istore 5, 2) := by decide +kernel
theorem dX4_weighPart_62 : decode cX4_weighPart 62 = .ok (.iinc 6 1, 3) := by decide +kernel
theorem dX4_weighPart_65 : decode cX4_weighPart 65 = .ok (.goto (-57), 3) := by decide +kernel
theorem dX4_weighPart_68 : decode cX4_weighPart 68 = .ok (.aload_n 0, 1) := by decide +kernel
theorem dX4_weighPart_69 : decode cX4_weighPart 69 = .ok (.getfield 21, 3) := by decide +kernel
theorem dX4_weighPart_72 : decode cX4_weighPart 72 = .ok (.iload_n 1, 1) := by decide +kernel
theorem dX4_weighPart_73 : decode cX4_weighPart 73 = .ok (.iconst 5, 1) := by decide +kernel
theorem dX4_weighPart_74 : decode cX4_weighPart 74 = .ok (.imul, 1) := by decide +kernel
theorem dX4_weighPart_75 : decode cX4_weighPart 75 = .ok (.iload_n 2, 1) := by decide +kernel
theorem dX4_weighPart_76 : decode cX4_weighPart 76 = .ok (.iadd, 1) := by decide +kernel
theorem dX4_weighPart_77 : decode cX4_weighPart 77 = .ok (.lload_n 3, 1) := by decide +kernel
theorem dX4_weighPart_78 : decode cX4_weighPart 78 = .ok (.lastore, 1) := by decide +kernel
theorem dX4_weighPart_79 : decode cX4_weighPart 79 = .ok (.aload_n 0, 1) := by decide +kernel
theorem dX4_weighPart_80 : decode cX4_weighPart 80 = .ok (.getfield 25, 3) := by decide +kernel
theorem dX4_weighPart_83 : decode cX4_weighPart 83 = .ok (.iload_n 1, 1) := by decide +kernel
theorem dX4_weighPart_84 : decode cX4_weighPart 84 = .ok (.iconst 5, 1) := by decide +kernel
theorem dX4_weighPart_85 : decode cX4_weighPart 85 = .ok (.imul, 1) := by decide +kernel
theorem dX4_weighPart_86 : decode cX4_weighPart 86 = .ok (.iload_n 2, 1) := by decide +kernel
theorem dX4_weighPart_87 : decode cX4_weighPart 87 = .ok (.iadd, 1) := by decide +kernel
theorem dX4_weighPart_88 : decode cX4_weighPart 88 = .ok (.iload 5, 2) := by decide +kernel
theorem dX4_weighPart_90 : decode cX4_weighPart 90 = .ok (.iastore, 1) := by decide +kernel
theorem dX4_weighPart_91 : decode cX4_weighPart 91 = .ok (.return_, 1) := by decide +kernel
theorem dX4_sumLeast_0 : decode cX4_sumLeast 0 = .ok (.aload_n 0, 1) := by decide +kernel
theorem dX4_sumLeast_1 : decode cX4_sumLeast 1 = .ok (.getfield 28, 3) := by decide +kernel
theorem dX4_sumLeast_4 : decode cX4_sumLeast 4 = .ok (.bipush 7, 2) := by decide +kernel
theorem dX4_sumLeast_6 : decode cX4_sumLeast 6 = .ok (.iconst 0, 1) := by decide +kernel
theorem dX4_sumLeast_7 : decode cX4_sumLeast 7 = .ok (.iastore, 1) := by decide +kernel
theorem dX4_sumLeast_8 : decode cX4_sumLeast 8 = .ok (.bipush 6, 2) := by decide +kernel
theorem dX4_sumLeast_10 : decode cX4_sumLeast 10 = .ok (.istore_n 1, 1) := by decide +kernel
theorem dX4_sumLeast_11 : decode cX4_sumLeast 11 = .ok (.iload_n 1, 1) := by decide +kernel
theorem dX4_sumLeast_12 : decode cX4_sumLeast 12 = .ok (.ifCond .lt 78, 3) := by decide +kernel
theorem dX4_sumLeast_15 : decode cX4_sumLeast 15 = .ok (.ldc 61, 2) := by decide +kernel
theorem dX4_sumLeast_17 : decode cX4_sumLeast 17 = .ok (.istore_n 2, 1) := by decide +kernel
theorem dX4_sumLeast_18 : decode cX4_sumLeast 18 = .ok (.iconst 0, 1) := by decide +kernel
theorem dX4_sumLeast_19 : decode cX4_sumLeast 19 = .ok (.istore_n 3, 1) := by decide +kernel
theorem dX4_sumLeast_20 : decode cX4_sumLeast 20 = .ok (.iload_n 3, 1) := by decide +kernel
theorem dX4_sumLeast_21 : decode cX4_sumLeast 21 = .ok (.iconst 5, 1) := by decide +kernel
theorem dX4_sumLeast_22 : decode cX4_sumLeast 22 = .ok (.if_icmp .ge 41, 3) := by decide +kernel
theorem dX4_sumLeast_25 : decode cX4_sumLeast 25 = .ok (.aload_n 0, 1) := by decide +kernel
theorem dX4_sumLeast_26 : decode cX4_sumLeast 26 = .ok (.getfield 21, 3) := by decide +kernel
theorem dX4_sumLeast_29 : decode cX4_sumLeast 29 = .ok (.iload_n 1, 1) := by decide +kernel
theorem dX4_sumLeast_30 : decode cX4_sumLeast 30 = .ok (.iconst 5, 1) := by decide +kernel
theorem dX4_sumLeast_31 : decode cX4_sumLeast 31 = .ok (.imul, 1) := by decide +kernel
theorem dX4_sumLeast_32 : decode cX4_sumLeast 32 = .ok (.iload_n 3, 1) := by decide +kernel
theorem dX4_sumLeast_33 : decode cX4_sumLeast 33 = .ok (.iadd, 1) := by decide +kernel
theorem dX4_sumLeast_34 : decode cX4_sumLeast 34 = .ok (.laload, 1) := by decide +kernel
theorem dX4_sumLeast_35 : decode cX4_sumLeast 35 = .ok (.lconst 1, 1) := by decide +kernel
theorem dX4_sumLeast_36 : decode cX4_sumLeast 36 = .ok (.land, 1) := by decide +kernel
theorem dX4_sumLeast_37 : decode cX4_sumLeast 37 = .ok (.lconst 0, 1) := by decide +kernel
theorem dX4_sumLeast_38 : decode cX4_sumLeast 38 = .ok (.lcmp, 1) := by decide +kernel
theorem dX4_sumLeast_39 : decode cX4_sumLeast 39 = .ok (.ifCond .ne 18, 3) := by decide +kernel
theorem dX4_sumLeast_42 : decode cX4_sumLeast 42 = .ok (.iload_n 2, 1) := by decide +kernel
theorem dX4_sumLeast_43 : decode cX4_sumLeast 43 = .ok (.aload_n 0, 1) := by decide +kernel
theorem dX4_sumLeast_44 : decode cX4_sumLeast 44 = .ok (.getfield 25, 3) := by decide +kernel
theorem dX4_sumLeast_47 : decode cX4_sumLeast 47 = .ok (.iload_n 1, 1) := by decide +kernel
theorem dX4_sumLeast_48 : decode cX4_sumLeast 48 = .ok (.iconst 5, 1) := by decide +kernel
theorem dX4_sumLeast_49 : decode cX4_sumLeast 49 = .ok (.imul, 1) := by decide +kernel
theorem dX4_sumLeast_50 : decode cX4_sumLeast 50 = .ok (.iload_n 3, 1) := by decide +kernel
theorem dX4_sumLeast_51 : decode cX4_sumLeast 51 = .ok (.iadd, 1) := by decide +kernel
theorem dX4_sumLeast_52 : decode cX4_sumLeast 52 = .ok (.iaload, 1) := by decide +kernel
theorem dX4_sumLeast_53 : decode cX4_sumLeast 53 = .ok (.invokestatic 73, 3) := by decide +kernel
theorem dX4_sumLeast_56 : decode cX4_sumLeast 56 = .ok (.istore_n 2, 1) := by decide +kernel
theorem dX4_sumLeast_57 : decode cX4_sumLeast 57 = .ok (.iinc 3 1, 3) := by decide +kernel
theorem dX4_sumLeast_60 : decode cX4_sumLeast 60 = .ok (.goto (-40), 3) := by decide +kernel
theorem dX4_sumLeast_63 : decode cX4_sumLeast 63 = .ok (.aload_n 0, 1) := by decide +kernel
theorem dX4_sumLeast_64 : decode cX4_sumLeast 64 = .ok (.getfield 28, 3) := by decide +kernel
theorem dX4_sumLeast_67 : decode cX4_sumLeast 67 = .ok (.iload_n 1, 1) := by decide +kernel
theorem dX4_sumLeast_68 : decode cX4_sumLeast 68 = .ok (.ldc 61, 2) := by decide +kernel
theorem dX4_sumLeast_70 : decode cX4_sumLeast 70 = .ok (.aload_n 0, 1) := by decide +kernel
theorem dX4_sumLeast_71 : decode cX4_sumLeast 71 = .ok (.getfield 28, 3) := by decide +kernel
theorem dX4_sumLeast_74 : decode cX4_sumLeast 74 = .ok (.iload_n 1, 1) := by decide +kernel
theorem dX4_sumLeast_75 : decode cX4_sumLeast 75 = .ok (.iconst 1, 1) := by decide +kernel
theorem dX4_sumLeast_76 : decode cX4_sumLeast 76 = .ok (.iadd, 1) := by decide +kernel
theorem dX4_sumLeast_77 : decode cX4_sumLeast 77 = .ok (.iaload, 1) := by decide +kernel
theorem dX4_sumLeast_78 : decode cX4_sumLeast 78 = .ok (.iload_n 2, 1) := by decide +kernel
theorem dX4_sumLeast_79 : decode cX4_sumLeast 79 = .ok (.iadd, 1) := by decide +kernel
theorem dX4_sumLeast_80 : decode cX4_sumLeast 80 = .ok (.invokestatic 73, 3) := by decide +kernel
theorem dX4_sumLeast_83 : decode cX4_sumLeast 83 = .ok (.iastore, 1) := by decide +kernel
theorem dX4_sumLeast_84 : decode cX4_sumLeast 84 = .ok (.iinc 1 (-1), 3) := by decide +kernel
theorem dX4_sumLeast_87 : decode cX4_sumLeast 87 = .ok (.goto (-76), 3) := by decide +kernel
theorem dX4_sumLeast_90 : decode cX4_sumLeast 90 = .ok (.return_, 1) := by decide +kernel
theorem dX4_search_0 : decode cX4_search 0 = .ok (.iload_n 1, 1) := by decide +kernel
theorem dX4_search_1 : decode cX4_search 1 = .ok (.bipush 7, 2) := by decide +kernel
theorem dX4_search_3 : decode cX4_search 3 = .ok (.if_icmp .lt 16, 3) := by decide +kernel
theorem dX4_search_6 : decode cX4_search 6 = .ok (.aload_n 0, 1) := by decide +kernel
theorem dX4_search_7 : decode cX4_search 7 = .ok (.iload 4, 2) := by decide +kernel
theorem dX4_search_9 : decode cX4_search 9 = .ok (.putfield 62, 3) := by decide +kernel
theorem dX4_search_12 : decode cX4_search 12 = .ok (.aload_n 0, 1) := by decide +kernel
theorem dX4_search_13 : decode cX4_search 13 = .ok (.iload 5, 2) := by decide +kernel
theorem dX4_search_15 : decode cX4_search 15 = .ok (.putfield 66, 3) := by decide +kernel
theorem dX4_search_18 : decode cX4_search 18 = .ok (.return_, 1) := by decide +kernel
theorem dX4_search_19 : decode cX4_search 19 = .ok (.iconst 0, 1) := by decide +kernel
theorem dX4_search_20 : decode cX4_search 20 = .ok (.istore 6, 2) := by decide +kernel
theorem dX4_search_22 : decode cX4_search 22 = .ok (.iload 6, 2) := by decide +kernel
theorem dX4_search_24 : decode cX4_search 24 = .ok (.iconst 5, 1) := by decide +kernel
theorem dX4_search_25 : decode cX4_search 25 = .ok (.if_icmp .ge 96, 3) := by decide +kernel
theorem dX4_search_28 : decode cX4_search 28 = .ok (.aload_n 0, 1) := by decide +kernel
theorem dX4_search_29 : decode cX4_search 29 = .ok (.getfield 21, 3) := by decide +kernel
theorem dX4_search_32 : decode cX4_search 32 = .ok (.iload_n 1, 1) := by decide +kernel
theorem dX4_search_33 : decode cX4_search 33 = .ok (.iconst 5, 1) := by decide +kernel
theorem dX4_search_34 : decode cX4_search 34 = .ok (.imul, 1) := by decide +kernel
theorem dX4_search_35 : decode cX4_search 35 = .ok (.iload 6, 2) := by decide +kernel
theorem dX4_search_37 : decode cX4_search 37 = .ok (.iadd, 1) := by decide +kernel
theorem dX4_search_38 : decode cX4_search 38 = .ok (.laload, 1) := by decide +kernel
theorem dX4_search_39 : decode cX4_search 39 = .ok (.lstore 7, 2) := by decide +kernel
theorem dX4_search_41 : decode cX4_search 41 = .ok (.iload 4, 2) := by decide +kernel
theorem dX4_search_43 : decode cX4_search 43 = .ok (.aload_n 0, 1) := by decide +kernel
theorem dX4_search_44 : decode cX4_search 44 = .ok (.getfield 25, 3) := by decide +kernel
theorem dX4_search_47 : decode cX4_search 47 = .ok (.iload_n 1, 1) := by decide +kernel
theorem dX4_search_48 : decode cX4_search 48 = .ok (.iconst 5, 1) := by decide +kernel
theorem dX4_search_49 : decode cX4_search 49 = .ok (.imul, 1) := by decide +kernel
theorem dX4_search_50 : decode cX4_search 50 = .ok (.iload 6, 2) := by decide +kernel
theorem dX4_search_52 : decode cX4_search 52 = .ok (.iadd, 1) := by decide +kernel
theorem dX4_search_53 : decode cX4_search 53 = .ok (.iaload, 1) := by decide +kernel
theorem dX4_search_54 : decode cX4_search 54 = .ok (.iadd, 1) := by decide +kernel
theorem dX4_search_55 : decode cX4_search 55 = .ok (.istore 9, 2) := by decide +kernel
theorem dX4_search_57 : decode cX4_search 57 = .ok (.lload 7, 2) := by decide +kernel
theorem dX4_search_59 : decode cX4_search 59 = .ok (.lload_n 2, 1) := by decide +kernel
theorem dX4_search_60 : decode cX4_search 60 = .ok (.lconst 1, 1) := by decide +kernel
theorem dX4_search_61 : decode cX4_search 61 = .ok (.lor, 1) := by decide +kernel
theorem dX4_search_62 : decode cX4_search 62 = .ok (.land, 1) := by decide +kernel
theorem dX4_search_63 : decode cX4_search 63 = .ok (.lconst 0, 1) := by decide +kernel
theorem dX4_search_64 : decode cX4_search 64 = .ok (.lcmp, 1) := by decide +kernel
theorem dX4_search_65 : decode cX4_search 65 = .ok (.ifCond .ne 42, 3) := by decide +kernel
theorem dX4_search_68 : decode cX4_search 68 = .ok (.iload 9, 2) := by decide +kernel
theorem dX4_search_70 : decode cX4_search 70 = .ok (.aload_n 0, 1) := by decide +kernel
theorem dX4_search_71 : decode cX4_search 71 = .ok (.getfield 28, 3) := by decide +kernel
theorem dX4_search_74 : decode cX4_search 74 = .ok (.iload_n 1, 1) := by decide +kernel
theorem dX4_search_75 : decode cX4_search 75 = .ok (.iconst 1, 1) := by decide +kernel
theorem dX4_search_76 : decode cX4_search 76 = .ok (.iadd, 1) := by decide +kernel
theorem dX4_search_77 : decode cX4_search 77 = .ok (.iaload, 1) := by decide +kernel
theorem dX4_search_78 : decode cX4_search 78 = .ok (.iadd, 1) := by decide +kernel
theorem dX4_search_79 : decode cX4_search 79 = .ok (.aload_n 0, 1) := by decide +kernel
theorem dX4_search_80 : decode cX4_search 80 = .ok (.getfield 62, 3) := by decide +kernel
theorem dX4_search_83 : decode cX4_search 83 = .ok (.if_icmp .ge 24, 3) := by decide +kernel
theorem dX4_search_86 : decode cX4_search 86 = .ok (.aload_n 0, 1) := by decide +kernel
theorem dX4_search_87 : decode cX4_search 87 = .ok (.iload_n 1, 1) := by decide +kernel
theorem dX4_search_88 : decode cX4_search 88 = .ok (.iconst 1, 1) := by decide +kernel
theorem dX4_search_89 : decode cX4_search 89 = .ok (.iadd, 1) := by decide +kernel
theorem dX4_search_90 : decode cX4_search 90 = .ok (.lload_n 2, 1) := by decide +kernel
theorem dX4_search_91 : decode cX4_search 91 = .ok (.lload 7, 2) := by decide +kernel
theorem dX4_search_93 : decode cX4_search 93 = .ok (.lor, 1) := by decide +kernel
theorem dX4_search_94 : decode cX4_search 94 = .ok (.iload 9, 2) := by decide +kernel
theorem dX4_search_96 : decode cX4_search 96 = .ok (.iload 5, 2) := by decide +kernel
theorem dX4_search_98 : decode cX4_search 98 = .ok (.bipush 10, 2) := by decide +kernel
theorem dX4_search_100 : decode cX4_search 100 = .ok (.imul, 1) := by decide +kernel
theorem dX4_search_101 : decode cX4_search 101 = .ok (.iload 6, 2) := by decide +kernel
theorem dX4_search_103 : decode cX4_search 103 = .ok (.iadd, 1) := by decide +kernel
theorem dX4_search_104 : decode cX4_search 104 = .ok (.invokevirtual 69, 3) := by decide +kernel
theorem dX4_search_107 : decode cX4_search 107 = .ok (.lload 7, 2) := by decide +kernel
theorem dX4_search_109 : decode cX4_search 109 = .ok (.lconst 0, 1) := by decide +kernel
theorem dX4_search_110 : decode cX4_search 110 = .ok (.lcmp, 1) := by decide +kernel
theorem dX4_search_111 : decode cX4_search 111 = .ok (.ifCond .ne 4, 3) := by decide +kernel
theorem dX4_search_114 : decode cX4_search 114 = .ok (.return_, 1) := by decide +kernel
theorem dX4_search_115 : decode cX4_search 115 = .ok (.iinc 6 1, 3) := by decide +kernel
theorem dX4_search_118 : decode cX4_search 118 = .ok (.goto (-96), 3) := by decide +kernel
theorem dX4_search_121 : decode cX4_search 121 = .ok (.return_, 1) := by decide +kernel
theorem dX5_init_0 : decode cX5_init 0 = .ok (.aload_n 0, 1) := by decide +kernel
theorem dX5_init_1 : decode cX5_init 1 = .ok (.invokespecial 3, 3) := by decide +kernel
theorem dX5_init_4 : decode cX5_init 4 = .ok (.aload_n 0, 1) := by decide +kernel
theorem dX5_init_5 : decode cX5_init 5 = .ok (.iload_n 1, 1) := by decide +kernel
theorem dX5_init_6 : decode cX5_init 6 = .ok (.iconst 0, 1) := by decide +kernel
theorem dX5_init_7 : decode cX5_init 7 = .ok (.invokestatic 9, 3) := by decide +kernel
theorem dX5_init_10 : decode cX5_init 10 = .ok (.newarray .int, 2) := by decide +kernel
theorem dX5_init_12 : decode cX5_init 12 = .ok (.putfield 15, 3) := by decide +kernel
theorem dX5_init_15 : decode cX5_init 15 = .ok (.aload_n 0, 1) := by decide +kernel
theorem dX5_init_16 : decode cX5_init 16 = .ok (.iconst 0, 1) := by decide +kernel
theorem dX5_init_17 : decode cX5_init 17 = .ok (.putfield 21, 3) := by decide +kernel
theorem dX5_init_20 : decode cX5_init 20 = .ok (.return_, 1) := by decide +kernel
theorem dX5_isFull_0 : decode cX5_isFull 0 = .ok (.aload_n 0, 1) := by decide +kernel
theorem dX5_isFull_1 : decode cX5_isFull 1 = .ok (.getfield 21, 3) := by decide +kernel
theorem dX5_isFull_4 : decode cX5_isFull 4 = .ok (.aload_n 0, 1) := by decide +kernel
theorem dX5_isFull_5 : decode cX5_isFull 5 = .ok (.getfield 15, 3) := by decide +kernel
theorem dX5_isFull_8 : decode cX5_isFull 8 = .ok (.arraylength, 1) := by decide +kernel
theorem dX5_isFull_9 : decode cX5_isFull 9 = .ok (.if_icmp .lt 7, 3) := by decide +kernel
theorem dX5_isFull_12 : decode cX5_isFull 12 = .ok (.iconst 1, 1) := by decide +kernel
theorem dX5_isFull_13 : decode cX5_isFull 13 = .ok (.goto 4, 3) := by decide +kernel
theorem dX5_isFull_16 : decode cX5_isFull 16 = .ok (.iconst 0, 1) := by decide +kernel
theorem dX5_isFull_17 : decode cX5_isFull 17 = .ok (.ireturn, 1) := by decide +kernel
theorem dX5_add_0 : decode cX5_add 0 = .ok (.aload_n 0, 1) := by decide +kernel
theorem dX5_add_1 : decode cX5_add 1 = .ok (.getfield 21, 3) := by decide +kernel
theorem dX5_add_4 : decode cX5_add 4 = .ok (.aload_n 0, 1) := by decide +kernel
theorem dX5_add_5 : decode cX5_add 5 = .ok (.getfield 15, 3) := by decide +kernel
theorem dX5_add_8 : decode cX5_add 8 = .ok (.arraylength, 1) := by decide +kernel
theorem dX5_add_9 : decode cX5_add 9 = .ok (.if_icmp .ge 23, 3) := by decide +kernel
theorem dX5_add_12 : decode cX5_add 12 = .ok (.aload_n 0, 1) := by decide +kernel
theorem dX5_add_13 : decode cX5_add 13 = .ok (.getfield 15, 3) := by decide +kernel
theorem dX5_add_16 : decode cX5_add 16 = .ok (.aload_n 0, 1) := by decide +kernel
theorem dX5_add_17 : decode cX5_add 17 = .ok (.getfield 21, 3) := by decide +kernel
theorem dX5_add_20 : decode cX5_add 20 = .ok (.iload_n 1, 1) := by decide +kernel
theorem dX5_add_21 : decode cX5_add 21 = .ok (.iastore, 1) := by decide +kernel
theorem dX5_add_22 : decode cX5_add 22 = .ok (.aload_n 0, 1) := by decide +kernel
theorem dX5_add_23 : decode cX5_add 23 = .ok (.dup, 1) := by decide +kernel
theorem dX5_add_24 : decode cX5_add 24 = .ok (.getfield 21, 3) := by decide +kernel
theorem dX5_add_27 : decode cX5_add 27 = .ok (.iconst 1, 1) := by decide +kernel
theorem dX5_add_28 : decode cX5_add 28 = .ok (.iadd, 1) := by decide +kernel
theorem dX5_add_29 : decode cX5_add 29 = .ok (.putfield 21, 3) := by decide +kernel
theorem dX5_add_32 : decode cX5_add 32 = .ok (.aload_n 0, 1) := by decide +kernel
theorem dX5_add_33 : decode cX5_add 33 = .ok (.getfield 21, 3) := by decide +kernel
theorem dX5_add_36 : decode cX5_add 36 = .ok (.ireturn, 1) := by decide +kernel
theorem dX5_empty_0 : decode cX5_empty 0 = .ok (.aload_n 0, 1) := by decide +kernel
theorem dX5_empty_1 : decode cX5_empty 1 = .ok (.getfield 21, 3) := by decide +kernel
theorem dX5_empty_4 : decode cX5_empty 4 = .ok (.istore_n 1, 1) := by decide +kernel
theorem dX5_empty_5 : decode cX5_empty 5 = .ok (.aload_n 0, 1) := by decide +kernel
theorem dX5_empty_6 : decode cX5_empty 6 = .ok (.iconst 0, 1) := by decide +kernel
theorem dX5_empty_7 : decode cX5_empty 7 = .ok (.putfield 21, 3) := by decide +kernel
theorem dX5_empty_10 : decode cX5_empty 10 = .ok (.iload_n 1, 1) := by decide +kernel
theorem dX5_empty_11 : decode cX5_empty 11 = .ok (.ireturn, 1) := by decide +kernel
theorem dX5_at_0 : decode cX5_at 0 = .ok (.iload_n 1, 1) := by decide +kernel
theorem dX5_at_1 : decode cX5_at 1 = .ok (.ifCond .lt 20, 3) := by decide +kernel
theorem dX5_at_4 : decode cX5_at 4 = .ok (.iload_n 1, 1) := by decide +kernel
theorem dX5_at_5 : decode cX5_at 5 = .ok (.aload_n 0, 1) := by decide +kernel
theorem dX5_at_6 : decode cX5_at 6 = .ok (.getfield 21, 3) := by decide +kernel
theorem dX5_at_9 : decode cX5_at 9 = .ok (.if_icmp .ge 12, 3) := by decide +kernel
theorem dX5_at_12 : decode cX5_at 12 = .ok (.aload_n 0, 1) := by decide +kernel
theorem dX5_at_13 : decode cX5_at 13 = .ok (.getfield 15, 3) := by decide +kernel
theorem dX5_at_16 : decode cX5_at 16 = .ok (.iload_n 1, 1) := by decide +kernel
theorem dX5_at_17 : decode cX5_at 17 = .ok (.iaload, 1) := by decide +kernel
theorem dX5_at_18 : decode cX5_at 18 = .ok (.goto 5, 3) := by decide +kernel
theorem dX5_at_21 : decode cX5_at 21 = .ok (.bipush (-6), 2) := by decide +kernel
theorem dX5_at_23 : decode cX5_at 23 = .ok (.ireturn, 1) := by decide +kernel
theorem dX6_init_0 : decode cX6_init 0 = .ok (.aload_n 0, 1) := by decide +kernel
theorem dX6_init_1 : decode cX6_init 1 = .ok (.invokespecial 3, 3) := by decide +kernel
theorem dX6_init_4 : decode cX6_init 4 = .ok (.aload_n 0, 1) := by decide +kernel
theorem dX6_init_5 : decode cX6_init 5 = .ok (.iconst 5, 1) := by decide +kernel
theorem dX6_init_6 : decode cX6_init 6 = .ok (.newarray .int, 2) := by decide +kernel
theorem dX6_init_8 : decode cX6_init 8 = .ok (.putfield 9, 3) := by decide +kernel
theorem dX6_init_11 : decode cX6_init 11 = .ok (.return_, 1) := by decide +kernel
theorem dX6_ownCode_0 : decode cX6_ownCode 0 = .ok (.bipush (-6), 2) := by decide +kernel
theorem dX6_ownCode_2 : decode cX6_ownCode 2 = .ok (.istore_n 1, 1) := by decide +kernel
theorem dX6_ownCode_3 : decode cX6_ownCode 3 = .ok (.iconst 0, 1) := by decide +kernel
theorem dX6_ownCode_4 : decode cX6_ownCode 4 = .ok (.istore_n 2, 1) := by decide +kernel
theorem dX6_ownCode_5 : decode cX6_ownCode 5 = .ok (.iconst 0, 1) := by decide +kernel
theorem dX6_ownCode_6 : decode cX6_ownCode 6 = .ok (.istore_n 3, 1) := by decide +kernel
theorem dX6_ownCode_7 : decode cX6_ownCode 7 = .ok (.iload_n 3, 1) := by decide +kernel
theorem dX6_ownCode_8 : decode cX6_ownCode 8 = .ok (.iconst 5, 1) := by decide +kernel
theorem dX6_ownCode_9 : decode cX6_ownCode 9 = .ok (.if_icmp .ge 28, 3) := by decide +kernel
theorem dX6_ownCode_12 : decode cX6_ownCode 12 = .ok (.aload_n 0, 1) := by decide +kernel
theorem dX6_ownCode_13 : decode cX6_ownCode 13 = .ok (.getfield 9, 3) := by decide +kernel
theorem dX6_ownCode_16 : decode cX6_ownCode 16 = .ok (.iload_n 3, 1) := by decide +kernel
theorem dX6_ownCode_17 : decode cX6_ownCode 17 = .ok (.iaload, 1) := by decide +kernel
theorem dX6_ownCode_18 : decode cX6_ownCode 18 = .ok (.iload_n 2, 1) := by decide +kernel
theorem dX6_ownCode_19 : decode cX6_ownCode 19 = .ok (.if_icmp .le 12, 3) := by decide +kernel
theorem dX6_ownCode_22 : decode cX6_ownCode 22 = .ok (.aload_n 0, 1) := by decide +kernel
theorem dX6_ownCode_23 : decode cX6_ownCode 23 = .ok (.getfield 9, 3) := by decide +kernel
theorem dX6_ownCode_26 : decode cX6_ownCode 26 = .ok (.iload_n 3, 1) := by decide +kernel
theorem dX6_ownCode_27 : decode cX6_ownCode 27 = .ok (.iaload, 1) := by decide +kernel
theorem dX6_ownCode_28 : decode cX6_ownCode 28 = .ok (.istore_n 2, 1) := by decide +kernel
theorem dX6_ownCode_29 : decode cX6_ownCode 29 = .ok (.iload_n 3, 1) := by decide +kernel
theorem dX6_ownCode_30 : decode cX6_ownCode 30 = .ok (.istore_n 1, 1) := by decide +kernel
theorem dX6_ownCode_31 : decode cX6_ownCode 31 = .ok (.iinc 3 1, 3) := by decide +kernel
theorem dX6_ownCode_34 : decode cX6_ownCode 34 = .ok (.goto (-27), 3) := by decide +kernel
theorem dX6_ownCode_37 : decode cX6_ownCode 37 = .ok (.iload_n 1, 1) := by decide +kernel
theorem dX6_ownCode_38 : decode cX6_ownCode 38 = .ok (.ireturn, 1) := by decide +kernel
theorem dX6_mostYears_0 : decode cX6_mostYears 0 = .ok (.iconst 0, 1) := by decide +kernel
theorem dX6_mostYears_1 : decode cX6_mostYears 1 = .ok (.istore_n 1, 1) := by decide +kernel
theorem dX6_mostYears_2 : decode cX6_mostYears 2 = .ok (.iconst 0, 1) := by decide +kernel
theorem dX6_mostYears_3 : decode cX6_mostYears 3 = .ok (.istore_n 2, 1) := by decide +kernel
theorem dX6_mostYears_4 : decode cX6_mostYears 4 = .ok (.iload_n 2, 1) := by decide +kernel
theorem dX6_mostYears_5 : decode cX6_mostYears 5 = .ok (.iconst 5, 1) := by decide +kernel
theorem dX6_mostYears_6 : decode cX6_mostYears 6 = .ok (.if_icmp .ge 20, 3) := by decide +kernel
theorem dX6_mostYears_9 : decode cX6_mostYears 9 = .ok (.iload_n 1, 1) := by decide +kernel
theorem dX6_mostYears_10 : decode cX6_mostYears 10 = .ok (.aload_n 0, 1) := by decide +kernel
theorem dX6_mostYears_11 : decode cX6_mostYears 11 = .ok (.getfield 9, 3) := by decide +kernel
theorem dX6_mostYears_14 : decode cX6_mostYears 14 = .ok (.iload_n 2, 1) := by decide +kernel
theorem dX6_mostYears_15 : decode cX6_mostYears 15 = .ok (.iaload, 1) := by decide +kernel
theorem dX6_mostYears_16 : decode cX6_mostYears 16 = .ok (.invokestatic 15, 3) := by decide +kernel
theorem dX6_mostYears_19 : decode cX6_mostYears 19 = .ok (.istore_n 1, 1) := by decide +kernel
theorem dX6_mostYears_20 : decode cX6_mostYears 20 = .ok (.iinc 2 1, 3) := by decide +kernel
theorem dX6_mostYears_23 : decode cX6_mostYears 23 = .ok (.goto (-19), 3) := by decide +kernel
theorem dX6_mostYears_26 : decode cX6_mostYears 26 = .ok (.iload_n 1, 1) := by decide +kernel
theorem dX6_mostYears_27 : decode cX6_mostYears 27 = .ok (.ireturn, 1) := by decide +kernel
theorem dX6_knownCodes_0 : decode cX6_knownCodes 0 = .ok (.iconst 0, 1) := by decide +kernel
theorem dX6_knownCodes_1 : decode cX6_knownCodes 1 = .ok (.istore_n 1, 1) := by decide +kernel
theorem dX6_knownCodes_2 : decode cX6_knownCodes 2 = .ok (.iconst 0, 1) := by decide +kernel
theorem dX6_knownCodes_3 : decode cX6_knownCodes 3 = .ok (.istore_n 2, 1) := by decide +kernel
theorem dX6_knownCodes_4 : decode cX6_knownCodes 4 = .ok (.iload_n 2, 1) := by decide +kernel
theorem dX6_knownCodes_5 : decode cX6_knownCodes 5 = .ok (.iconst 5, 1) := by decide +kernel
theorem dX6_knownCodes_6 : decode cX6_knownCodes 6 = .ok (.if_icmp .ge 28, 3) := by decide +kernel
theorem dX6_knownCodes_9 : decode cX6_knownCodes 9 = .ok (.iload_n 1, 1) := by decide +kernel
theorem dX6_knownCodes_10 : decode cX6_knownCodes 10 = .ok (.aload_n 0, 1) := by decide +kernel
theorem dX6_knownCodes_11 : decode cX6_knownCodes 11 = .ok (.getfield 9, 3) := by decide +kernel
theorem dX6_knownCodes_14 : decode cX6_knownCodes 14 = .ok (.iload_n 2, 1) := by decide +kernel
theorem dX6_knownCodes_15 : decode cX6_knownCodes 15 = .ok (.iaload, 1) := by decide +kernel
theorem dX6_knownCodes_16 : decode cX6_knownCodes 16 = .ok (.ifCond .le 9, 3) := by decide +kernel
theorem dX6_knownCodes_19 : decode cX6_knownCodes 19 = .ok (.iconst 1, 1) := by decide +kernel
theorem dX6_knownCodes_20 : decode cX6_knownCodes 20 = .ok (.iload_n 2, 1) := by decide +kernel
theorem dX6_knownCodes_21 : decode cX6_knownCodes 21 = .ok (.ishl, 1) := by decide +kernel
theorem dX6_knownCodes_22 : decode cX6_knownCodes 22 = .ok (.goto 4, 3) := by decide +kernel
theorem dX6_knownCodes_25 : decode cX6_knownCodes 25 = .ok (.iconst 0, 1) := by decide +kernel
theorem dX6_knownCodes_26 : decode cX6_knownCodes 26 = .ok (.ior, 1) := by decide +kernel
theorem dX6_knownCodes_27 : decode cX6_knownCodes 27 = .ok (.istore_n 1, 1) := by decide +kernel
theorem dX6_knownCodes_28 : decode cX6_knownCodes 28 = .ok (.iinc 2 1, 3) := by decide +kernel
theorem dX6_knownCodes_31 : decode cX6_knownCodes 31 = .ok (.goto (-27), 3) := by decide +kernel
theorem dX6_knownCodes_34 : decode cX6_knownCodes 34 = .ok (.iload_n 1, 1) := by decide +kernel
theorem dX6_knownCodes_35 : decode cX6_knownCodes 35 = .ok (.ireturn, 1) := by decide +kernel
theorem dX7_faultOf_0 : decode cX7_faultOf 0 = .ok (.iconst 0, 1) := by decide +kernel
theorem dX7_faultOf_1 : decode cX7_faultOf 1 = .ok (.istore_n 1, 1) := by decide +kernel
theorem dX7_faultOf_2 : decode cX7_faultOf 2 = .ok (.iconst 0, 1) := by decide +kernel
theorem dX7_faultOf_3 : decode cX7_faultOf 3 = .ok (.istore_n 2, 1) := by decide +kernel
theorem dX7_faultOf_4 : decode cX7_faultOf 4 = .ok (.iload_n 2, 1) := by decide +kernel
theorem dX7_faultOf_5 : decode cX7_faultOf 5 = .ok (.aload_n 0, 1) := by decide +kernel
theorem dX7_faultOf_6 : decode cX7_faultOf 6 = .ok (.getfield 11, 3) := by decide +kernel
theorem dX7_faultOf_9 : decode cX7_faultOf 9 = .ok (.if_icmp .ge 27, 3) := by decide +kernel
theorem dX7_faultOf_12 : decode cX7_faultOf 12 = .ok (.iload_n 1, 1) := by decide +kernel
theorem dX7_faultOf_13 : decode cX7_faultOf 13 = .ok (.aload_n 0, 1) := by decide +kernel
theorem dX7_faultOf_14 : decode cX7_faultOf 14 = .ok (.iload_n 2, 1) := by decide +kernel
theorem dX7_faultOf_15 : decode cX7_faultOf 15 = .ok (.invokevirtual 17, 3) := by decide +kernel
theorem dX7_faultOf_18 : decode cX7_faultOf 18 = .ok (.invokestatic 21, 3) := by decide +kernel
theorem dX7_faultOf_21 : decode cX7_faultOf 21 = .ok (.istore_n 1, 1) := by decide +kernel
theorem dX7_faultOf_22 : decode cX7_faultOf 22 = .ok (.iload_n 1, 1) := by decide +kernel
theorem dX7_faultOf_23 : decode cX7_faultOf 23 = .ok (.bipush (-6), 2) := by decide +kernel
theorem dX7_faultOf_25 : decode cX7_faultOf 25 = .ok (.if_icmp .ne 5, 3) := by decide +kernel
theorem dX7_faultOf_28 : decode cX7_faultOf 28 = .ok (.iload_n 2, 1) := by decide +kernel
theorem dX7_faultOf_29 : decode cX7_faultOf 29 = .ok (.ireturn, 1) := by decide +kernel
theorem dX7_faultOf_30 : decode cX7_faultOf 30 = .ok (.iinc 2 1, 3) := by decide +kernel
theorem dX7_faultOf_33 : decode cX7_faultOf 33 = .ok (.goto (-29), 3) := by decide +kernel
theorem dX7_faultOf_36 : decode cX7_faultOf 36 = .ok (.iload_n 1, 1) := by decide +kernel
theorem dX7_faultOf_37 : decode cX7_faultOf 37 = .ok (.iconst 3, 1) := by decide +kernel
theorem dX7_faultOf_38 : decode cX7_faultOf 38 = .ok (.if_icmp .lt 8, 3) := by decide +kernel
theorem dX7_faultOf_41 : decode cX7_faultOf 41 = .ok (.bipush (-6), 2) := by decide +kernel
theorem dX7_faultOf_43 : decode cX7_faultOf 43 = .ok (.goto 7, 3) := by decide +kernel
theorem dX7_faultOf_46 : decode cX7_faultOf 46 = .ok (.aload_n 0, 1) := by decide +kernel
theorem dX7_faultOf_47 : decode cX7_faultOf 47 = .ok (.getfield 11, 3) := by decide +kernel
theorem dX7_faultOf_50 : decode cX7_faultOf 50 = .ok (.ireturn, 1) := by decide +kernel
theorem dX7_stateAfter_0 : decode cX7_stateAfter 0 = .ok (.iload_n 0, 1) := by decide +kernel
theorem dX7_stateAfter_1 : decode cX7_stateAfter 1 = .ok (.ifCond .ne 17, 3) := by decide +kernel
theorem dX7_stateAfter_4 : decode cX7_stateAfter 4 = .ok (.iload_n 1, 1) := by decide +kernel
theorem dX7_stateAfter_5 : decode cX7_stateAfter 5 = .ok (.invokestatic 25, 3) := by decide +kernel
theorem dX7_stateAfter_8 : decode cX7_stateAfter 8 = .ok (.ifCond .eq 7, 3) := by decide +kernel
theorem dX7_stateAfter_11 : decode cX7_stateAfter 11 = .ok (.iconst 1, 1) := by decide +kernel
theorem dX7_stateAfter_12 : decode cX7_stateAfter 12 = .ok (.goto 5, 3) := by decide +kernel
theorem dX7_stateAfter_15 : decode cX7_stateAfter 15 = .ok (.bipush (-6), 2) := by decide +kernel
theorem dX7_stateAfter_17 : decode cX7_stateAfter 17 = .ok (.ireturn, 1) := by decide +kernel
theorem dX7_stateAfter_18 : decode cX7_stateAfter 18 = .ok (.iload_n 0, 1) := by decide +kernel
theorem dX7_stateAfter_19 : decode cX7_stateAfter 19 = .ok (.iconst 1, 1) := by decide +kernel
theorem dX7_stateAfter_20 : decode cX7_stateAfter 20 = .ok (.if_icmp .ne 17, 3) := by decide +kernel
theorem dX7_stateAfter_23 : decode cX7_stateAfter 23 = .ok (.iload_n 1, 1) := by decide +kernel
theorem dX7_stateAfter_24 : decode cX7_stateAfter 24 = .ok (.invokestatic 29, 3) := by decide +kernel
theorem dX7_stateAfter_27 : decode cX7_stateAfter 27 = .ok (.ifCond .eq 7, 3) := by decide +kernel
theorem dX7_stateAfter_30 : decode cX7_stateAfter 30 = .ok (.iconst 2, 1) := by decide +kernel
theorem dX7_stateAfter_31 : decode cX7_stateAfter 31 = .ok (.goto 5, 3) := by decide +kernel
theorem dX7_stateAfter_34 : decode cX7_stateAfter 34 = .ok (.bipush (-6), 2) := by decide +kernel
theorem dX7_stateAfter_36 : decode cX7_stateAfter 36 = .ok (.ireturn, 1) := by decide +kernel
theorem dX7_stateAfter_37 : decode cX7_stateAfter 37 = .ok (.iload_n 1, 1) := by decide +kernel
theorem dX7_stateAfter_38 : decode cX7_stateAfter 38 = .ok (.invokestatic 32, 3) := by decide +kernel
theorem dX7_stateAfter_41 : decode cX7_stateAfter 41 = .ok (.ifCond .eq 17, 3) := by decide +kernel
theorem dX7_stateAfter_44 : decode cX7_stateAfter 44 = .ok (.iload_n 0, 1) := by decide +kernel
theorem dX7_stateAfter_45 : decode cX7_stateAfter 45 = .ok (.iconst 5, 1) := by decide +kernel
theorem dX7_stateAfter_46 : decode cX7_stateAfter 46 = .ok (.if_icmp .ge 9, 3) := by decide +kernel
theorem dX7_stateAfter_49 : decode cX7_stateAfter 49 = .ok (.iload_n 0, 1) := by decide +kernel
theorem dX7_stateAfter_50 : decode cX7_stateAfter 50 = .ok (.iconst 1, 1) := by decide +kernel
theorem dX7_stateAfter_51 : decode cX7_stateAfter 51 = .ok (.iadd, 1) := by decide +kernel
theorem dX7_stateAfter_52 : decode cX7_stateAfter 52 = .ok (.goto 5, 3) := by decide +kernel
theorem dX7_stateAfter_55 : decode cX7_stateAfter 55 = .ok (.bipush (-6), 2) := by decide +kernel
theorem dX7_stateAfter_57 : decode cX7_stateAfter 57 = .ok (.ireturn, 1) := by decide +kernel
theorem dX7_stateAfter_58 : decode cX7_stateAfter 58 = .ok (.iload_n 0, 1) := by decide +kernel
theorem dX7_stateAfter_59 : decode cX7_stateAfter 59 = .ok (.iconst 3, 1) := by decide +kernel
theorem dX7_stateAfter_60 : decode cX7_stateAfter 60 = .ok (.if_icmp .lt 14, 3) := by decide +kernel
theorem dX7_stateAfter_63 : decode cX7_stateAfter 63 = .ok (.iload_n 1, 1) := by decide +kernel
theorem dX7_stateAfter_64 : decode cX7_stateAfter 64 = .ok (.invokestatic 35, 3) := by decide +kernel
theorem dX7_stateAfter_67 : decode cX7_stateAfter 67 = .ok (.ifCond .eq 7, 3) := by decide +kernel
theorem dX7_stateAfter_70 : decode cX7_stateAfter 70 = .ok (.iconst 0, 1) := by decide +kernel
theorem dX7_stateAfter_71 : decode cX7_stateAfter 71 = .ok (.goto 5, 3) := by decide +kernel
theorem dX7_stateAfter_74 : decode cX7_stateAfter 74 = .ok (.bipush (-6), 2) := by decide +kernel
theorem dX7_stateAfter_76 : decode cX7_stateAfter 76 = .ok (.ireturn, 1) := by decide +kernel
theorem dX7_isSubject_0 : decode cX7_isSubject 0 = .ok (.iload_n 0, 1) := by decide +kernel
theorem dX7_isSubject_1 : decode cX7_isSubject 1 = .ok (.bipush 97, 2) := by decide +kernel
theorem dX7_isSubject_3 : decode cX7_isSubject 3 = .ok (.if_icmp .eq 21, 3) := by decide +kernel
theorem dX7_isSubject_6 : decode cX7_isSubject 6 = .ok (.iload_n 0, 1) := by decide +kernel
theorem dX7_isSubject_7 : decode cX7_isSubject 7 = .ok (.bipush 121, 2) := by decide +kernel
theorem dX7_isSubject_9 : decode cX7_isSubject 9 = .ok (.if_icmp .eq 15, 3) := by decide +kernel
theorem dX7_isSubject_12 : decode cX7_isSubject 12 = .ok (.iload_n 0, 1) := by decide +kernel
theorem dX7_isSubject_13 : decode cX7_isSubject 13 = .ok (.bipush 107, 2) := by decide +kernel
theorem dX7_isSubject_15 : decode cX7_isSubject 15 = .ok (.if_icmp .eq 9, 3) := by decide +kernel
theorem dX7_isSubject_18 : decode cX7_isSubject 18 = .ok (.iload_n 0, 1) := by decide +kernel
theorem dX7_isSubject_19 : decode cX7_isSubject 19 = .ok (.bipush 115, 2) := by decide +kernel
theorem dX7_isSubject_21 : decode cX7_isSubject 21 = .ok (.if_icmp .ne 7, 3) := by decide +kernel
theorem dX7_isSubject_24 : decode cX7_isSubject 24 = .ok (.iconst 1, 1) := by decide +kernel
theorem dX7_isSubject_25 : decode cX7_isSubject 25 = .ok (.goto 4, 3) := by decide +kernel
theorem dX7_isSubject_28 : decode cX7_isSubject 28 = .ok (.iconst 0, 1) := by decide +kernel
theorem dX7_isSubject_29 : decode cX7_isSubject 29 = .ok (.ireturn, 1) := by decide +kernel
theorem dX7_isComparison_0 : decode cX7_isComparison 0 = .ok (.iload_n 0, 1) := by decide +kernel
theorem dX7_isComparison_1 : decode cX7_isComparison 1 = .ok (.bipush 60, 2) := by decide +kernel
theorem dX7_isComparison_3 : decode cX7_isComparison 3 = .ok (.if_icmp .eq 15, 3) := by decide +kernel
theorem dX7_isComparison_6 : decode cX7_isComparison 6 = .ok (.iload_n 0, 1) := by decide +kernel
theorem dX7_isComparison_7 : decode cX7_isComparison 7 = .ok (.bipush 62, 2) := by decide +kernel
theorem dX7_isComparison_9 : decode cX7_isComparison 9 = .ok (.if_icmp .eq 9, 3) := by decide +kernel
theorem dX7_isComparison_12 : decode cX7_isComparison 12 = .ok (.iload_n 0, 1) := by decide +kernel
theorem dX7_isComparison_13 : decode cX7_isComparison 13 = .ok (.bipush 61, 2) := by decide +kernel
theorem dX7_isComparison_15 : decode cX7_isComparison 15 = .ok (.if_icmp .ne 7, 3) := by decide +kernel
theorem dX7_isComparison_18 : decode cX7_isComparison 18 = .ok (.iconst 1, 1) := by decide +kernel
theorem dX7_isComparison_19 : decode cX7_isComparison 19 = .ok (.goto 4, 3) := by decide +kernel
theorem dX7_isComparison_22 : decode cX7_isComparison 22 = .ok (.iconst 0, 1) := by decide +kernel
theorem dX7_isComparison_23 : decode cX7_isComparison 23 = .ok (.ireturn, 1) := by decide +kernel
theorem dX7_isDigit_0 : decode cX7_isDigit 0 = .ok (.iload_n 0, 1) := by decide +kernel
theorem dX7_isDigit_1 : decode cX7_isDigit 1 = .ok (.bipush 48, 2) := by decide +kernel
theorem dX7_isDigit_3 : decode cX7_isDigit 3 = .ok (.if_icmp .lt 13, 3) := by decide +kernel
theorem dX7_isDigit_6 : decode cX7_isDigit 6 = .ok (.iload_n 0, 1) := by decide +kernel
theorem dX7_isDigit_7 : decode cX7_isDigit 7 = .ok (.bipush 57, 2) := by decide +kernel
theorem dX7_isDigit_9 : decode cX7_isDigit 9 = .ok (.if_icmp .gt 7, 3) := by decide +kernel
theorem dX7_isDigit_12 : decode cX7_isDigit 12 = .ok (.iconst 1, 1) := by decide +kernel
theorem dX7_isDigit_13 : decode cX7_isDigit 13 = .ok (.goto 4, 3) := by decide +kernel
theorem dX7_isDigit_16 : decode cX7_isDigit 16 = .ok (.iconst 0, 1) := by decide +kernel
theorem dX7_isDigit_17 : decode cX7_isDigit 17 = .ok (.ireturn, 1) := by decide +kernel
theorem dX7_isJoint_0 : decode cX7_isJoint 0 = .ok (.iload_n 0, 1) := by decide +kernel
theorem dX7_isJoint_1 : decode cX7_isJoint 1 = .ok (.bipush 38, 2) := by decide +kernel
theorem dX7_isJoint_3 : decode cX7_isJoint 3 = .ok (.if_icmp .eq 9, 3) := by decide +kernel
theorem dX7_isJoint_6 : decode cX7_isJoint 6 = .ok (.iload_n 0, 1) := by decide +kernel
theorem dX7_isJoint_7 : decode cX7_isJoint 7 = .ok (.bipush 124, 2) := by decide +kernel
theorem dX7_isJoint_9 : decode cX7_isJoint 9 = .ok (.if_icmp .ne 7, 3) := by decide +kernel
theorem dX7_isJoint_12 : decode cX7_isJoint 12 = .ok (.iconst 1, 1) := by decide +kernel
theorem dX7_isJoint_13 : decode cX7_isJoint 13 = .ok (.goto 4, 3) := by decide +kernel
theorem dX7_isJoint_16 : decode cX7_isJoint 16 = .ok (.iconst 0, 1) := by decide +kernel
theorem dX7_isJoint_17 : decode cX7_isJoint 17 = .ok (.ireturn, 1) := by decide +kernel
theorem dX7_allows_0 : decode cX7_allows 0 = .ok (.aload_n 0, 1) := by decide +kernel
theorem dX7_allows_1 : decode cX7_allows 1 = .ok (.getfield 11, 3) := by decide +kernel
theorem dX7_allows_4 : decode cX7_allows 4 = .ok (.ifCond .le 7, 3) := by decide +kernel
theorem dX7_allows_7 : decode cX7_allows 7 = .ok (.iconst 1, 1) := by decide +kernel
theorem dX7_allows_8 : decode cX7_allows 8 = .ok (.goto 4, 3) := by decide +kernel
theorem dX7_allows_11 : decode cX7_allows 11 = .ok (.iconst 0, 1) := by decide +kernel
theorem dX7_allows_12 : decode cX7_allows 12 = .ok (.istore_n 2, 1) := by decide +kernel
theorem dX7_allows_13 : decode cX7_allows 13 = .ok (.iconst 0, 1) := by decide +kernel
theorem dX7_allows_14 : decode cX7_allows 14 = .ok (.istore_n 3, 1) := by decide +kernel
theorem dX7_allows_15 : decode cX7_allows 15 = .ok (.iconst 0, 1) := by decide +kernel
theorem dX7_allows_16 : decode cX7_allows 16 = .ok (.istore 4, 2) := by decide +kernel
theorem dX7_allows_18 : decode cX7_allows 18 = .ok (.iconst 0, 1) := by decide +kernel
theorem dX7_allows_19 : decode cX7_allows 19 = .ok (.istore 5, 2) := by decide +kernel
theorem dX7_allows_21 : decode cX7_allows 21 = .ok (.iconst 0, 1) := by decide +kernel
theorem dX7_allows_22 : decode cX7_allows 22 = .ok (.istore 6, 2) := by decide +kernel
theorem dX7_allows_24 : decode cX7_allows 24 = .ok (.iload 6, 2) := by decide +kernel
theorem dX7_allows_26 : decode cX7_allows 26 = .ok (.aload_n 0, 1) := by decide +kernel
theorem dX7_allows_27 : decode cX7_allows 27 = .ok (.getfield 11, 3) := by decide +kernel
theorem dX7_allows_30 : decode cX7_allows 30 = .ok (.if_icmp .ge 113, 3) := by decide +kernel
theorem dX7_allows_33 : decode cX7_allows 33 = .ok (.aload_n 0, 1) := by decide +kernel
theorem dX7_allows_34 : decode cX7_allows 34 = .ok (.iload 6, 2) := by decide +kernel
theorem dX7_allows_36 : decode cX7_allows 36 = .ok (.invokevirtual 17, 3) := by decide +kernel
theorem dX7_allows_39 : decode cX7_allows 39 = .ok (.istore 7, 2) := by decide +kernel
theorem dX7_allows_41 : decode cX7_allows 41 = .ok (.iload 7, 2) := by decide +kernel
theorem dX7_allows_43 : decode cX7_allows 43 = .ok (.invokestatic 32, 3) := by decide +kernel
theorem dX7_allows_46 : decode cX7_allows 46 = .ok (.ifCond .eq 19, 3) := by decide +kernel
theorem dX7_allows_49 : decode cX7_allows 49 = .ok (.iload 5, 2) := by decide +kernel
theorem dX7_allows_51 : decode cX7_allows 51 = .ok (.bipush 10, 2) := by decide +kernel
theorem dX7_allows_53 : decode cX7_allows 53 = .ok (.imul, 1) := by decide +kernel
theorem dX7_allows_54 : decode cX7_allows 54 = .ok (.iload 7, 2) := by decide +kernel
theorem dX7_allows_56 : decode cX7_allows 56 = .ok (.iadd, 1) := by decide +kernel
theorem dX7_allows_57 : decode cX7_allows 57 = .ok (.bipush 48, 2) := by decide +kernel
theorem dX7_allows_59 : decode cX7_allows 59 = .ok (.isub, 1) := by decide +kernel
theorem dX7_allows_60 : decode cX7_allows 60 = .ok (.istore 5, 2) := by decide +kernel
theorem dX7_allows_62 : decode cX7_allows 62 = .ok (.goto 75, 3) := by decide +kernel
theorem dX7_allows_65 : decode cX7_allows 65 = .ok (.iload 7, 2) := by decide +kernel
theorem dX7_allows_67 : decode cX7_allows 67 = .ok (.invokestatic 29, 3) := by decide +kernel
theorem dX7_allows_70 : decode cX7_allows 70 = .ok (.ifCond .eq 10, 3) := by decide +kernel
theorem dX7_allows_73 : decode cX7_allows 73 = .ok (.iload 7, 2) := by decide +kernel
theorem dX7_allows_75 : decode cX7_allows 75 = .ok (.istore 4, 2) := by decide +kernel
theorem dX7_allows_77 : decode cX7_allows 77 = .ok (.goto 60, 3) := by decide +kernel
theorem dX7_allows_80 : decode cX7_allows 80 = .ok (.iload 7, 2) := by decide +kernel
theorem dX7_allows_82 : decode cX7_allows 82 = .ok (.invokestatic 25, 3) := by decide +kernel
theorem dX7_allows_85 : decode cX7_allows 85 = .ok (.ifCond .eq 13, 3) := by decide +kernel
theorem dX7_allows_88 : decode cX7_allows 88 = .ok (.iload 7, 2) := by decide +kernel
theorem dX7_allows_90 : decode cX7_allows 90 = .ok (.aload_n 1, 1) := by decide +kernel
theorem dX7_allows_91 : decode cX7_allows 91 = .ok (.invokestatic 38, 3) := by decide +kernel
theorem dX7_allows_94 : decode cX7_allows 94 = .ok (.istore_n 3, 1) := by decide +kernel
theorem dX7_allows_95 : decode cX7_allows 95 = .ok (.goto 42, 3) := by decide +kernel
theorem dX7_allows_98 : decode cX7_allows 98 = .ok (.iload_n 2, 1) := by decide +kernel
theorem dX7_allows_99 : decode cX7_allows 99 = .ok (.ifCond .eq 18, 3) := by decide +kernel
theorem dX7_allows_102 : decode cX7_allows 102 = .ok (.iload_n 3, 1) := by decide +kernel
theorem dX7_allows_103 : decode cX7_allows 103 = .ok (.iload 4, 2) := by decide +kernel
theorem dX7_allows_105 : decode cX7_allows 105 = .ok (.iload 5, 2) := by decide +kernel
theorem dX7_allows_107 : decode cX7_allows 107 = .ok (.invokestatic 42, 3) := by decide +kernel
theorem dX7_allows_110 : decode cX7_allows 110 = .ok (.ifCond .eq 7, 3) := by decide +kernel
theorem dX7_allows_113 : decode cX7_allows 113 = .ok (.iconst 1, 1) := by decide +kernel
theorem dX7_allows_114 : decode cX7_allows 114 = .ok (.goto 4, 3) := by decide +kernel
theorem dX7_allows_117 : decode cX7_allows 117 = .ok (.iconst 0, 1) := by decide +kernel
theorem dX7_allows_118 : decode cX7_allows 118 = .ok (.istore_n 2, 1) := by decide +kernel
theorem dX7_allows_119 : decode cX7_allows 119 = .ok (.iconst 0, 1) := by decide +kernel
theorem dX7_allows_120 : decode cX7_allows 120 = .ok (.istore 5, 2) := by decide +kernel
theorem dX7_allows_122 : decode cX7_allows 122 = .ok (.iload 7, 2) := by decide +kernel
theorem dX7_allows_124 : decode cX7_allows 124 = .ok (.bipush 124, 2) := by decide +kernel
theorem dX7_allows_126 : decode cX7_allows 126 = .ok (.if_icmp .ne 11, 3) := by decide +kernel
theorem dX7_allows_129 : decode cX7_allows 129 = .ok (.iload_n 2, 1) := by decide +kernel
theorem dX7_allows_130 : decode cX7_allows 130 = .ok (.ifCond .eq 5, 3) := by decide +kernel
theorem dX7_allows_133 : decode cX7_allows 133 = .ok (.iconst 1, 1) := by decide +kernel
theorem dX7_allows_134 : decode cX7_allows 134 = .ok (.ireturn, 1) := by decide +kernel
theorem dX7_allows_135 : decode cX7_allows 135 = .ok (.iconst 1, 1) := by decide +kernel
theorem dX7_allows_136 : decode cX7_allows 136 = .ok (.istore_n 2, 1) := by decide +kernel
theorem dX7_allows_137 : decode cX7_allows 137 = .ok (.iinc 6 1, 3) := by decide +kernel
theorem dX7_allows_140 : decode cX7_allows 140 = .ok (.goto (-116), 3) := by decide +kernel
theorem dX7_allows_143 : decode cX7_allows 143 = .ok (.iload_n 2, 1) := by decide +kernel
theorem dX7_allows_144 : decode cX7_allows 144 = .ok (.ifCond .eq 18, 3) := by decide +kernel
theorem dX7_allows_147 : decode cX7_allows 147 = .ok (.iload_n 3, 1) := by decide +kernel
theorem dX7_allows_148 : decode cX7_allows 148 = .ok (.iload 4, 2) := by decide +kernel
theorem dX7_allows_150 : decode cX7_allows 150 = .ok (.iload 5, 2) := by decide +kernel
theorem dX7_allows_152 : decode cX7_allows 152 = .ok (.invokestatic 42, 3) := by decide +kernel
theorem dX7_allows_155 : decode cX7_allows 155 = .ok (.ifCond .eq 7, 3) := by decide +kernel
theorem dX7_allows_158 : decode cX7_allows 158 = .ok (.iconst 1, 1) := by decide +kernel
theorem dX7_allows_159 : decode cX7_allows 159 = .ok (.goto 4, 3) := by decide +kernel
theorem dX7_allows_162 : decode cX7_allows 162 = .ok (.iconst 0, 1) := by decide +kernel
theorem dX7_allows_163 : decode cX7_allows 163 = .ok (.ireturn, 1) := by decide +kernel
theorem dX7_valueOf_0 : decode cX7_valueOf 0 = .ok (.iload_n 0, 1) := by decide +kernel
theorem dX7_valueOf_1 : decode cX7_valueOf 1 = .ok (.lookupswitch 53 #[(97, 35), (107, 45), (121, 40)], 35) := by decide +kernel
theorem dX7_valueOf_36 : decode cX7_valueOf 36 = .ok (.aload_n 1, 1) := by decide +kernel
theorem dX7_valueOf_37 : decode cX7_valueOf 37 = .ok (.getfield 46, 3) := by decide +kernel
theorem dX7_valueOf_40 : decode cX7_valueOf 40 = .ok (.ireturn, 1) := by decide +kernel
theorem dX7_valueOf_41 : decode cX7_valueOf 41 = .ok (.aload_n 1, 1) := by decide +kernel
theorem dX7_valueOf_42 : decode cX7_valueOf 42 = .ok (.invokevirtual 51, 3) := by decide +kernel
theorem dX7_valueOf_45 : decode cX7_valueOf 45 = .ok (.ireturn, 1) := by decide +kernel
theorem dX7_valueOf_46 : decode cX7_valueOf 46 = .ok (.aload_n 1, 1) := by decide +kernel
theorem dX7_valueOf_47 : decode cX7_valueOf 47 = .ok (.invokevirtual 55, 3) := by decide +kernel
theorem dX7_valueOf_50 : decode cX7_valueOf 50 = .ok (.invokestatic 58, 3) := by decide +kernel
theorem dX7_valueOf_53 : decode cX7_valueOf 53 = .ok (.ireturn, 1) := by decide +kernel
theorem dX7_valueOf_54 : decode cX7_valueOf 54 = .ok (.aload_n 1, 1) := by decide +kernel
theorem dX7_valueOf_55 : decode cX7_valueOf 55 = .ok (.getfield 63, 3) := by decide +kernel
theorem dX7_valueOf_58 : decode cX7_valueOf 58 = .ok (.ireturn, 1) := by decide +kernel
theorem dX7_holds_0 : decode cX7_holds 0 = .ok (.iload_n 1, 1) := by decide +kernel
theorem dX7_holds_1 : decode cX7_holds 1 = .ok (.bipush 60, 2) := by decide +kernel
theorem dX7_holds_3 : decode cX7_holds 3 = .ok (.if_icmp .ne 14, 3) := by decide +kernel
theorem dX7_holds_6 : decode cX7_holds 6 = .ok (.iload_n 0, 1) := by decide +kernel
theorem dX7_holds_7 : decode cX7_holds 7 = .ok (.iload_n 2, 1) := by decide +kernel
theorem dX7_holds_8 : decode cX7_holds 8 = .ok (.if_icmp .ge 7, 3) := by decide +kernel
theorem dX7_holds_11 : decode cX7_holds 11 = .ok (.iconst 1, 1) := by decide +kernel
theorem dX7_holds_12 : decode cX7_holds 12 = .ok (.goto 4, 3) := by decide +kernel
theorem dX7_holds_15 : decode cX7_holds 15 = .ok (.iconst 0, 1) := by decide +kernel
theorem dX7_holds_16 : decode cX7_holds 16 = .ok (.ireturn, 1) := by decide +kernel
theorem dX7_holds_17 : decode cX7_holds 17 = .ok (.iload_n 1, 1) := by decide +kernel
theorem dX7_holds_18 : decode cX7_holds 18 = .ok (.bipush 62, 2) := by decide +kernel
theorem dX7_holds_20 : decode cX7_holds 20 = .ok (.if_icmp .ne 16, 3) := by decide +kernel
theorem dX7_holds_23 : decode cX7_holds 23 = .ok (.iload_n 0, 1) := by decide +kernel
theorem dX7_holds_24 : decode cX7_holds 24 = .ok (.iload_n 2, 1) := by decide +kernel
theorem dX7_holds_25 : decode cX7_holds 25 = .ok (.if_icmp .le 7, 3) := by decide +kernel
theorem dX7_holds_28 : decode cX7_holds 28 = .ok (.iconst 1, 1) := by decide +kernel
theorem dX7_holds_29 : decode cX7_holds 29 = .ok (.goto 17, 3) := by decide +kernel
theorem dX7_holds_32 : decode cX7_holds 32 = .ok (.iconst 0, 1) := by decide +kernel
theorem dX7_holds_33 : decode cX7_holds 33 = .ok (.goto 13, 3) := by decide +kernel
theorem dX7_holds_36 : decode cX7_holds 36 = .ok (.iload_n 0, 1) := by decide +kernel
theorem dX7_holds_37 : decode cX7_holds 37 = .ok (.iload_n 2, 1) := by decide +kernel
theorem dX7_holds_38 : decode cX7_holds 38 = .ok (.if_icmp .ne 7, 3) := by decide +kernel
theorem dX7_holds_41 : decode cX7_holds 41 = .ok (.iconst 1, 1) := by decide +kernel
theorem dX7_holds_42 : decode cX7_holds 42 = .ok (.goto 4, 3) := by decide +kernel
theorem dX7_holds_45 : decode cX7_holds 45 = .ok (.iconst 0, 1) := by decide +kernel
theorem dX7_holds_46 : decode cX7_holds 46 = .ok (.ireturn, 1) := by decide +kernel
theorem dX8_init_0 : decode cX8_init 0 = .ok (.aload_n 0, 1) := by decide +kernel
theorem dX8_init_1 : decode cX8_init 1 = .ok (.invokespecial 3, 3) := by decide +kernel
theorem dX8_init_4 : decode cX8_init 4 = .ok (.aload_n 0, 1) := by decide +kernel
theorem dX8_init_5 : decode cX8_init 5 = .ok (.bipush 8, 2) := by decide +kernel
theorem dX8_init_7 : decode cX8_init 7 = .ok (.iconst 5, 1) := by decide +kernel
theorem dX8_init_8 : decode cX8_init 8 = .ok (.multianewarray 9 2, 4) := by decide +kernel
theorem dX8_init_12 : decode cX8_init 12 = .ok (.putfield 11, 3) := by decide +kernel
theorem dX8_init_15 : decode cX8_init 15 = .ok (.aload_n 0, 1) := by decide +kernel
theorem dX8_init_16 : decode cX8_init 16 = .ok (.new 16, 3) := by decide +kernel
theorem dX8_init_19 : decode cX8_init 19 = .ok (.dup, 1) := by decide +kernel
theorem dX8_init_20 : decode cX8_init 20 = .ok (.bipush 40, 2) := by decide +kernel
theorem dX8_init_22 : decode cX8_init 22 = .ok (.invokespecial 18, 3) := by decide +kernel
theorem dX8_init_25 : decode cX8_init 25 = .ok (.putfield 21, 3) := by decide +kernel
theorem dX8_init_28 : decode cX8_init 28 = .ok (.return_, 1) := by decide +kernel
theorem dX8_booksIn_0 : decode cX8_booksIn 0 = .ok (.iconst 0, 1) := by decide +kernel
theorem dX8_booksIn_1 : decode cX8_booksIn 1 = .ok (.istore_n 2, 1) := by decide +kernel
theorem dX8_booksIn_2 : decode cX8_booksIn 2 = .ok (.iconst 0, 1) := by decide +kernel
theorem dX8_booksIn_3 : decode cX8_booksIn 3 = .ok (.istore_n 3, 1) := by decide +kernel
theorem dX8_booksIn_4 : decode cX8_booksIn 4 = .ok (.iload_n 3, 1) := by decide +kernel
theorem dX8_booksIn_5 : decode cX8_booksIn 5 = .ok (.bipush 8, 2) := by decide +kernel
theorem dX8_booksIn_7 : decode cX8_booksIn 7 = .ok (.if_icmp .ge 52, 3) := by decide +kernel
theorem dX8_booksIn_10 : decode cX8_booksIn 10 = .ok (.iconst 0, 1) := by decide +kernel
theorem dX8_booksIn_11 : decode cX8_booksIn 11 = .ok (.istore 4, 2) := by decide +kernel
theorem dX8_booksIn_13 : decode cX8_booksIn 13 = .ok (.iload 4, 2) := by decide +kernel
theorem dX8_booksIn_15 : decode cX8_booksIn 15 = .ok (.iconst 5, 1) := by decide +kernel
theorem dX8_booksIn_16 : decode cX8_booksIn 16 = .ok (.if_icmp .ge 37, 3) := by decide +kernel
theorem dX8_booksIn_19 : decode cX8_booksIn 19 = .ok (.iload_n 1, 1) := by decide +kernel
theorem dX8_booksIn_20 : decode cX8_booksIn 20 = .ok (.iload 4, 2) := by decide +kernel
theorem dX8_booksIn_22 : decode cX8_booksIn 22 = .ok (.ishr, 1) := by decide +kernel
theorem dX8_booksIn_23 : decode cX8_booksIn 23 = .ok (.iconst 1, 1) := by decide +kernel
theorem dX8_booksIn_24 : decode cX8_booksIn 24 = .ok (.iand, 1) := by decide +kernel
theorem dX8_booksIn_25 : decode cX8_booksIn 25 = .ok (.iconst 1, 1) := by decide +kernel
theorem dX8_booksIn_26 : decode cX8_booksIn 26 = .ok (.if_icmp .ne 21, 3) := by decide +kernel
theorem dX8_booksIn_29 : decode cX8_booksIn 29 = .ok (.aload_n 0, 1) := by decide +kernel
theorem dX8_booksIn_30 : decode cX8_booksIn 30 = .ok (.getfield 11, 3) := by decide +kernel
theorem dX8_booksIn_33 : decode cX8_booksIn 33 = .ok (.iload_n 3, 1) := by decide +kernel
theorem dX8_booksIn_34 : decode cX8_booksIn 34 = .ok (.aaload, 1) := by decide +kernel
theorem dX8_booksIn_35 : decode cX8_booksIn 35 = .ok (.iload 4, 2) := by decide +kernel
theorem dX8_booksIn_37 : decode cX8_booksIn 37 = .ok (.iaload, 1) := by decide +kernel
theorem dX8_booksIn_38 : decode cX8_booksIn 38 = .ok (.ifCond .le 9, 3) := by decide +kernel
theorem dX8_booksIn_41 : decode cX8_booksIn 41 = .ok (.iload_n 2, 1) := by decide +kernel
theorem dX8_booksIn_42 : decode cX8_booksIn 42 = .ok (.iconst 1, 1) := by decide +kernel
theorem dX8_booksIn_43 : decode cX8_booksIn 43 = .ok (.iload_n 3, 1) := by decide +kernel
theorem dX8_booksIn_44 : decode cX8_booksIn 44 = .ok (.ishl, 1) := by decide +kernel
theorem dX8_booksIn_45 : decode cX8_booksIn 45 = .ok (.ior, 1) := by decide +kernel
theorem dX8_booksIn_46 : decode cX8_booksIn 46 = .ok (.istore_n 2, 1) := by decide +kernel
theorem dX8_booksIn_47 : decode cX8_booksIn 47 = .ok (.iinc 4 1, 3) := by decide +kernel
theorem dX8_booksIn_50 : decode cX8_booksIn 50 = .ok (.goto (-37), 3) := by decide +kernel
theorem dX8_booksIn_53 : decode cX8_booksIn 53 = .ok (.iinc 3 1, 3) := by decide +kernel
theorem dX8_booksIn_56 : decode cX8_booksIn 56 = .ok (.goto (-52), 3) := by decide +kernel
theorem dX8_booksIn_59 : decode cX8_booksIn 59 = .ok (.iload_n 2, 1) := by decide +kernel
theorem dX8_booksIn_60 : decode cX8_booksIn 60 = .ok (.ireturn, 1) := by decide +kernel
theorem dX8_copiesBeyond_0 : decode cX8_copiesBeyond 0 = .ok (.iconst 0, 1) := by decide +kernel
theorem dX8_copiesBeyond_1 : decode cX8_copiesBeyond 1 = .ok (.istore_n 2, 1) := by decide +kernel
theorem dX8_copiesBeyond_2 : decode cX8_copiesBeyond 2 = .ok (.iconst 0, 1) := by decide +kernel
theorem dX8_copiesBeyond_3 : decode cX8_copiesBeyond 3 = .ok (.istore_n 3, 1) := by decide +kernel
theorem dX8_copiesBeyond_4 : decode cX8_copiesBeyond 4 = .ok (.iload_n 3, 1) := by decide +kernel
theorem dX8_copiesBeyond_5 : decode cX8_copiesBeyond 5 = .ok (.bipush 8, 2) := by decide +kernel
theorem dX8_copiesBeyond_7 : decode cX8_copiesBeyond 7 = .ok (.if_icmp .ge 50, 3) := by decide +kernel
theorem dX8_copiesBeyond_10 : decode cX8_copiesBeyond 10 = .ok (.iconst 0, 1) := by decide +kernel
theorem dX8_copiesBeyond_11 : decode cX8_copiesBeyond 11 = .ok (.istore 4, 2) := by decide +kernel
theorem dX8_copiesBeyond_13 : decode cX8_copiesBeyond 13 = .ok (.iload 4, 2) := by decide +kernel
theorem dX8_copiesBeyond_15 : decode cX8_copiesBeyond 15 = .ok (.iconst 5, 1) := by decide +kernel
theorem dX8_copiesBeyond_16 : decode cX8_copiesBeyond 16 = .ok (.if_icmp .ge 35, 3) := by decide +kernel
theorem dX8_copiesBeyond_19 : decode cX8_copiesBeyond 19 = .ok (.iload_n 2, 1) := by decide +kernel
theorem dX8_copiesBeyond_20 : decode cX8_copiesBeyond 20 = .ok (.iload_n 1, 1) := by decide +kernel
theorem dX8_copiesBeyond_21 : decode cX8_copiesBeyond 21 = .ok (.iload 4, 2) := by decide +kernel
theorem dX8_copiesBeyond_23 : decode cX8_copiesBeyond 23 = .ok (.ishr, 1) := by decide +kernel
theorem dX8_copiesBeyond_24 : decode cX8_copiesBeyond 24 = .ok (.iconst 1, 1) := by decide +kernel
theorem dX8_copiesBeyond_25 : decode cX8_copiesBeyond 25 = .ok (.iand, 1) := by decide +kernel
theorem dX8_copiesBeyond_26 : decode cX8_copiesBeyond 26 = .ok (.iconst 1, 1) := by decide +kernel
theorem dX8_copiesBeyond_27 : decode cX8_copiesBeyond 27 = .ok (.if_icmp .ne 7, 3) := by decide +kernel
theorem dX8_copiesBeyond_30 : decode cX8_copiesBeyond 30 = .ok (.iconst 0, 1) := by decide +kernel
theorem dX8_copiesBeyond_31 : decode cX8_copiesBeyond 31 = .ok (.goto 12, 3) := by decide +kernel
theorem dX8_copiesBeyond_34 : decode cX8_copiesBeyond 34 = .ok (.aload_n 0, 1) := by decide +kernel
theorem dX8_copiesBeyond_35 : decode cX8_copiesBeyond 35 = .ok (.getfield 11, 3) := by decide +kernel
theorem dX8_copiesBeyond_38 : decode cX8_copiesBeyond 38 = .ok (.iload_n 3, 1) := by decide +kernel
theorem dX8_copiesBeyond_39 : decode cX8_copiesBeyond 39 = .ok (.aaload, 1) := by decide +kernel
theorem dX8_copiesBeyond_40 : decode cX8_copiesBeyond 40 = .ok (.iload 4, 2) := by decide +kernel
theorem dX8_copiesBeyond_42 : decode cX8_copiesBeyond 42 = .ok (.iaload, 1) := by decide +kernel
theorem dX8_copiesBeyond_43 : decode cX8_copiesBeyond 43 = .ok (.iadd, 1) := by decide +kernel
theorem dX8_copiesBeyond_44 : decode cX8_copiesBeyond 44 = .ok (.istore_n 2, 1) := by decide +kernel
theorem dX8_copiesBeyond_45 : decode cX8_copiesBeyond 45 = .ok (.iinc 4 1, 3) := by decide +kernel
theorem dX8_copiesBeyond_48 : decode cX8_copiesBeyond 48 = .ok (.goto (-35), 3) := by decide +kernel
theorem dX8_copiesBeyond_51 : decode cX8_copiesBeyond 51 = .ok (.iinc 3 1, 3) := by decide +kernel
theorem dX8_copiesBeyond_54 : decode cX8_copiesBeyond 54 = .ok (.goto (-50), 3) := by decide +kernel
theorem dX8_copiesBeyond_57 : decode cX8_copiesBeyond 57 = .ok (.iload_n 2, 1) := by decide +kernel
theorem dX8_copiesBeyond_58 : decode cX8_copiesBeyond 58 = .ok (.ireturn, 1) := by decide +kernel
theorem dX9_init_0 : decode cX9_init 0 = .ok (.aload_n 0, 1) := by decide +kernel
theorem dX9_init_1 : decode cX9_init 1 = .ok (.invokespecial 3, 3) := by decide +kernel
theorem dX9_init_4 : decode cX9_init 4 = .ok (.aload_n 0, 1) := by decide +kernel
theorem dX9_init_5 : decode cX9_init 5 = .ok (.iload_n 2, 1) := by decide +kernel
theorem dX9_init_6 : decode cX9_init 6 = .ok (.iconst 0, 1) := by decide +kernel
theorem dX9_init_7 : decode cX9_init 7 = .ok (.invokestatic 9, 3) := by decide +kernel
theorem dX9_init_10 : decode cX9_init 10 = .ok (.putfield 15, 3) := by decide +kernel
theorem dX9_init_13 : decode cX9_init 13 = .ok (.aload_n 0, 1) := by decide +kernel
theorem dX9_init_14 : decode cX9_init 14 = .ok (.iload_n 1, 1) := by decide +kernel
theorem dX9_init_15 : decode cX9_init 15 = .ok (.iconst 0, 1) := by decide +kernel
theorem dX9_init_16 : decode cX9_init 16 = .ok (.invokestatic 9, 3) := by decide +kernel
theorem dX9_init_19 : decode cX9_init 19 = .ok (.aload_n 0, 1) := by decide +kernel
theorem dX9_init_20 : decode cX9_init 20 = .ok (.getfield 15, 3) := by decide +kernel
theorem dX9_init_23 : decode cX9_init 23 = .ok (.imul, 1) := by decide +kernel
theorem dX9_init_24 : decode cX9_init 24 = .ok (.newarray .int, 2) := by decide +kernel
theorem dX9_init_26 : decode cX9_init 26 = .ok (.putfield 21, 3) := by decide +kernel
theorem dX9_init_29 : decode cX9_init 29 = .ok (.aload_n 0, 1) := by decide +kernel
theorem dX9_init_30 : decode cX9_init 30 = .ok (.iload_n 1, 1) := by decide +kernel
theorem dX9_init_31 : decode cX9_init 31 = .ok (.iconst 0, 1) := by decide +kernel
theorem dX9_init_32 : decode cX9_init 32 = .ok (.invokestatic 9, 3) := by decide +kernel
theorem dX9_init_35 : decode cX9_init 35 = .ok (.newarray .int, 2) := by decide +kernel
theorem dX9_init_37 : decode cX9_init 37 = .ok (.putfield 25, 3) := by decide +kernel
theorem dX9_init_40 : decode cX9_init 40 = .ok (.aload_n 0, 1) := by decide +kernel
theorem dX9_init_41 : decode cX9_init 41 = .ok (.iconst 0, 1) := by decide +kernel
theorem dX9_init_42 : decode cX9_init 42 = .ok (.putfield 28, 3) := by decide +kernel
theorem dX9_init_45 : decode cX9_init 45 = .ok (.return_, 1) := by decide +kernel
theorem dX9_isFull_0 : decode cX9_isFull 0 = .ok (.aload_n 0, 1) := by decide +kernel
theorem dX9_isFull_1 : decode cX9_isFull 1 = .ok (.getfield 28, 3) := by decide +kernel
theorem dX9_isFull_4 : decode cX9_isFull 4 = .ok (.aload_n 0, 1) := by decide +kernel
theorem dX9_isFull_5 : decode cX9_isFull 5 = .ok (.getfield 25, 3) := by decide +kernel
theorem dX9_isFull_8 : decode cX9_isFull 8 = .ok (.arraylength, 1) := by decide +kernel
theorem dX9_isFull_9 : decode cX9_isFull 9 = .ok (.if_icmp .lt 7, 3) := by decide +kernel
theorem dX9_isFull_12 : decode cX9_isFull 12 = .ok (.iconst 1, 1) := by decide +kernel
theorem dX9_isFull_13 : decode cX9_isFull 13 = .ok (.goto 4, 3) := by decide +kernel
theorem dX9_isFull_16 : decode cX9_isFull 16 = .ok (.iconst 0, 1) := by decide +kernel
theorem dX9_isFull_17 : decode cX9_isFull 17 = .ok (.ireturn, 1) := by decide +kernel
theorem dX9_take_0 : decode cX9_take 0 = .ok (.aload_n 0, 1) := by decide +kernel
theorem dX9_take_1 : decode cX9_take 1 = .ok (.invokevirtual 31, 3) := by decide +kernel
theorem dX9_take_4 : decode cX9_take 4 = .ok (.ifCond .ne 14, 3) := by decide +kernel
theorem dX9_take_7 : decode cX9_take 7 = .ok (.aload_n 1, 1) := by decide +kernel
theorem dX9_take_8 : decode cX9_take 8 = .ok (.getfield 35, 3) := by decide +kernel
theorem dX9_take_11 : decode cX9_take 11 = .ok (.aload_n 0, 1) := by decide +kernel
theorem dX9_take_12 : decode cX9_take 12 = .ok (.getfield 15, 3) := by decide +kernel
theorem dX9_take_15 : decode cX9_take 15 = .ok (.if_icmp .le 6, 3) := by decide +kernel
theorem dX9_take_18 : decode cX9_take 18 = .ok (.bipush (-5), 2) := by decide +kernel
theorem dX9_take_20 : decode cX9_take 20 = .ok (.ireturn, 1) := by decide +kernel
theorem dX9_take_21 : decode cX9_take 21 = .ok (.aload_n 1, 1) := by decide +kernel
theorem dX9_take_22 : decode cX9_take 22 = .ok (.getfield 40, 3) := by decide +kernel
theorem dX9_take_25 : decode cX9_take 25 = .ok (.iconst 0, 1) := by decide +kernel
theorem dX9_take_26 : decode cX9_take 26 = .ok (.aload_n 0, 1) := by decide +kernel
theorem dX9_take_27 : decode cX9_take 27 = .ok (.getfield 21, 3) := by decide +kernel
theorem dX9_take_30 : decode cX9_take 30 = .ok (.aload_n 0, 1) := by decide +kernel
theorem dX9_take_31 : decode cX9_take 31 = .ok (.getfield 28, 3) := by decide +kernel
theorem dX9_take_34 : decode cX9_take 34 = .ok (.aload_n 0, 1) := by decide +kernel
theorem dX9_take_35 : decode cX9_take 35 = .ok (.getfield 15, 3) := by decide +kernel
theorem dX9_take_38 : decode cX9_take 38 = .ok (.imul, 1) := by decide +kernel
theorem dX9_take_39 : decode cX9_take 39 = .ok (.aload_n 1, 1) := by decide +kernel
theorem dX9_take_40 : decode cX9_take 40 = .ok (.getfield 35, 3) := by decide +kernel
theorem dX9_take_43 : decode cX9_take 43 = .ok (.invokestatic 43, 3) := by decide +kernel
theorem dX9_take_46 : decode cX9_take 46 = .ok (.aload_n 0, 1) := by decide +kernel
theorem dX9_take_47 : decode cX9_take 47 = .ok (.getfield 25, 3) := by decide +kernel
theorem dX9_take_50 : decode cX9_take 50 = .ok (.aload_n 0, 1) := by decide +kernel
theorem dX9_take_51 : decode cX9_take 51 = .ok (.getfield 28, 3) := by decide +kernel
theorem dX9_take_54 : decode cX9_take 54 = .ok (.aload_n 1, 1) := by decide +kernel
theorem dX9_take_55 : decode cX9_take 55 = .ok (.getfield 35, 3) := by decide +kernel
theorem dX9_take_58 : decode cX9_take 58 = .ok (.iastore, 1) := by decide +kernel
theorem dX9_take_59 : decode cX9_take 59 = .ok (.aload_n 1, 1) := by decide +kernel
theorem dX9_take_60 : decode cX9_take 60 = .ok (.invokevirtual 49, 3) := by decide +kernel
theorem dX9_take_63 : decode cX9_take 63 = .ok (.pop, 1) := by decide +kernel
theorem dX9_take_64 : decode cX9_take 64 = .ok (.aload_n 0, 1) := by decide +kernel
theorem dX9_take_65 : decode cX9_take 65 = .ok (.dup, 1) := by decide +kernel
theorem dX9_take_66 : decode cX9_take 66 = .ok (.getfield 28, 3) := by decide +kernel
theorem dX9_take_69 : decode cX9_take 69 = .ok (.iconst 1, 1) := by decide +kernel
theorem dX9_take_70 : decode cX9_take 70 = .ok (.iadd, 1) := by decide +kernel
theorem dX9_take_71 : decode cX9_take 71 = .ok (.putfield 28, 3) := by decide +kernel
theorem dX9_take_74 : decode cX9_take 74 = .ok (.aload_n 0, 1) := by decide +kernel
theorem dX9_take_75 : decode cX9_take 75 = .ok (.getfield 28, 3) := by decide +kernel
theorem dX9_take_78 : decode cX9_take 78 = .ok (.iconst 1, 1) := by decide +kernel
theorem dX9_take_79 : decode cX9_take 79 = .ok (.isub, 1) := by decide +kernel
theorem dX9_take_80 : decode cX9_take 80 = .ok (.ireturn, 1) := by decide +kernel
theorem dX9_standsAt_0 : decode cX9_standsAt 0 = .ok (.aload_n 0, 1) := by decide +kernel
theorem dX9_standsAt_1 : decode cX9_standsAt 1 = .ok (.getfield 25, 3) := by decide +kernel
theorem dX9_standsAt_4 : decode cX9_standsAt 4 = .ok (.iload_n 1, 1) := by decide +kernel
theorem dX9_standsAt_5 : decode cX9_standsAt 5 = .ok (.iaload, 1) := by decide +kernel
theorem dX9_standsAt_6 : decode cX9_standsAt 6 = .ok (.istore 5, 2) := by decide +kernel
theorem dX9_standsAt_8 : decode cX9_standsAt 8 = .ok (.iload 5, 2) := by decide +kernel
theorem dX9_standsAt_10 : decode cX9_standsAt 10 = .ok (.iload 4, 2) := by decide +kernel
theorem dX9_standsAt_12 : decode cX9_standsAt 12 = .ok (.iload_n 3, 1) := by decide +kernel
theorem dX9_standsAt_13 : decode cX9_standsAt 13 = .ok (.isub, 1) := by decide +kernel
theorem dX9_standsAt_14 : decode cX9_standsAt 14 = .ok (.if_icmp .le 5, 3) := by decide +kernel
theorem dX9_standsAt_17 : decode cX9_standsAt 17 = .ok (.iconst 0, 1) := by decide +kernel
theorem dX9_standsAt_18 : decode cX9_standsAt 18 = .ok (.ireturn, 1) := by decide +kernel
theorem dX9_standsAt_19 : decode cX9_standsAt 19 = .ok (.iload_n 1, 1) := by decide +kernel
theorem dX9_standsAt_20 : decode cX9_standsAt 20 = .ok (.aload_n 0, 1) := by decide +kernel
theorem dX9_standsAt_21 : decode cX9_standsAt 21 = .ok (.getfield 15, 3) := by decide +kernel
theorem dX9_standsAt_24 : decode cX9_standsAt 24 = .ok (.imul, 1) := by decide +kernel
theorem dX9_standsAt_25 : decode cX9_standsAt 25 = .ok (.istore 6, 2) := by decide +kernel
theorem dX9_standsAt_27 : decode cX9_standsAt 27 = .ok (.iconst 0, 1) := by decide +kernel
theorem dX9_standsAt_28 : decode cX9_standsAt 28 = .ok (.istore 7, 2) := by decide +kernel
theorem dX9_standsAt_30 : decode cX9_standsAt 30 = .ok (.iload 7, 2) := by decide +kernel
theorem dX9_standsAt_32 : decode cX9_standsAt 32 = .ok (.iload 5, 2) := by decide +kernel
theorem dX9_standsAt_34 : decode cX9_standsAt 34 = .ok (.if_icmp .ge 30, 3) := by decide +kernel
theorem dX9_standsAt_37 : decode cX9_standsAt 37 = .ok (.aload_n 0, 1) := by decide +kernel
theorem dX9_standsAt_38 : decode cX9_standsAt 38 = .ok (.getfield 21, 3) := by decide +kernel
theorem dX9_standsAt_41 : decode cX9_standsAt 41 = .ok (.iload 6, 2) := by decide +kernel
theorem dX9_standsAt_43 : decode cX9_standsAt 43 = .ok (.iload 7, 2) := by decide +kernel
theorem dX9_standsAt_45 : decode cX9_standsAt 45 = .ok (.iadd, 1) := by decide +kernel
theorem dX9_standsAt_46 : decode cX9_standsAt 46 = .ok (.iaload, 1) := by decide +kernel
theorem dX9_standsAt_47 : decode cX9_standsAt 47 = .ok (.aload_n 2, 1) := by decide +kernel
theorem dX9_standsAt_48 : decode cX9_standsAt 48 = .ok (.iload_n 3, 1) := by decide +kernel
theorem dX9_standsAt_49 : decode cX9_standsAt 49 = .ok (.iload 7, 2) := by decide +kernel
theorem dX9_standsAt_51 : decode cX9_standsAt 51 = .ok (.iadd, 1) := by decide +kernel
theorem dX9_standsAt_52 : decode cX9_standsAt 52 = .ok (.iaload, 1) := by decide +kernel
theorem dX9_standsAt_53 : decode cX9_standsAt 53 = .ok (.if_icmp .eq 5, 3) := by decide +kernel
theorem dX9_standsAt_56 : decode cX9_standsAt 56 = .ok (.iconst 0, 1) := by decide +kernel
theorem dX9_standsAt_57 : decode cX9_standsAt 57 = .ok (.ireturn, 1) := by decide +kernel
theorem dX9_standsAt_58 : decode cX9_standsAt 58 = .ok (.iinc 7 1, 3) := by decide +kernel
theorem dX9_standsAt_61 : decode cX9_standsAt 61 = .ok (.goto (-31), 3) := by decide +kernel
theorem dX9_standsAt_64 : decode cX9_standsAt 64 = .ok (.iconst 1, 1) := by decide +kernel
theorem dX9_standsAt_65 : decode cX9_standsAt 65 = .ok (.ireturn, 1) := by decide +kernel
theorem dX10_init_0 : decode cX10_init 0 = .ok (.aload_n 0, 1) := by decide +kernel
theorem dX10_init_1 : decode cX10_init 1 = .ok (.invokespecial 3, 3) := by decide +kernel
theorem dX10_init_4 : decode cX10_init 4 = .ok (.aload_n 0, 1) := by decide +kernel
theorem dX10_init_5 : decode cX10_init 5 = .ok (.bipush 11, 2) := by decide +kernel
theorem dX10_init_7 : decode cX10_init 7 = .ok (.newarray .int, 2) := by decide +kernel
theorem dX10_init_9 : decode cX10_init 9 = .ok (.putfield 9, 3) := by decide +kernel
theorem dX10_init_12 : decode cX10_init 12 = .ok (.aload_n 0, 1) := by decide +kernel
theorem dX10_init_13 : decode cX10_init 13 = .ok (.bipush 11, 2) := by decide +kernel
theorem dX10_init_15 : decode cX10_init 15 = .ok (.newarray .int, 2) := by decide +kernel
theorem dX10_init_17 : decode cX10_init 17 = .ok (.putfield 15, 3) := by decide +kernel
theorem dX10_init_20 : decode cX10_init 20 = .ok (.aload_n 0, 1) := by decide +kernel
theorem dX10_init_21 : decode cX10_init 21 = .ok (.new 18, 3) := by decide +kernel
theorem dX10_init_24 : decode cX10_init 24 = .ok (.dup, 1) := by decide +kernel
theorem dX10_init_25 : decode cX10_init 25 = .ok (.bipush 20, 2) := by decide +kernel
theorem dX10_init_27 : decode cX10_init 27 = .ok (.invokespecial 20, 3) := by decide +kernel
theorem dX10_init_30 : decode cX10_init 30 = .ok (.putfield 23, 3) := by decide +kernel
theorem dX10_init_33 : decode cX10_init 33 = .ok (.return_, 1) := by decide +kernel
theorem dX10_cellsOf_0 : decode cX10_cellsOf 0 = .ok (.iload_n 0, 1) := by decide +kernel
theorem dX10_cellsOf_1 : decode cX10_cellsOf 1 = .ok (.sipush 1024, 3) := by decide +kernel
theorem dX10_cellsOf_4 : decode cX10_cellsOf 4 = .ok (.idiv, 1) := by decide +kernel
theorem dX10_cellsOf_5 : decode cX10_cellsOf 5 = .ok (.ireturn, 1) := by decide +kernel
theorem dX10_pointsOf_0 : decode cX10_pointsOf 0 = .ok (.iload_n 0, 1) := by decide +kernel
theorem dX10_pointsOf_1 : decode cX10_pointsOf 1 = .ok (.sipush 1024, 3) := by decide +kernel
theorem dX10_pointsOf_4 : decode cX10_pointsOf 4 = .ok (.irem, 1) := by decide +kernel
theorem dX10_pointsOf_5 : decode cX10_pointsOf 5 = .ok (.ireturn, 1) := by decide +kernel
theorem dX10_weigh_0 : decode cX10_weigh 0 = .ok (.iload 4, 2) := by decide +kernel
theorem dX10_weigh_2 : decode cX10_weigh 2 = .ok (.ifCond .lt 23, 3) := by decide +kernel
theorem dX10_weigh_5 : decode cX10_weigh 5 = .ok (.iload 4, 2) := by decide +kernel
theorem dX10_weigh_7 : decode cX10_weigh 7 = .ok (.bipush 10, 2) := by decide +kernel
theorem dX10_weigh_9 : decode cX10_weigh 9 = .ok (.if_icmp .gt 16, 3) := by decide +kernel
theorem dX10_weigh_12 : decode cX10_weigh 12 = .ok (.iload_n 3, 1) := by decide +kernel
theorem dX10_weigh_13 : decode cX10_weigh 13 = .ok (.ifCond .lt 12, 3) := by decide +kernel
theorem dX10_weigh_16 : decode cX10_weigh 16 = .ok (.iload_n 3, 1) := by decide +kernel
theorem dX10_weigh_17 : decode cX10_weigh 17 = .ok (.aload_n 2, 1) := by decide +kernel
theorem dX10_weigh_18 : decode cX10_weigh 18 = .ok (.arraylength, 1) := by decide +kernel
theorem dX10_weigh_19 : decode cX10_weigh 19 = .ok (.iload 4, 2) := by decide +kernel
theorem dX10_weigh_21 : decode cX10_weigh 21 = .ok (.isub, 1) := by decide +kernel
theorem dX10_weigh_22 : decode cX10_weigh 22 = .ok (.if_icmp .le 6, 3) := by decide +kernel
theorem dX10_weigh_25 : decode cX10_weigh 25 = .ok (.ldc 27, 2) := by decide +kernel
theorem dX10_weigh_27 : decode cX10_weigh 27 = .ok (.ireturn, 1) := by decide +kernel
theorem dX10_weigh_28 : decode cX10_weigh 28 = .ok (.aload_n 0, 1) := by decide +kernel
theorem dX10_weigh_29 : decode cX10_weigh 29 = .ok (.getfield 9, 3) := by decide +kernel
theorem dX10_weigh_32 : decode cX10_weigh 32 = .ok (.iload 4, 2) := by decide +kernel
theorem dX10_weigh_34 : decode cX10_weigh 34 = .ok (.iconst 0, 1) := by decide +kernel
theorem dX10_weigh_35 : decode cX10_weigh 35 = .ok (.iastore, 1) := by decide +kernel
theorem dX10_weigh_36 : decode cX10_weigh 36 = .ok (.iload 4, 2) := by decide +kernel
theorem dX10_weigh_38 : decode cX10_weigh 38 = .ok (.iconst 1, 1) := by decide +kernel
theorem dX10_weigh_39 : decode cX10_weigh 39 = .ok (.isub, 1) := by decide +kernel
theorem dX10_weigh_40 : decode cX10_weigh 40 = .ok (.istore 5, 2) := by decide +kernel
theorem dX10_weigh_42 : decode cX10_weigh 42 = .ok (.iload 5, 2) := by decide +kernel
theorem dX10_weigh_44 : decode cX10_weigh 44 = .ok (.ifCond .lt 151, 3) := by decide +kernel
theorem dX10_weigh_47 : decode cX10_weigh 47 = .ok (.aload_n 0, 1) := by decide +kernel
theorem dX10_weigh_48 : decode cX10_weigh 48 = .ok (.getfield 9, 3) := by decide +kernel
theorem dX10_weigh_51 : decode cX10_weigh 51 = .ok (.iload 5, 2) := by decide +kernel
theorem dX10_weigh_53 : decode cX10_weigh 53 = .ok (.ldc 27, 2) := by decide +kernel
theorem dX10_weigh_55 : decode cX10_weigh 55 = .ok (.iastore, 1) := by decide +kernel
theorem dX10_weigh_56 : decode cX10_weigh 56 = .ok (.iconst 0, 1) := by decide +kernel
theorem dX10_weigh_57 : decode cX10_weigh 57 = .ok (.istore 6, 2) := by decide +kernel
theorem dX10_weigh_59 : decode cX10_weigh 59 = .ok (.iload 6, 2) := by decide +kernel
theorem dX10_weigh_61 : decode cX10_weigh 61 = .ok (.aload_n 1, 1) := by decide +kernel
theorem dX10_weigh_62 : decode cX10_weigh 62 = .ok (.getfield 28, 3) := by decide +kernel
theorem dX10_weigh_65 : decode cX10_weigh 65 = .ok (.getfield 34, 3) := by decide +kernel
theorem dX10_weigh_68 : decode cX10_weigh 68 = .ok (.if_icmp .ge 77, 3) := by decide +kernel
theorem dX10_weigh_71 : decode cX10_weigh 71 = .ok (.aload_n 1, 1) := by decide +kernel
theorem dX10_weigh_72 : decode cX10_weigh 72 = .ok (.getfield 28, 3) := by decide +kernel
theorem dX10_weigh_75 : decode cX10_weigh 75 = .ok (.iload 6, 2) := by decide +kernel
theorem dX10_weigh_77 : decode cX10_weigh 77 = .ok (.aload_n 2, 1) := by decide +kernel
theorem dX10_weigh_78 : decode cX10_weigh 78 = .ok (.iload_n 3, 1) := by decide +kernel
theorem dX10_weigh_79 : decode cX10_weigh 79 = .ok (.iload 5, 2) := by decide +kernel
theorem dX10_weigh_81 : decode cX10_weigh 81 = .ok (.iadd, 1) := by decide +kernel
theorem dX10_weigh_82 : decode cX10_weigh 82 = .ok (.iload_n 3, 1) := by decide +kernel
theorem dX10_weigh_83 : decode cX10_weigh 83 = .ok (.iload 4, 2) := by decide +kernel
theorem dX10_weigh_85 : decode cX10_weigh 85 = .ok (.iadd, 1) := by decide +kernel
theorem dX10_weigh_86 : decode cX10_weigh 86 = .ok (.invokevirtual 40, 3) := by decide +kernel
theorem dX10_weigh_89 : decode cX10_weigh 89 = .ok (.ifCond .eq 50, 3) := by decide +kernel
theorem dX10_weigh_92 : decode cX10_weigh 92 = .ok (.aload_n 1, 1) := by decide +kernel
theorem dX10_weigh_93 : decode cX10_weigh 93 = .ok (.iload 6, 2) := by decide +kernel
theorem dX10_weigh_95 : decode cX10_weigh 95 = .ok (.invokevirtual 44, 3) := by decide +kernel
theorem dX10_weigh_98 : decode cX10_weigh 98 = .ok (.sipush 1024, 3) := by decide +kernel
theorem dX10_weigh_101 : decode cX10_weigh 101 = .ok (.imul, 1) := by decide +kernel
theorem dX10_weigh_102 : decode cX10_weigh 102 = .ok (.aload_n 1, 1) := by decide +kernel
theorem dX10_weigh_103 : decode cX10_weigh 103 = .ok (.iload 6, 2) := by decide +kernel
theorem dX10_weigh_105 : decode cX10_weigh 105 = .ok (.invokevirtual 48, 3) := by decide +kernel
theorem dX10_weigh_108 : decode cX10_weigh 108 = .ok (.iadd, 1) := by decide +kernel
theorem dX10_weigh_109 : decode cX10_weigh 109 = .ok (.istore 7, 2) := by decide +kernel
theorem dX10_weigh_111 : decode cX10_weigh 111 = .ok (.aload_n 0, 1) := by decide +kernel
theorem dX10_weigh_112 : decode cX10_weigh 112 = .ok (.iload 6, 2) := by decide +kernel
theorem dX10_weigh_114 : decode cX10_weigh 114 = .ok (.iload 5, 2) := by decide +kernel
theorem dX10_weigh_116 : decode cX10_weigh 116 = .ok (.iload 7, 2) := by decide +kernel
theorem dX10_weigh_118 : decode cX10_weigh 118 = .ok (.aload_n 0, 1) := by decide +kernel
theorem dX10_weigh_119 : decode cX10_weigh 119 = .ok (.getfield 9, 3) := by decide +kernel
theorem dX10_weigh_122 : decode cX10_weigh 122 = .ok (.iload 5, 2) := by decide +kernel
theorem dX10_weigh_124 : decode cX10_weigh 124 = .ok (.aload_n 1, 1) := by decide +kernel
theorem dX10_weigh_125 : decode cX10_weigh 125 = .ok (.getfield 28, 3) := by decide +kernel
theorem dX10_weigh_128 : decode cX10_weigh 128 = .ok (.getfield 51, 3) := by decide +kernel
theorem dX10_weigh_131 : decode cX10_weigh 131 = .ok (.iload 6, 2) := by decide +kernel
theorem dX10_weigh_133 : decode cX10_weigh 133 = .ok (.iaload, 1) := by decide +kernel
theorem dX10_weigh_134 : decode cX10_weigh 134 = .ok (.iadd, 1) := by decide +kernel
theorem dX10_weigh_135 : decode cX10_weigh 135 = .ok (.iaload, 1) := by decide +kernel
theorem dX10_weigh_136 : decode cX10_weigh 136 = .ok (.invokevirtual 54, 3) := by decide +kernel
theorem dX10_weigh_139 : decode cX10_weigh 139 = .ok (.iinc 6 1, 3) := by decide +kernel
theorem dX10_weigh_142 : decode cX10_weigh 142 = .ok (.goto (-83), 3) := by decide +kernel
theorem dX10_weigh_145 : decode cX10_weigh 145 = .ok (.aload_n 1, 1) := by decide +kernel
theorem dX10_weigh_146 : decode cX10_weigh 146 = .ok (.getfield 58, 3) := by decide +kernel
theorem dX10_weigh_149 : decode cX10_weigh 149 = .ok (.aload_n 2, 1) := by decide +kernel
theorem dX10_weigh_150 : decode cX10_weigh 150 = .ok (.iload_n 3, 1) := by decide +kernel
theorem dX10_weigh_151 : decode cX10_weigh 151 = .ok (.iload 5, 2) := by decide +kernel
theorem dX10_weigh_153 : decode cX10_weigh 153 = .ok (.iadd, 1) := by decide +kernel
theorem dX10_weigh_154 : decode cX10_weigh 154 = .ok (.iaload, 1) := by decide +kernel
theorem dX10_weigh_155 : decode cX10_weigh 155 = .ok (.iaload, 1) := by decide +kernel
theorem dX10_weigh_156 : decode cX10_weigh 156 = .ok (.istore 6, 2) := by decide +kernel
theorem dX10_weigh_158 : decode cX10_weigh 158 = .ok (.iload 6, 2) := by decide +kernel
theorem dX10_weigh_160 : decode cX10_weigh 160 = .ok (.ifCond .eq 29, 3) := by decide +kernel
theorem dX10_weigh_163 : decode cX10_weigh 163 = .ok (.aload_n 0, 1) := by decide +kernel
theorem dX10_weigh_164 : decode cX10_weigh 164 = .ok (.bipush 12, 2) := by decide +kernel
theorem dX10_weigh_166 : decode cX10_weigh 166 = .ok (.iload 5, 2) := by decide +kernel
theorem dX10_weigh_168 : decode cX10_weigh 168 = .ok (.sipush 1024, 3) := by decide +kernel
theorem dX10_weigh_171 : decode cX10_weigh 171 = .ok (.iload 6, 2) := by decide +kernel
theorem dX10_weigh_173 : decode cX10_weigh 173 = .ok (.invokestatic 61, 3) := by decide +kernel
theorem dX10_weigh_176 : decode cX10_weigh 176 = .ok (.iadd, 1) := by decide +kernel
theorem dX10_weigh_177 : decode cX10_weigh 177 = .ok (.aload_n 0, 1) := by decide +kernel
theorem dX10_weigh_178 : decode cX10_weigh 178 = .ok (.getfield 9, 3) := by decide +kernel
theorem dX10_weigh_181 : decode cX10_weigh 181 = .ok (.iload 5, 2) := by decide +kernel
theorem dX10_weigh_183 : decode cX10_weigh 183 = .ok (.iconst 1, 1) := by decide +kernel
theorem dX10_weigh_184 : decode cX10_weigh 184 = .ok (.iadd, 1) := by decide +kernel
theorem dX10_weigh_185 : decode cX10_weigh 185 = .ok (.iaload, 1) := by decide +kernel
theorem dX10_weigh_186 : decode cX10_weigh 186 = .ok (.invokevirtual 54, 3) := by decide +kernel
theorem dX10_weigh_189 : decode cX10_weigh 189 = .ok (.iinc 5 (-1), 3) := by decide +kernel
theorem dX10_weigh_192 : decode cX10_weigh 192 = .ok (.goto (-150), 3) := by decide +kernel
theorem dX10_weigh_195 : decode cX10_weigh 195 = .ok (.aload_n 0, 1) := by decide +kernel
theorem dX10_weigh_196 : decode cX10_weigh 196 = .ok (.getfield 9, 3) := by decide +kernel
theorem dX10_weigh_199 : decode cX10_weigh 199 = .ok (.iconst 0, 1) := by decide +kernel
theorem dX10_weigh_200 : decode cX10_weigh 200 = .ok (.iaload, 1) := by decide +kernel
theorem dX10_weigh_201 : decode cX10_weigh 201 = .ok (.ireturn, 1) := by decide +kernel
theorem dX10_tryItem_0 : decode cX10_tryItem 0 = .ok (.iload 4, 2) := by decide +kernel
theorem dX10_tryItem_2 : decode cX10_tryItem 2 = .ok (.ldc 27, 2) := by decide +kernel
theorem dX10_tryItem_4 : decode cX10_tryItem 4 = .ok (.if_icmp .ge 33, 3) := by decide +kernel
theorem dX10_tryItem_7 : decode cX10_tryItem 7 = .ok (.iload_n 3, 1) := by decide +kernel
theorem dX10_tryItem_8 : decode cX10_tryItem 8 = .ok (.iload 4, 2) := by decide +kernel
theorem dX10_tryItem_10 : decode cX10_tryItem 10 = .ok (.iadd, 1) := by decide +kernel
theorem dX10_tryItem_11 : decode cX10_tryItem 11 = .ok (.aload_n 0, 1) := by decide +kernel
theorem dX10_tryItem_12 : decode cX10_tryItem 12 = .ok (.getfield 9, 3) := by decide +kernel
theorem dX10_tryItem_15 : decode cX10_tryItem 15 = .ok (.iload_n 2, 1) := by decide +kernel
theorem dX10_tryItem_16 : decode cX10_tryItem 16 = .ok (.iaload, 1) := by decide +kernel
theorem dX10_tryItem_17 : decode cX10_tryItem 17 = .ok (.if_icmp .ge 20, 3) := by decide +kernel
theorem dX10_tryItem_20 : decode cX10_tryItem 20 = .ok (.aload_n 0, 1) := by decide +kernel
theorem dX10_tryItem_21 : decode cX10_tryItem 21 = .ok (.getfield 9, 3) := by decide +kernel
theorem dX10_tryItem_24 : decode cX10_tryItem 24 = .ok (.iload_n 2, 1) := by decide +kernel
theorem dX10_tryItem_25 : decode cX10_tryItem 25 = .ok (.iload_n 3, 1) := by decide +kernel
theorem dX10_tryItem_26 : decode cX10_tryItem 26 = .ok (.iload 4, 2) := by decide +kernel
theorem dX10_tryItem_28 : decode cX10_tryItem 28 = .ok (.iadd, 1) := by decide +kernel
theorem dX10_tryItem_29 : decode cX10_tryItem 29 = .ok (.iastore, 1) := by decide +kernel
theorem dX10_tryItem_30 : decode cX10_tryItem 30 = .ok (.aload_n 0, 1) := by decide +kernel
theorem dX10_tryItem_31 : decode cX10_tryItem 31 = .ok (.getfield 15, 3) := by decide +kernel
theorem dX10_tryItem_34 : decode cX10_tryItem 34 = .ok (.iload_n 2, 1) := by decide +kernel
theorem dX10_tryItem_35 : decode cX10_tryItem 35 = .ok (.iload_n 1, 1) := by decide +kernel
theorem dX10_tryItem_36 : decode cX10_tryItem 36 = .ok (.iastore, 1) := by decide +kernel
theorem dX10_tryItem_37 : decode cX10_tryItem 37 = .ok (.return_, 1) := by decide +kernel
theorem dX10_layOut_0 : decode cX10_layOut 0 = .ok (.aload_n 0, 1) := by decide +kernel
theorem dX10_layOut_1 : decode cX10_layOut 1 = .ok (.getfield 23, 3) := by decide +kernel
theorem dX10_layOut_4 : decode cX10_layOut 4 = .ok (.invokevirtual 66, 3) := by decide +kernel
theorem dX10_layOut_7 : decode cX10_layOut 7 = .ok (.pop, 1) := by decide +kernel
theorem dX10_layOut_8 : decode cX10_layOut 8 = .ok (.aload_n 0, 1) := by decide +kernel
theorem dX10_layOut_9 : decode cX10_layOut 9 = .ok (.aload_n 1, 1) := by decide +kernel
theorem dX10_layOut_10 : decode cX10_layOut 10 = .ok (.aload_n 2, 1) := by decide +kernel
theorem dX10_layOut_11 : decode cX10_layOut 11 = .ok (.getfield 70, 3) := by decide +kernel
theorem dX10_layOut_14 : decode cX10_layOut 14 = .ok (.iconst 0, 1) := by decide +kernel
theorem dX10_layOut_15 : decode cX10_layOut 15 = .ok (.aload_n 2, 1) := by decide +kernel
theorem dX10_layOut_16 : decode cX10_layOut 16 = .ok (.getfield 73, 3) := by decide +kernel
theorem dX10_layOut_19 : decode cX10_layOut 19 = .ok (.invokevirtual 76, 3) := by decide +kernel
theorem dX10_layOut_22 : decode cX10_layOut 22 = .ok (.ldc 27, 2) := by decide +kernel
theorem dX10_layOut_24 : decode cX10_layOut 24 = .ok (.if_icmp .lt 5, 3) := by decide +kernel
theorem dX10_layOut_27 : decode cX10_layOut 27 = .ok (.iconst 0, 1) := by decide +kernel
theorem dX10_layOut_28 : decode cX10_layOut 28 = .ok (.ireturn, 1) := by decide +kernel
theorem dX10_layOut_29 : decode cX10_layOut 29 = .ok (.iconst 0, 1) := by decide +kernel
theorem dX10_layOut_30 : decode cX10_layOut 30 = .ok (.istore_n 3, 1) := by decide +kernel
theorem dX10_layOut_31 : decode cX10_layOut 31 = .ok (.iconst 0, 1) := by decide +kernel
theorem dX10_layOut_32 : decode cX10_layOut 32 = .ok (.istore 4, 2) := by decide +kernel
theorem dX10_layOut_34 : decode cX10_layOut 34 = .ok (.iload 4, 2) := by decide +kernel
theorem dX10_layOut_36 : decode cX10_layOut 36 = .ok (.bipush 10, 2) := by decide +kernel
theorem dX10_layOut_38 : decode cX10_layOut 38 = .ok (.if_icmp .ge 110, 3) := by decide +kernel
theorem dX10_layOut_41 : decode cX10_layOut 41 = .ok (.iload_n 3, 1) := by decide +kernel
theorem dX10_layOut_42 : decode cX10_layOut 42 = .ok (.aload_n 2, 1) := by decide +kernel
theorem dX10_layOut_43 : decode cX10_layOut 43 = .ok (.getfield 73, 3) := by decide +kernel
theorem dX10_layOut_46 : decode cX10_layOut 46 = .ok (.if_icmp .ge 102, 3) := by decide +kernel
theorem dX10_layOut_49 : decode cX10_layOut 49 = .ok (.aload_n 0, 1) := by decide +kernel
theorem dX10_layOut_50 : decode cX10_layOut 50 = .ok (.getfield 15, 3) := by decide +kernel
theorem dX10_layOut_53 : decode cX10_layOut 53 = .ok (.iload_n 3, 1) := by decide +kernel
theorem dX10_layOut_54 : decode cX10_layOut 54 = .ok (.iaload, 1) := by decide +kernel
theorem dX10_layOut_55 : decode cX10_layOut 55 = .ok (.istore 5, 2) := by decide +kernel
theorem dX10_layOut_57 : decode cX10_layOut 57 = .ok (.iload 5, 2) := by decide +kernel
theorem dX10_layOut_59 : decode cX10_layOut 59 = .ok (.bipush 12, 2) := by decide +kernel
theorem dX10_layOut_61 : decode cX10_layOut 61 = .ok (.if_icmp .ge 59, 3) := by decide +kernel
theorem dX10_layOut_64 : decode cX10_layOut 64 = .ok (.aload_n 0, 1) := by decide +kernel
theorem dX10_layOut_65 : decode cX10_layOut 65 = .ok (.getfield 23, 3) := by decide +kernel
theorem dX10_layOut_68 : decode cX10_layOut 68 = .ok (.aload_n 1, 1) := by decide +kernel
theorem dX10_layOut_69 : decode cX10_layOut 69 = .ok (.getfield 80, 3) := by decide +kernel
theorem dX10_layOut_72 : decode cX10_layOut 72 = .ok (.iload 5, 2) := by decide +kernel
theorem dX10_layOut_74 : decode cX10_layOut 74 = .ok (.iaload, 1) := by decide +kernel
theorem dX10_layOut_75 : decode cX10_layOut 75 = .ok (.invokevirtual 83, 3) := by decide +kernel
theorem dX10_layOut_78 : decode cX10_layOut 78 = .ok (.pop, 1) := by decide +kernel
theorem dX10_layOut_79 : decode cX10_layOut 79 = .ok (.aload_n 1, 1) := by decide +kernel
theorem dX10_layOut_80 : decode cX10_layOut 80 = .ok (.getfield 86, 3) := by decide +kernel
theorem dX10_layOut_83 : decode cX10_layOut 83 = .ok (.iload 5, 2) := by decide +kernel
theorem dX10_layOut_85 : decode cX10_layOut 85 = .ok (.iaload, 1) := by decide +kernel
theorem dX10_layOut_86 : decode cX10_layOut 86 = .ok (.ifCond .eq 18, 3) := by decide +kernel
theorem dX10_layOut_89 : decode cX10_layOut 89 = .ok (.aload_n 0, 1) := by decide +kernel
theorem dX10_layOut_90 : decode cX10_layOut 90 = .ok (.getfield 23, 3) := by decide +kernel
theorem dX10_layOut_93 : decode cX10_layOut 93 = .ok (.aload_n 1, 1) := by decide +kernel
theorem dX10_layOut_94 : decode cX10_layOut 94 = .ok (.getfield 86, 3) := by decide +kernel
theorem dX10_layOut_97 : decode cX10_layOut 97 = .ok (.iload 5, 2) := by decide +kernel
theorem dX10_layOut_99 : decode cX10_layOut 99 = .ok (.iaload, 1) := by decide +kernel
theorem dX10_layOut_100 : decode cX10_layOut 100 = .ok (.invokevirtual 83, 3) := by decide +kernel
theorem dX10_layOut_103 : decode cX10_layOut 103 = .ok (.pop, 1) := by decide +kernel
theorem dX10_layOut_104 : decode cX10_layOut 104 = .ok (.iload_n 3, 1) := by decide +kernel
theorem dX10_layOut_105 : decode cX10_layOut 105 = .ok (.aload_n 1, 1) := by decide +kernel
theorem dX10_layOut_106 : decode cX10_layOut 106 = .ok (.getfield 28, 3) := by decide +kernel
theorem dX10_layOut_109 : decode cX10_layOut 109 = .ok (.getfield 51, 3) := by decide +kernel
theorem dX10_layOut_112 : decode cX10_layOut 112 = .ok (.iload 5, 2) := by decide +kernel
theorem dX10_layOut_114 : decode cX10_layOut 114 = .ok (.iaload, 1) := by decide +kernel
theorem dX10_layOut_115 : decode cX10_layOut 115 = .ok (.iadd, 1) := by decide +kernel
theorem dX10_layOut_116 : decode cX10_layOut 116 = .ok (.istore_n 3, 1) := by decide +kernel
theorem dX10_layOut_117 : decode cX10_layOut 117 = .ok (.goto 25, 3) := by decide +kernel
theorem dX10_layOut_120 : decode cX10_layOut 120 = .ok (.aload_n 0, 1) := by decide +kernel
theorem dX10_layOut_121 : decode cX10_layOut 121 = .ok (.getfield 23, 3) := by decide +kernel
theorem dX10_layOut_124 : decode cX10_layOut 124 = .ok (.aload_n 1, 1) := by decide +kernel
theorem dX10_layOut_125 : decode cX10_layOut 125 = .ok (.getfield 58, 3) := by decide +kernel
theorem dX10_layOut_128 : decode cX10_layOut 128 = .ok (.aload_n 2, 1) := by decide +kernel
theorem dX10_layOut_129 : decode cX10_layOut 129 = .ok (.getfield 70, 3) := by decide +kernel
theorem dX10_layOut_132 : decode cX10_layOut 132 = .ok (.iload_n 3, 1) := by decide +kernel
theorem dX10_layOut_133 : decode cX10_layOut 133 = .ok (.iaload, 1) := by decide +kernel
theorem dX10_layOut_134 : decode cX10_layOut 134 = .ok (.iaload, 1) := by decide +kernel
theorem dX10_layOut_135 : decode cX10_layOut 135 = .ok (.invokevirtual 83, 3) := by decide +kernel
theorem dX10_layOut_138 : decode cX10_layOut 138 = .ok (.pop, 1) := by decide +kernel
theorem dX10_layOut_139 : decode cX10_layOut 139 = .ok (.iinc 3 1, 3) := by decide +kernel
theorem dX10_layOut_142 : decode cX10_layOut 142 = .ok (.iinc 4 1, 3) := by decide +kernel
theorem dX10_layOut_145 : decode cX10_layOut 145 = .ok (.goto (-111), 3) := by decide +kernel
theorem dX10_layOut_148 : decode cX10_layOut 148 = .ok (.iconst 1, 1) := by decide +kernel
theorem dX10_layOut_149 : decode cX10_layOut 149 = .ok (.ireturn, 1) := by decide +kernel
theorem dX10_pointsOfLine_0 : decode cX10_pointsOfLine 0 = .ok (.aload_n 0, 1) := by decide +kernel
theorem dX10_pointsOfLine_1 : decode cX10_pointsOfLine 1 = .ok (.getfield 9, 3) := by decide +kernel
theorem dX10_pointsOfLine_4 : decode cX10_pointsOfLine 4 = .ok (.iconst 0, 1) := by decide +kernel
theorem dX10_pointsOfLine_5 : decode cX10_pointsOfLine 5 = .ok (.iaload, 1) := by decide +kernel
theorem dX10_pointsOfLine_6 : decode cX10_pointsOfLine 6 = .ok (.invokestatic 89, 3) := by decide +kernel
theorem dX10_pointsOfLine_9 : decode cX10_pointsOfLine 9 = .ok (.ireturn, 1) := by decide +kernel
end
section
theorem dX11_init_0 : decode cX11_init 0 = .ok (.aload_n 0, 1) := by decide +kernel
theorem dX11_init_1 : decode cX11_init 1 = .ok (.invokespecial 1, 3) := by decide +kernel
theorem dX11_init_4 : decode cX11_init 4 = .ok (.aload_n 0, 1) := by decide +kernel
theorem dX11_init_5 : decode cX11_init 5 = .ok (.iconst 5, 1) := by decide +kernel
theorem dX11_init_6 : decode cX11_init 6 = .ok (.anewarray 9, 3) := by decide +kernel
theorem dX11_init_9 : decode cX11_init 9 = .ok (.putfield 11, 3) := by decide +kernel
theorem dX11_init_12 : decode cX11_init 12 = .ok (.iconst 0, 1) := by decide +kernel
theorem dX11_init_13 : decode cX11_init 13 = .ok (.istore_n 1, 1) := by decide +kernel
theorem dX11_init_14 : decode cX11_init 14 = .ok (.iload_n 1, 1) := by decide +kernel
theorem dX11_init_15 : decode cX11_init 15 = .ok (.iconst 5, 1) := by decide +kernel
theorem dX11_init_16 : decode cX11_init 16 = .ok (.if_icmp .ge 22, 3) := by decide +kernel
theorem dX11_init_19 : decode cX11_init 19 = .ok (.aload_n 0, 1) := by decide +kernel
theorem dX11_init_20 : decode cX11_init 20 = .ok (.getfield 11, 3) := by decide +kernel
theorem dX11_init_23 : decode cX11_init 23 = .ok (.iload_n 1, 1) := by decide +kernel
theorem dX11_init_24 : decode cX11_init 24 = .ok (.new 9, 3) := by decide +kernel
theorem dX11_init_27 : decode cX11_init 27 = .ok (.dup, 1) := by decide +kernel
theorem dX11_init_28 : decode cX11_init 28 = .ok (.invokespecial 15, 3) := by decide +kernel
theorem dX11_init_31 : decode cX11_init 31 = .ok (.aastore, 1) := by decide +kernel
theorem dX11_init_32 : decode cX11_init 32 = .ok (.iinc 1 1, 3) := by decide +kernel
theorem dX11_init_35 : decode cX11_init 35 = .ok (.goto (-21), 3) := by decide +kernel
theorem dX11_init_38 : decode cX11_init 38 = .ok (.aload_n 0, 1) := by decide +kernel
theorem dX11_init_39 : decode cX11_init 39 = .ok (.new 16, 3) := by decide +kernel
theorem dX11_init_42 : decode cX11_init 42 = .ok (.dup, 1) := by decide +kernel
theorem dX11_init_43 : decode cX11_init 43 = .ok (.bipush 10, 2) := by decide +kernel
theorem dX11_init_45 : decode cX11_init 45 = .ok (.invokespecial 18, 3) := by decide +kernel
theorem dX11_init_48 : decode cX11_init 48 = .ok (.putfield 21, 3) := by decide +kernel
theorem dX11_init_51 : decode cX11_init 51 = .ok (.aload_n 0, 1) := by decide +kernel
theorem dX11_init_52 : decode cX11_init 52 = .ok (.new 16, 3) := by decide +kernel
theorem dX11_init_55 : decode cX11_init 55 = .ok (.dup, 1) := by decide +kernel
theorem dX11_init_56 : decode cX11_init 56 = .ok (.bipush 12, 2) := by decide +kernel
theorem dX11_init_58 : decode cX11_init 58 = .ok (.invokespecial 18, 3) := by decide +kernel
theorem dX11_init_61 : decode cX11_init 61 = .ok (.putfield 25, 3) := by decide +kernel
theorem dX11_init_64 : decode cX11_init 64 = .ok (.aload_n 0, 1) := by decide +kernel
theorem dX11_init_65 : decode cX11_init 65 = .ok (.new 16, 3) := by decide +kernel
theorem dX11_init_68 : decode cX11_init 68 = .ok (.dup, 1) := by decide +kernel
theorem dX11_init_69 : decode cX11_init 69 = .ok (.bipush 40, 2) := by decide +kernel
theorem dX11_init_71 : decode cX11_init 71 = .ok (.invokespecial 18, 3) := by decide +kernel
theorem dX11_init_74 : decode cX11_init 74 = .ok (.putfield 28, 3) := by decide +kernel
theorem dX11_init_77 : decode cX11_init 77 = .ok (.aload_n 0, 1) := by decide +kernel
theorem dX11_init_78 : decode cX11_init 78 = .ok (.new 31, 3) := by decide +kernel
theorem dX11_init_81 : decode cX11_init 81 = .ok (.dup, 1) := by decide +kernel
theorem dX11_init_82 : decode cX11_init 82 = .ok (.invokespecial 33, 3) := by decide +kernel
theorem dX11_init_85 : decode cX11_init 85 = .ok (.putfield 34, 3) := by decide +kernel
theorem dX11_init_88 : decode cX11_init 88 = .ok (.aload_n 0, 1) := by decide +kernel
theorem dX11_init_89 : decode cX11_init 89 = .ok (.new 38, 3) := by decide +kernel
theorem dX11_init_92 : decode cX11_init 92 = .ok (.dup, 1) := by decide +kernel
theorem dX11_init_93 : decode cX11_init 93 = .ok (.invokespecial 40, 3) := by decide +kernel
theorem dX11_init_96 : decode cX11_init 96 = .ok (.putfield 41, 3) := by decide +kernel
theorem dX11_init_99 : decode cX11_init 99 = .ok (.aload_n 0, 1) := by decide +kernel
theorem dX11_init_100 : decode cX11_init 100 = .ok (.new 45, 3) := by decide +kernel
theorem dX11_init_103 : decode cX11_init 103 = .ok (.dup, 1) := by decide +kernel
theorem dX11_init_104 : decode cX11_init 104 = .ok (.aload_n 0, 1) := by decide +kernel
theorem dX11_init_105 : decode cX11_init 105 = .ok (.getfield 34, 3) := by decide +kernel
theorem dX11_init_108 : decode cX11_init 108 = .ok (.invokespecial 47, 3) := by decide +kernel
theorem dX11_init_111 : decode cX11_init 111 = .ok (.putfield 50, 3) := by decide +kernel
theorem dX11_init_114 : decode cX11_init 114 = .ok (.aload_n 0, 1) := by decide +kernel
theorem dX11_init_115 : decode cX11_init 115 = .ok (.bipush 20, 2) := by decide +kernel
theorem dX11_init_117 : decode cX11_init 117 = .ok (.anewarray 54, 3) := by decide +kernel
theorem dX11_init_120 : decode cX11_init 120 = .ok (.putfield 56, 3) := by decide +kernel
theorem dX11_init_123 : decode cX11_init 123 = .ok (.iconst 0, 1) := by decide +kernel
theorem dX11_init_124 : decode cX11_init 124 = .ok (.istore_n 1, 1) := by decide +kernel
theorem dX11_init_125 : decode cX11_init 125 = .ok (.iload_n 1, 1) := by decide +kernel
theorem dX11_init_126 : decode cX11_init 126 = .ok (.bipush 20, 2) := by decide +kernel
theorem dX11_init_128 : decode cX11_init 128 = .ok (.if_icmp .ge 22, 3) := by decide +kernel
theorem dX11_init_131 : decode cX11_init 131 = .ok (.aload_n 0, 1) := by decide +kernel
theorem dX11_init_132 : decode cX11_init 132 = .ok (.getfield 56, 3) := by decide +kernel
theorem dX11_init_135 : decode cX11_init 135 = .ok (.iload_n 1, 1) := by decide +kernel
theorem dX11_init_136 : decode cX11_init 136 = .ok (.new 54, 3) := by decide +kernel
theorem dX11_init_139 : decode cX11_init 139 = .ok (.dup, 1) := by decide +kernel
theorem dX11_init_140 : decode cX11_init 140 = .ok (.invokespecial 60, 3) := by decide +kernel
theorem dX11_init_143 : decode cX11_init 143 = .ok (.aastore, 1) := by decide +kernel
theorem dX11_init_144 : decode cX11_init 144 = .ok (.iinc 1 1, 3) := by decide +kernel
theorem dX11_init_147 : decode cX11_init 147 = .ok (.goto (-22), 3) := by decide +kernel
theorem dX11_init_150 : decode cX11_init 150 = .ok (.aload_n 0, 1) := by decide +kernel
theorem dX11_init_151 : decode cX11_init 151 = .ok (.iconst 0, 1) := by decide +kernel
theorem dX11_init_152 : decode cX11_init 152 = .ok (.putfield 61, 3) := by decide +kernel
theorem dX11_init_155 : decode cX11_init 155 = .ok (.aload_n 0, 1) := by decide +kernel
theorem dX11_init_156 : decode cX11_init 156 = .ok (.bipush 6, 2) := by decide +kernel
theorem dX11_init_158 : decode cX11_init 158 = .ok (.anewarray 65, 3) := by decide +kernel
theorem dX11_init_161 : decode cX11_init 161 = .ok (.putfield 67, 3) := by decide +kernel
theorem dX11_init_164 : decode cX11_init 164 = .ok (.iconst 0, 1) := by decide +kernel
theorem dX11_init_165 : decode cX11_init 165 = .ok (.istore_n 1, 1) := by decide +kernel
theorem dX11_init_166 : decode cX11_init 166 = .ok (.iload_n 1, 1) := by decide +kernel
theorem dX11_init_167 : decode cX11_init 167 = .ok (.bipush 6, 2) := by decide +kernel
theorem dX11_init_169 : decode cX11_init 169 = .ok (.if_icmp .ge 22, 3) := by decide +kernel
theorem dX11_init_172 : decode cX11_init 172 = .ok (.aload_n 0, 1) := by decide +kernel
theorem dX11_init_173 : decode cX11_init 173 = .ok (.getfield 67, 3) := by decide +kernel
theorem dX11_init_176 : decode cX11_init 176 = .ok (.iload_n 1, 1) := by decide +kernel
theorem dX11_init_177 : decode cX11_init 177 = .ok (.new 65, 3) := by decide +kernel
theorem dX11_init_180 : decode cX11_init 180 = .ok (.dup, 1) := by decide +kernel
theorem dX11_init_181 : decode cX11_init 181 = .ok (.invokespecial 71, 3) := by decide +kernel
theorem dX11_init_184 : decode cX11_init 184 = .ok (.aastore, 1) := by decide +kernel
theorem dX11_init_185 : decode cX11_init 185 = .ok (.iinc 1 1, 3) := by decide +kernel
theorem dX11_init_188 : decode cX11_init 188 = .ok (.goto (-22), 3) := by decide +kernel
theorem dX11_init_191 : decode cX11_init 191 = .ok (.aload_n 0, 1) := by decide +kernel
theorem dX11_init_192 : decode cX11_init 192 = .ok (.new 72, 3) := by decide +kernel
theorem dX11_init_195 : decode cX11_init 195 = .ok (.dup, 1) := by decide +kernel
theorem dX11_init_196 : decode cX11_init 196 = .ok (.invokespecial 74, 3) := by decide +kernel
theorem dX11_init_199 : decode cX11_init 199 = .ok (.putfield 75, 3) := by decide +kernel
theorem dX11_init_202 : decode cX11_init 202 = .ok (.aload_n 0, 1) := by decide +kernel
theorem dX11_init_203 : decode cX11_init 203 = .ok (.new 79, 3) := by decide +kernel
theorem dX11_init_206 : decode cX11_init 206 = .ok (.dup, 1) := by decide +kernel
theorem dX11_init_207 : decode cX11_init 207 = .ok (.aload_n 0, 1) := by decide +kernel
theorem dX11_init_208 : decode cX11_init 208 = .ok (.getfield 11, 3) := by decide +kernel
theorem dX11_init_211 : decode cX11_init 211 = .ok (.invokespecial 81, 3) := by decide +kernel
theorem dX11_init_214 : decode cX11_init 214 = .ok (.putfield 84, 3) := by decide +kernel
theorem dX11_init_217 : decode cX11_init 217 = .ok (.return_, 1) := by decide +kernel
theorem dX11_letter_0 : decode cX11_letter 0 = .ok (.aload_n 0, 1) := by decide +kernel
theorem dX11_letter_1 : decode cX11_letter 1 = .ok (.iload_n 1, 1) := by decide +kernel
theorem dX11_letter_2 : decode cX11_letter 2 = .ok (.invokevirtual 88, 3) := by decide +kernel
theorem dX11_letter_5 : decode cX11_letter 5 = .ok (.astore 4, 2) := by decide +kernel
theorem dX11_letter_7 : decode cX11_letter 7 = .ok (.aload 4, 2) := by decide +kernel
theorem dX11_letter_9 : decode cX11_letter 9 = .ok (.ifnull 13, 3) := by decide +kernel
theorem dX11_letter_12 : decode cX11_letter 12 = .ok (.iload_n 2, 1) := by decide +kernel
theorem dX11_letter_13 : decode cX11_letter 13 = .ok (.iconst 0, 1) := by decide +kernel
theorem dX11_letter_14 : decode cX11_letter 14 = .ok (.bipush 25, 2) := by decide +kernel
theorem dX11_letter_16 : decode cX11_letter 16 = .ok (.invokestatic 92, 3) := by decide +kernel
theorem dX11_letter_19 : decode cX11_letter 19 = .ok (.ifCond .ne 5, 3) := by decide +kernel
theorem dX11_letter_22 : decode cX11_letter 22 = .ok (.iconst (-1), 1) := by decide +kernel
theorem dX11_letter_23 : decode cX11_letter 23 = .ok (.ireturn, 1) := by decide +kernel
theorem dX11_letter_24 : decode cX11_letter 24 = .ok (.iload_n 3, 1) := by decide +kernel
theorem dX11_letter_25 : decode cX11_letter 25 = .ok (.iconst 0, 1) := by decide +kernel
theorem dX11_letter_26 : decode cX11_letter 26 = .ok (.bipush 63, 2) := by decide +kernel
theorem dX11_letter_28 : decode cX11_letter 28 = .ok (.invokestatic 92, 3) := by decide +kernel
theorem dX11_letter_31 : decode cX11_letter 31 = .ok (.ifCond .ne 6, 3) := by decide +kernel
theorem dX11_letter_34 : decode cX11_letter 34 = .ok (.bipush (-2), 2) := by decide +kernel
theorem dX11_letter_36 : decode cX11_letter 36 = .ok (.ireturn, 1) := by decide +kernel
theorem dX11_letter_37 : decode cX11_letter 37 = .ok (.aload 4, 2) := by decide +kernel
theorem dX11_letter_39 : decode cX11_letter 39 = .ok (.getfield 96, 3) := by decide +kernel
theorem dX11_letter_42 : decode cX11_letter 42 = .ok (.iload_n 2, 1) := by decide +kernel
theorem dX11_letter_43 : decode cX11_letter 43 = .ok (.iaload, 1) := by decide +kernel
theorem dX11_letter_44 : decode cX11_letter 44 = .ok (.istore 5, 2) := by decide +kernel
theorem dX11_letter_46 : decode cX11_letter 46 = .ok (.aload 4, 2) := by decide +kernel
theorem dX11_letter_48 : decode cX11_letter 48 = .ok (.getfield 96, 3) := by decide +kernel
theorem dX11_letter_51 : decode cX11_letter 51 = .ok (.iload_n 2, 1) := by decide +kernel
theorem dX11_letter_52 : decode cX11_letter 52 = .ok (.iload_n 3, 1) := by decide +kernel
theorem dX11_letter_53 : decode cX11_letter 53 = .ok (.iastore, 1) := by decide +kernel
theorem dX11_letter_54 : decode cX11_letter 54 = .ok (.iload 5, 2) := by decide +kernel
theorem dX11_letter_56 : decode cX11_letter 56 = .ok (.ireturn, 1) := by decide +kernel
theorem dX11_say_0 : decode cX11_say 0 = .ok (.iload_n 1, 1) := by decide +kernel
theorem dX11_say_1 : decode cX11_say 1 = .ok (.iconst 0, 1) := by decide +kernel
theorem dX11_say_2 : decode cX11_say 2 = .ok (.bipush 25, 2) := by decide +kernel
theorem dX11_say_4 : decode cX11_say 4 = .ok (.invokestatic 92, 3) := by decide +kernel
theorem dX11_say_7 : decode cX11_say 7 = .ok (.ifCond .ne 5, 3) := by decide +kernel
theorem dX11_say_10 : decode cX11_say 10 = .ok (.iconst (-1), 1) := by decide +kernel
theorem dX11_say_11 : decode cX11_say 11 = .ok (.ireturn, 1) := by decide +kernel
theorem dX11_say_12 : decode cX11_say 12 = .ok (.aload_n 0, 1) := by decide +kernel
theorem dX11_say_13 : decode cX11_say 13 = .ok (.getfield 21, 3) := by decide +kernel
theorem dX11_say_16 : decode cX11_say 16 = .ok (.invokevirtual 100, 3) := by decide +kernel
theorem dX11_say_19 : decode cX11_say 19 = .ok (.ifCond .eq 8, 3) := by decide +kernel
theorem dX11_say_22 : decode cX11_say 22 = .ok (.bipush (-4), 2) := by decide +kernel
theorem dX11_say_24 : decode cX11_say 24 = .ok (.goto 11, 3) := by decide +kernel
theorem dX11_say_27 : decode cX11_say 27 = .ok (.aload_n 0, 1) := by decide +kernel
theorem dX11_say_28 : decode cX11_say 28 = .ok (.getfield 21, 3) := by decide +kernel
theorem dX11_say_31 : decode cX11_say 31 = .ok (.iload_n 1, 1) := by decide +kernel
theorem dX11_say_32 : decode cX11_say 32 = .ok (.invokevirtual 104, 3) := by decide +kernel
theorem dX11_say_35 : decode cX11_say 35 = .ok (.ireturn, 1) := by decide +kernel
theorem dX11_dot_0 : decode cX11_dot 0 = .ok (.iload_n 1, 1) := by decide +kernel
theorem dX11_dot_1 : decode cX11_dot 1 = .ok (.iconst 1, 1) := by decide +kernel
theorem dX11_dot_2 : decode cX11_dot 2 = .ok (.bipush 63, 2) := by decide +kernel
theorem dX11_dot_4 : decode cX11_dot 4 = .ok (.invokestatic 92, 3) := by decide +kernel
theorem dX11_dot_7 : decode cX11_dot 7 = .ok (.ifCond .ne 6, 3) := by decide +kernel
theorem dX11_dot_10 : decode cX11_dot 10 = .ok (.bipush (-2), 2) := by decide +kernel
theorem dX11_dot_12 : decode cX11_dot 12 = .ok (.ireturn, 1) := by decide +kernel
theorem dX11_dot_13 : decode cX11_dot 13 = .ok (.aload_n 0, 1) := by decide +kernel
theorem dX11_dot_14 : decode cX11_dot 14 = .ok (.getfield 25, 3) := by decide +kernel
theorem dX11_dot_17 : decode cX11_dot 17 = .ok (.invokevirtual 100, 3) := by decide +kernel
theorem dX11_dot_20 : decode cX11_dot 20 = .ok (.ifCond .eq 8, 3) := by decide +kernel
theorem dX11_dot_23 : decode cX11_dot 23 = .ok (.bipush (-4), 2) := by decide +kernel
theorem dX11_dot_25 : decode cX11_dot 25 = .ok (.goto 11, 3) := by decide +kernel
theorem dX11_dot_28 : decode cX11_dot 28 = .ok (.aload_n 0, 1) := by decide +kernel
theorem dX11_dot_29 : decode cX11_dot 29 = .ok (.getfield 25, 3) := by decide +kernel
theorem dX11_dot_32 : decode cX11_dot 32 = .ok (.iload_n 1, 1) := by decide +kernel
theorem dX11_dot_33 : decode cX11_dot 33 = .ok (.invokevirtual 104, 3) := by decide +kernel
theorem dX11_dot_36 : decode cX11_dot 36 = .ok (.ireturn, 1) := by decide +kernel
theorem dX11_wipe_0 : decode cX11_wipe 0 = .ok (.iload_n 1, 1) := by decide +kernel
theorem dX11_wipe_1 : decode cX11_wipe 1 = .ok (.tableswitch 51 0 2 #[27, 35, 43], 27) := by decide +kernel
theorem dX11_wipe_28 : decode cX11_wipe 28 = .ok (.aload_n 0, 1) := by decide +kernel
theorem dX11_wipe_29 : decode cX11_wipe 29 = .ok (.getfield 21, 3) := by decide +kernel
theorem dX11_wipe_32 : decode cX11_wipe 32 = .ok (.invokevirtual 108, 3) := by decide +kernel
theorem dX11_wipe_35 : decode cX11_wipe 35 = .ok (.ireturn, 1) := by decide +kernel
theorem dX11_wipe_36 : decode cX11_wipe 36 = .ok (.aload_n 0, 1) := by decide +kernel
theorem dX11_wipe_37 : decode cX11_wipe 37 = .ok (.getfield 25, 3) := by decide +kernel
theorem dX11_wipe_40 : decode cX11_wipe 40 = .ok (.invokevirtual 108, 3) := by decide +kernel
theorem dX11_wipe_43 : decode cX11_wipe 43 = .ok (.ireturn, 1) := by decide +kernel
theorem dX11_wipe_44 : decode cX11_wipe 44 = .ok (.aload_n 0, 1) := by decide +kernel
theorem dX11_wipe_45 : decode cX11_wipe 45 = .ok (.getfield 28, 3) := by decide +kernel
theorem dX11_wipe_48 : decode cX11_wipe 48 = .ok (.invokevirtual 108, 3) := by decide +kernel
theorem dX11_wipe_51 : decode cX11_wipe 51 = .ok (.ireturn, 1) := by decide +kernel
theorem dX11_wipe_52 : decode cX11_wipe 52 = .ok (.bipush (-2), 2) := by decide +kernel
theorem dX11_wipe_54 : decode cX11_wipe 54 = .ok (.ireturn, 1) := by decide +kernel
theorem dX11_abbreviate_0 : decode cX11_abbreviate 0 = .ok (.aload_n 0, 1) := by decide +kernel
theorem dX11_abbreviate_1 : decode cX11_abbreviate 1 = .ok (.iload_n 1, 1) := by decide +kernel
theorem dX11_abbreviate_2 : decode cX11_abbreviate 2 = .ok (.invokevirtual 88, 3) := by decide +kernel
theorem dX11_abbreviate_5 : decode cX11_abbreviate 5 = .ok (.astore_n 2, 1) := by decide +kernel
theorem dX11_abbreviate_6 : decode cX11_abbreviate 6 = .ok (.aload_n 2, 1) := by decide +kernel
theorem dX11_abbreviate_7 : decode cX11_abbreviate 7 = .ok (.ifnonnull 5, 3) := by decide +kernel
theorem dX11_abbreviate_10 : decode cX11_abbreviate 10 = .ok (.iconst (-1), 1) := by decide +kernel
theorem dX11_abbreviate_11 : decode cX11_abbreviate 11 = .ok (.ireturn, 1) := by decide +kernel
theorem dX11_abbreviate_12 : decode cX11_abbreviate 12 = .ok (.aload_n 2, 1) := by decide +kernel
theorem dX11_abbreviate_13 : decode cX11_abbreviate 13 = .ok (.getfield 112, 3) := by decide +kernel
theorem dX11_abbreviate_16 : decode cX11_abbreviate 16 = .ok (.invokevirtual 116, 3) := by decide +kernel
theorem dX11_abbreviate_19 : decode cX11_abbreviate 19 = .ok (.ifCond .eq 6, 3) := by decide +kernel
theorem dX11_abbreviate_22 : decode cX11_abbreviate 22 = .ok (.bipush (-4), 2) := by decide +kernel
theorem dX11_abbreviate_24 : decode cX11_abbreviate 24 = .ok (.ireturn, 1) := by decide +kernel
theorem dX11_abbreviate_25 : decode cX11_abbreviate 25 = .ok (.aload_n 0, 1) := by decide +kernel
theorem dX11_abbreviate_26 : decode cX11_abbreviate 26 = .ok (.getfield 21, 3) := by decide +kernel
theorem dX11_abbreviate_29 : decode cX11_abbreviate 29 = .ok (.getfield 119, 3) := by decide +kernel
theorem dX11_abbreviate_32 : decode cX11_abbreviate 32 = .ok (.iconst 2, 1) := by decide +kernel
theorem dX11_abbreviate_33 : decode cX11_abbreviate 33 = .ok (.iconst 4, 1) := by decide +kernel
theorem dX11_abbreviate_34 : decode cX11_abbreviate 34 = .ok (.invokestatic 92, 3) := by decide +kernel
theorem dX11_abbreviate_37 : decode cX11_abbreviate 37 = .ok (.ifCond .eq 18, 3) := by decide +kernel
theorem dX11_abbreviate_40 : decode cX11_abbreviate 40 = .ok (.aload_n 0, 1) := by decide +kernel
theorem dX11_abbreviate_41 : decode cX11_abbreviate 41 = .ok (.getfield 25, 3) := by decide +kernel
theorem dX11_abbreviate_44 : decode cX11_abbreviate 44 = .ok (.getfield 119, 3) := by decide +kernel
theorem dX11_abbreviate_47 : decode cX11_abbreviate 47 = .ok (.iconst 1, 1) := by decide +kernel
theorem dX11_abbreviate_48 : decode cX11_abbreviate 48 = .ok (.iconst 2, 1) := by decide +kernel
theorem dX11_abbreviate_49 : decode cX11_abbreviate 49 = .ok (.invokestatic 92, 3) := by decide +kernel
theorem dX11_abbreviate_52 : decode cX11_abbreviate 52 = .ok (.ifCond .ne 6, 3) := by decide +kernel
theorem dX11_abbreviate_55 : decode cX11_abbreviate 55 = .ok (.bipush (-5), 2) := by decide +kernel
theorem dX11_abbreviate_57 : decode cX11_abbreviate 57 = .ok (.ireturn, 1) := by decide +kernel
theorem dX11_abbreviate_58 : decode cX11_abbreviate 58 = .ok (.aload_n 2, 1) := by decide +kernel
theorem dX11_abbreviate_59 : decode cX11_abbreviate 59 = .ok (.aload_n 0, 1) := by decide +kernel
theorem dX11_abbreviate_60 : decode cX11_abbreviate 60 = .ok (.getfield 21, 3) := by decide +kernel
theorem dX11_abbreviate_63 : decode cX11_abbreviate 63 = .ok (.aload_n 0, 1) := by decide +kernel
theorem dX11_abbreviate_64 : decode cX11_abbreviate 64 = .ok (.getfield 25, 3) := by decide +kernel
theorem dX11_abbreviate_67 : decode cX11_abbreviate 67 = .ok (.invokevirtual 122, 3) := by decide +kernel
theorem dX11_abbreviate_70 : decode cX11_abbreviate 70 = .ok (.ireturn, 1) := by decide +kernel
theorem dX11_write_0 : decode cX11_write 0 = .ok (.aload_n 0, 1) := by decide +kernel
theorem dX11_write_1 : decode cX11_write 1 = .ok (.iload_n 1, 1) := by decide +kernel
theorem dX11_write_2 : decode cX11_write 2 = .ok (.invokevirtual 88, 3) := by decide +kernel
theorem dX11_write_5 : decode cX11_write 5 = .ok (.astore_n 3, 1) := by decide +kernel
theorem dX11_write_6 : decode cX11_write 6 = .ok (.aload_n 3, 1) := by decide +kernel
theorem dX11_write_7 : decode cX11_write 7 = .ok (.ifnonnull 5, 3) := by decide +kernel
theorem dX11_write_10 : decode cX11_write 10 = .ok (.iconst (-1), 1) := by decide +kernel
theorem dX11_write_11 : decode cX11_write 11 = .ok (.ireturn, 1) := by decide +kernel
theorem dX11_write_12 : decode cX11_write 12 = .ok (.aload_n 0, 1) := by decide +kernel
theorem dX11_write_13 : decode cX11_write 13 = .ok (.getfield 34, 3) := by decide +kernel
theorem dX11_write_16 : decode cX11_write 16 = .ok (.aload_n 3, 1) := by decide +kernel
theorem dX11_write_17 : decode cX11_write 17 = .ok (.aload_n 0, 1) := by decide +kernel
theorem dX11_write_18 : decode cX11_write 18 = .ok (.getfield 21, 3) := by decide +kernel
theorem dX11_write_21 : decode cX11_write 21 = .ok (.invokevirtual 126, 3) := by decide +kernel
theorem dX11_write_24 : decode cX11_write 24 = .ok (.ifCond .ne 6, 3) := by decide +kernel
theorem dX11_write_27 : decode cX11_write 27 = .ok (.bipush (-5), 2) := by decide +kernel
theorem dX11_write_29 : decode cX11_write 29 = .ok (.ireturn, 1) := by decide +kernel
theorem dX11_write_30 : decode cX11_write 30 = .ok (.iload_n 2, 1) := by decide +kernel
theorem dX11_write_31 : decode cX11_write 31 = .ok (.iconst (-1), 1) := by decide +kernel
theorem dX11_write_32 : decode cX11_write 32 = .ok (.if_icmp .ne 14, 3) := by decide +kernel
theorem dX11_write_35 : decode cX11_write 35 = .ok (.aload_n 0, 1) := by decide +kernel
theorem dX11_write_36 : decode cX11_write 36 = .ok (.getfield 34, 3) := by decide +kernel
theorem dX11_write_39 : decode cX11_write 39 = .ok (.getfield 130, 3) := by decide +kernel
theorem dX11_write_42 : decode cX11_write 42 = .ok (.getfield 119, 3) := by decide +kernel
theorem dX11_write_45 : decode cX11_write 45 = .ok (.ireturn, 1) := by decide +kernel
theorem dX11_write_46 : decode cX11_write 46 = .ok (.iload_n 2, 1) := by decide +kernel
theorem dX11_write_47 : decode cX11_write 47 = .ok (.bipush (-2), 2) := by decide +kernel
theorem dX11_write_49 : decode cX11_write 49 = .ok (.if_icmp .ne 13, 3) := by decide +kernel
theorem dX11_write_52 : decode cX11_write 52 = .ok (.aload_n 0, 1) := by decide +kernel
theorem dX11_write_53 : decode cX11_write 53 = .ok (.getfield 34, 3) := by decide +kernel
theorem dX11_write_56 : decode cX11_write 56 = .ok (.invokevirtual 133, 3) := by decide +kernel
theorem dX11_write_59 : decode cX11_write 59 = .ok (.goto 14, 3) := by decide +kernel
theorem dX11_write_62 : decode cX11_write 62 = .ok (.aload_n 0, 1) := by decide +kernel
theorem dX11_write_63 : decode cX11_write 63 = .ok (.getfield 34, 3) := by decide +kernel
theorem dX11_write_66 : decode cX11_write 66 = .ok (.getfield 130, 3) := by decide +kernel
theorem dX11_write_69 : decode cX11_write 69 = .ok (.iload_n 2, 1) := by decide +kernel
theorem dX11_write_70 : decode cX11_write 70 = .ok (.invokevirtual 136, 3) := by decide +kernel
theorem dX11_write_73 : decode cX11_write 73 = .ok (.ireturn, 1) := by decide +kernel
theorem dX11_read_0 : decode cX11_read 0 = .ok (.aload_n 0, 1) := by decide +kernel
theorem dX11_read_1 : decode cX11_read 1 = .ok (.iload_n 1, 1) := by decide +kernel
theorem dX11_read_2 : decode cX11_read 2 = .ok (.invokevirtual 88, 3) := by decide +kernel
theorem dX11_read_5 : decode cX11_read 5 = .ok (.astore_n 3, 1) := by decide +kernel
theorem dX11_read_6 : decode cX11_read 6 = .ok (.aload_n 3, 1) := by decide +kernel
theorem dX11_read_7 : decode cX11_read 7 = .ok (.ifnonnull 5, 3) := by decide +kernel
theorem dX11_read_10 : decode cX11_read 10 = .ok (.iconst (-1), 1) := by decide +kernel
theorem dX11_read_11 : decode cX11_read 11 = .ok (.ireturn, 1) := by decide +kernel
theorem dX11_read_12 : decode cX11_read 12 = .ok (.aload_n 0, 1) := by decide +kernel
theorem dX11_read_13 : decode cX11_read 13 = .ok (.getfield 41, 3) := by decide +kernel
theorem dX11_read_16 : decode cX11_read 16 = .ok (.aload_n 3, 1) := by decide +kernel
theorem dX11_read_17 : decode cX11_read 17 = .ok (.aload_n 0, 1) := by decide +kernel
theorem dX11_read_18 : decode cX11_read 18 = .ok (.getfield 25, 3) := by decide +kernel
theorem dX11_read_21 : decode cX11_read 21 = .ok (.invokevirtual 139, 3) := by decide +kernel
theorem dX11_read_24 : decode cX11_read 24 = .ok (.istore 4, 2) := by decide +kernel
theorem dX11_read_26 : decode cX11_read 26 = .ok (.iload_n 2, 1) := by decide +kernel
theorem dX11_read_27 : decode cX11_read 27 = .ok (.iconst (-1), 1) := by decide +kernel
theorem dX11_read_28 : decode cX11_read 28 = .ok (.if_icmp .ne 6, 3) := by decide +kernel
theorem dX11_read_31 : decode cX11_read 31 = .ok (.iload 4, 2) := by decide +kernel
theorem dX11_read_33 : decode cX11_read 33 = .ok (.ireturn, 1) := by decide +kernel
theorem dX11_read_34 : decode cX11_read 34 = .ok (.aload_n 0, 1) := by decide +kernel
theorem dX11_read_35 : decode cX11_read 35 = .ok (.getfield 41, 3) := by decide +kernel
theorem dX11_read_38 : decode cX11_read 38 = .ok (.aload_n 3, 1) := by decide +kernel
theorem dX11_read_39 : decode cX11_read 39 = .ok (.aload_n 0, 1) := by decide +kernel
theorem dX11_read_40 : decode cX11_read 40 = .ok (.getfield 25, 3) := by decide +kernel
theorem dX11_read_43 : decode cX11_read 43 = .ok (.invokevirtual 143, 3) := by decide +kernel
theorem dX11_read_46 : decode cX11_read 46 = .ok (.iload_n 2, 1) := by decide +kernel
theorem dX11_read_47 : decode cX11_read 47 = .ok (.bipush (-2), 2) := by decide +kernel
theorem dX11_read_49 : decode cX11_read 49 = .ok (.if_icmp .ne 16, 3) := by decide +kernel
theorem dX11_read_52 : decode cX11_read 52 = .ok (.aload_n 0, 1) := by decide +kernel
theorem dX11_read_53 : decode cX11_read 53 = .ok (.getfield 41, 3) := by decide +kernel
theorem dX11_read_56 : decode cX11_read 56 = .ok (.getfield 147, 3) := by decide +kernel
theorem dX11_read_59 : decode cX11_read 59 = .ok (.getfield 119, 3) := by decide +kernel
theorem dX11_read_62 : decode cX11_read 62 = .ok (.goto 14, 3) := by decide +kernel
theorem dX11_read_65 : decode cX11_read 65 = .ok (.aload_n 0, 1) := by decide +kernel
theorem dX11_read_66 : decode cX11_read 66 = .ok (.getfield 41, 3) := by decide +kernel
theorem dX11_read_69 : decode cX11_read 69 = .ok (.getfield 147, 3) := by decide +kernel
theorem dX11_read_72 : decode cX11_read 72 = .ok (.iload_n 2, 1) := by decide +kernel
theorem dX11_read_73 : decode cX11_read 73 = .ok (.invokevirtual 136, 3) := by decide +kernel
theorem dX11_read_76 : decode cX11_read 76 = .ok (.ireturn, 1) := by decide +kernel
theorem dX11_ways_0 : decode cX11_ways 0 = .ok (.aload_n 0, 1) := by decide +kernel
theorem dX11_ways_1 : decode cX11_ways 1 = .ok (.iload_n 1, 1) := by decide +kernel
theorem dX11_ways_2 : decode cX11_ways 2 = .ok (.invokevirtual 88, 3) := by decide +kernel
theorem dX11_ways_5 : decode cX11_ways 5 = .ok (.astore_n 3, 1) := by decide +kernel
theorem dX11_ways_6 : decode cX11_ways 6 = .ok (.aload_n 3, 1) := by decide +kernel
theorem dX11_ways_7 : decode cX11_ways 7 = .ok (.ifnonnull 5, 3) := by decide +kernel
theorem dX11_ways_10 : decode cX11_ways 10 = .ok (.iconst (-1), 1) := by decide +kernel
theorem dX11_ways_11 : decode cX11_ways 11 = .ok (.ireturn, 1) := by decide +kernel
theorem dX11_ways_12 : decode cX11_ways 12 = .ok (.aload_n 0, 1) := by decide +kernel
theorem dX11_ways_13 : decode cX11_ways 13 = .ok (.getfield 41, 3) := by decide +kernel
theorem dX11_ways_16 : decode cX11_ways 16 = .ok (.aload_n 3, 1) := by decide +kernel
theorem dX11_ways_17 : decode cX11_ways 17 = .ok (.invokevirtual 150, 3) := by decide +kernel
theorem dX11_ways_20 : decode cX11_ways 20 = .ok (.iload_n 2, 1) := by decide +kernel
theorem dX11_ways_21 : decode cX11_ways 21 = .ok (.iconst (-1), 1) := by decide +kernel
theorem dX11_ways_22 : decode cX11_ways 22 = .ok (.if_icmp .ne 16, 3) := by decide +kernel
theorem dX11_ways_25 : decode cX11_ways 25 = .ok (.aload_n 0, 1) := by decide +kernel
theorem dX11_ways_26 : decode cX11_ways 26 = .ok (.getfield 41, 3) := by decide +kernel
theorem dX11_ways_29 : decode cX11_ways 29 = .ok (.getfield 154, 3) := by decide +kernel
theorem dX11_ways_32 : decode cX11_ways 32 = .ok (.getfield 119, 3) := by decide +kernel
theorem dX11_ways_35 : decode cX11_ways 35 = .ok (.goto 14, 3) := by decide +kernel
theorem dX11_ways_38 : decode cX11_ways 38 = .ok (.aload_n 0, 1) := by decide +kernel
theorem dX11_ways_39 : decode cX11_ways 39 = .ok (.getfield 41, 3) := by decide +kernel
theorem dX11_ways_42 : decode cX11_ways 42 = .ok (.getfield 154, 3) := by decide +kernel
theorem dX11_ways_45 : decode cX11_ways 45 = .ok (.iload_n 2, 1) := by decide +kernel
theorem dX11_ways_46 : decode cX11_ways 46 = .ok (.invokevirtual 136, 3) := by decide +kernel
theorem dX11_ways_49 : decode cX11_ways 49 = .ok (.ireturn, 1) := by decide +kernel
theorem dX11_word_0 : decode cX11_word 0 = .ok (.aload_n 0, 1) := by decide +kernel
theorem dX11_word_1 : decode cX11_word 1 = .ok (.getfield 50, 3) := by decide +kernel
theorem dX11_word_4 : decode cX11_word 4 = .ok (.getfield 157, 3) := by decide +kernel
theorem dX11_word_7 : decode cX11_word 7 = .ok (.invokevirtual 116, 3) := by decide +kernel
theorem dX11_word_10 : decode cX11_word 10 = .ok (.ifCond .eq 6, 3) := by decide +kernel
theorem dX11_word_13 : decode cX11_word 13 = .ok (.bipush (-4), 2) := by decide +kernel
theorem dX11_word_15 : decode cX11_word 15 = .ok (.ireturn, 1) := by decide +kernel
theorem dX11_word_16 : decode cX11_word 16 = .ok (.aload_n 0, 1) := by decide +kernel
theorem dX11_word_17 : decode cX11_word 17 = .ok (.getfield 21, 3) := by decide +kernel
theorem dX11_word_20 : decode cX11_word 20 = .ok (.getfield 119, 3) := by decide +kernel
theorem dX11_word_23 : decode cX11_word 23 = .ok (.ifCond .ne 8, 3) := by decide +kernel
theorem dX11_word_26 : decode cX11_word 26 = .ok (.bipush (-5), 2) := by decide +kernel
theorem dX11_word_28 : decode cX11_word 28 = .ok (.goto 17, 3) := by decide +kernel
theorem dX11_word_31 : decode cX11_word 31 = .ok (.aload_n 0, 1) := by decide +kernel
theorem dX11_word_32 : decode cX11_word 32 = .ok (.getfield 50, 3) := by decide +kernel
theorem dX11_word_35 : decode cX11_word 35 = .ok (.getfield 157, 3) := by decide +kernel
theorem dX11_word_38 : decode cX11_word 38 = .ok (.aload_n 0, 1) := by decide +kernel
theorem dX11_word_39 : decode cX11_word 39 = .ok (.getfield 21, 3) := by decide +kernel
theorem dX11_word_42 : decode cX11_word 42 = .ok (.invokevirtual 160, 3) := by decide +kernel
theorem dX11_word_45 : decode cX11_word 45 = .ok (.ireturn, 1) := by decide +kernel
theorem dX11_count_0 : decode cX11_count 0 = .ok (.iload_n 1, 1) := by decide +kernel
theorem dX11_count_1 : decode cX11_count 1 = .ok (.iconst 0, 1) := by decide +kernel
theorem dX11_count_2 : decode cX11_count 2 = .ok (.bipush 7, 2) := by decide +kernel
theorem dX11_count_4 : decode cX11_count 4 = .ok (.invokestatic 92, 3) := by decide +kernel
theorem dX11_count_7 : decode cX11_count 7 = .ok (.ifCond .eq 23, 3) := by decide +kernel
theorem dX11_count_10 : decode cX11_count 10 = .ok (.iload_n 2, 1) := by decide +kernel
theorem dX11_count_11 : decode cX11_count 11 = .ok (.iconst 0, 1) := by decide +kernel
theorem dX11_count_12 : decode cX11_count 12 = .ok (.aload_n 0, 1) := by decide +kernel
theorem dX11_count_13 : decode cX11_count 13 = .ok (.getfield 50, 3) := by decide +kernel
theorem dX11_count_16 : decode cX11_count 16 = .ok (.getfield 157, 3) := by decide +kernel
theorem dX11_count_19 : decode cX11_count 19 = .ok (.getfield 164, 3) := by decide +kernel
theorem dX11_count_22 : decode cX11_count 22 = .ok (.iconst 1, 1) := by decide +kernel
theorem dX11_count_23 : decode cX11_count 23 = .ok (.isub, 1) := by decide +kernel
theorem dX11_count_24 : decode cX11_count 24 = .ok (.invokestatic 92, 3) := by decide +kernel
theorem dX11_count_27 : decode cX11_count 27 = .ok (.ifCond .ne 5, 3) := by decide +kernel
theorem dX11_count_30 : decode cX11_count 30 = .ok (.iconst (-1), 1) := by decide +kernel
theorem dX11_count_31 : decode cX11_count 31 = .ok (.ireturn, 1) := by decide +kernel
theorem dX11_count_32 : decode cX11_count 32 = .ok (.iload_n 3, 1) := by decide +kernel
theorem dX11_count_33 : decode cX11_count 33 = .ok (.iconst 0, 1) := by decide +kernel
theorem dX11_count_34 : decode cX11_count 34 = .ok (.sipush 1000, 3) := by decide +kernel
theorem dX11_count_37 : decode cX11_count 37 = .ok (.invokestatic 92, 3) := by decide +kernel
theorem dX11_count_40 : decode cX11_count 40 = .ok (.ifCond .ne 6, 3) := by decide +kernel
theorem dX11_count_43 : decode cX11_count 43 = .ok (.bipush (-2), 2) := by decide +kernel
theorem dX11_count_45 : decode cX11_count 45 = .ok (.ireturn, 1) := by decide +kernel
theorem dX11_count_46 : decode cX11_count 46 = .ok (.aload_n 0, 1) := by decide +kernel
theorem dX11_count_47 : decode cX11_count 47 = .ok (.getfield 50, 3) := by decide +kernel
theorem dX11_count_50 : decode cX11_count 50 = .ok (.getfield 167, 3) := by decide +kernel
theorem dX11_count_53 : decode cX11_count 53 = .ok (.iload_n 1, 1) := by decide +kernel
theorem dX11_count_54 : decode cX11_count 54 = .ok (.aaload, 1) := by decide +kernel
theorem dX11_count_55 : decode cX11_count 55 = .ok (.iload_n 2, 1) := by decide +kernel
theorem dX11_count_56 : decode cX11_count 56 = .ok (.iaload, 1) := by decide +kernel
theorem dX11_count_57 : decode cX11_count 57 = .ok (.istore 4, 2) := by decide +kernel
theorem dX11_count_59 : decode cX11_count 59 = .ok (.aload_n 0, 1) := by decide +kernel
theorem dX11_count_60 : decode cX11_count 60 = .ok (.getfield 50, 3) := by decide +kernel
theorem dX11_count_63 : decode cX11_count 63 = .ok (.getfield 167, 3) := by decide +kernel
theorem dX11_count_66 : decode cX11_count 66 = .ok (.iload_n 1, 1) := by decide +kernel
theorem dX11_count_67 : decode cX11_count 67 = .ok (.aaload, 1) := by decide +kernel
theorem dX11_count_68 : decode cX11_count 68 = .ok (.iload_n 2, 1) := by decide +kernel
theorem dX11_count_69 : decode cX11_count 69 = .ok (.iload_n 3, 1) := by decide +kernel
theorem dX11_count_70 : decode cX11_count 70 = .ok (.iastore, 1) := by decide +kernel
theorem dX11_count_71 : decode cX11_count 71 = .ok (.iload 4, 2) := by decide +kernel
theorem dX11_count_73 : decode cX11_count 73 = .ok (.ireturn, 1) := by decide +kernel
theorem dX11_room_0 : decode cX11_room 0 = .ok (.aload_n 0, 1) := by decide +kernel
theorem dX11_room_1 : decode cX11_room 1 = .ok (.iload_n 2, 1) := by decide +kernel
theorem dX11_room_2 : decode cX11_room 2 = .ok (.invokevirtual 88, 3) := by decide +kernel
theorem dX11_room_5 : decode cX11_room 5 = .ok (.astore 4, 2) := by decide +kernel
theorem dX11_room_7 : decode cX11_room 7 = .ok (.aload 4, 2) := by decide +kernel
theorem dX11_room_9 : decode cX11_room 9 = .ok (.ifnull 13, 3) := by decide +kernel
theorem dX11_room_12 : decode cX11_room 12 = .ok (.iload_n 1, 1) := by decide +kernel
theorem dX11_room_13 : decode cX11_room 13 = .ok (.iconst 0, 1) := by decide +kernel
theorem dX11_room_14 : decode cX11_room 14 = .ok (.bipush 7, 2) := by decide +kernel
theorem dX11_room_16 : decode cX11_room 16 = .ok (.invokestatic 92, 3) := by decide +kernel
theorem dX11_room_19 : decode cX11_room 19 = .ok (.ifCond .ne 5, 3) := by decide +kernel
theorem dX11_room_22 : decode cX11_room 22 = .ok (.iconst (-1), 1) := by decide +kernel
theorem dX11_room_23 : decode cX11_room 23 = .ok (.ireturn, 1) := by decide +kernel
theorem dX11_room_24 : decode cX11_room 24 = .ok (.iload_n 3, 1) := by decide +kernel
theorem dX11_room_25 : decode cX11_room 25 = .ok (.iconst 0, 1) := by decide +kernel
theorem dX11_room_26 : decode cX11_room 26 = .ok (.iconst 2, 1) := by decide +kernel
theorem dX11_room_27 : decode cX11_room 27 = .ok (.invokestatic 92, 3) := by decide +kernel
theorem dX11_room_30 : decode cX11_room 30 = .ok (.ifCond .ne 6, 3) := by decide +kernel
theorem dX11_room_33 : decode cX11_room 33 = .ok (.bipush (-2), 2) := by decide +kernel
theorem dX11_room_35 : decode cX11_room 35 = .ok (.ireturn, 1) := by decide +kernel
theorem dX11_room_36 : decode cX11_room 36 = .ok (.aload_n 0, 1) := by decide +kernel
theorem dX11_room_37 : decode cX11_room 37 = .ok (.getfield 50, 3) := by decide +kernel
theorem dX11_room_40 : decode cX11_room 40 = .ok (.aload 4, 2) := by decide +kernel
theorem dX11_room_42 : decode cX11_room 42 = .ok (.invokevirtual 171, 3) := by decide +kernel
theorem dX11_room_45 : decode cX11_room 45 = .ok (.aload_n 0, 1) := by decide +kernel
theorem dX11_room_46 : decode cX11_room 46 = .ok (.getfield 50, 3) := by decide +kernel
theorem dX11_room_49 : decode cX11_room 49 = .ok (.iload_n 1, 1) := by decide +kernel
theorem dX11_room_50 : decode cX11_room 50 = .ok (.invokevirtual 174, 3) := by decide +kernel
theorem dX11_room_53 : decode cX11_room 53 = .ok (.ifCond .ne 6, 3) := by decide +kernel
theorem dX11_room_56 : decode cX11_room 56 = .ok (.bipush (-5), 2) := by decide +kernel
theorem dX11_room_58 : decode cX11_room 58 = .ok (.ireturn, 1) := by decide +kernel
theorem dX11_room_59 : decode cX11_room 59 = .ok (.iload_n 3, 1) := by decide +kernel
theorem dX11_room_60 : decode cX11_room 60 = .ok (.ifCond .ne 12, 3) := by decide +kernel
theorem dX11_room_63 : decode cX11_room 63 = .ok (.aload_n 0, 1) := by decide +kernel
theorem dX11_room_64 : decode cX11_room 64 = .ok (.getfield 50, 3) := by decide +kernel
theorem dX11_room_67 : decode cX11_room 67 = .ok (.iload_n 1, 1) := by decide +kernel
theorem dX11_room_68 : decode cX11_room 68 = .ok (.invokevirtual 178, 3) := by decide +kernel
theorem dX11_room_71 : decode cX11_room 71 = .ok (.ireturn, 1) := by decide +kernel
theorem dX11_room_72 : decode cX11_room 72 = .ok (.iload_n 3, 1) := by decide +kernel
theorem dX11_room_73 : decode cX11_room 73 = .ok (.iconst 1, 1) := by decide +kernel
theorem dX11_room_74 : decode cX11_room 74 = .ok (.if_icmp .ne 14, 3) := by decide +kernel
theorem dX11_room_77 : decode cX11_room 77 = .ok (.aload_n 0, 1) := by decide +kernel
theorem dX11_room_78 : decode cX11_room 78 = .ok (.getfield 50, 3) := by decide +kernel
theorem dX11_room_81 : decode cX11_room 81 = .ok (.iload_n 1, 1) := by decide +kernel
theorem dX11_room_82 : decode cX11_room 82 = .ok (.invokevirtual 181, 3) := by decide +kernel
theorem dX11_room_85 : decode cX11_room 85 = .ok (.goto 11, 3) := by decide +kernel
theorem dX11_room_88 : decode cX11_room 88 = .ok (.aload_n 0, 1) := by decide +kernel
theorem dX11_room_89 : decode cX11_room 89 = .ok (.getfield 50, 3) := by decide +kernel
theorem dX11_room_92 : decode cX11_room 92 = .ok (.iload_n 1, 1) := by decide +kernel
theorem dX11_room_93 : decode cX11_room 93 = .ok (.invokevirtual 184, 3) := by decide +kernel
theorem dX11_room_96 : decode cX11_room 96 = .ok (.ireturn, 1) := by decide +kernel
theorem dX11_row_0 : decode cX11_row 0 = .ok (.aload_n 0, 1) := by decide +kernel
theorem dX11_row_1 : decode cX11_row 1 = .ok (.getfield 50, 3) := by decide +kernel
theorem dX11_row_4 : decode cX11_row 4 = .ok (.getfield 187, 3) := by decide +kernel
theorem dX11_row_7 : decode cX11_row 7 = .ok (.invokevirtual 116, 3) := by decide +kernel
theorem dX11_row_10 : decode cX11_row 10 = .ok (.ifCond .eq 6, 3) := by decide +kernel
theorem dX11_row_13 : decode cX11_row 13 = .ok (.bipush (-4), 2) := by decide +kernel
theorem dX11_row_15 : decode cX11_row 15 = .ok (.ireturn, 1) := by decide +kernel
theorem dX11_row_16 : decode cX11_row 16 = .ok (.aload_n 0, 1) := by decide +kernel
theorem dX11_row_17 : decode cX11_row 17 = .ok (.getfield 21, 3) := by decide +kernel
theorem dX11_row_20 : decode cX11_row 20 = .ok (.getfield 119, 3) := by decide +kernel
theorem dX11_row_23 : decode cX11_row 23 = .ok (.iconst 2, 1) := by decide +kernel
theorem dX11_row_24 : decode cX11_row 24 = .ok (.iconst 4, 1) := by decide +kernel
theorem dX11_row_25 : decode cX11_row 25 = .ok (.invokestatic 92, 3) := by decide +kernel
theorem dX11_row_28 : decode cX11_row 28 = .ok (.ifCond .eq 20, 3) := by decide +kernel
theorem dX11_row_31 : decode cX11_row 31 = .ok (.aload_n 0, 1) := by decide +kernel
theorem dX11_row_32 : decode cX11_row 32 = .ok (.getfield 50, 3) := by decide +kernel
theorem dX11_row_35 : decode cX11_row 35 = .ok (.getfield 187, 3) := by decide +kernel
theorem dX11_row_38 : decode cX11_row 38 = .ok (.aload_n 0, 1) := by decide +kernel
theorem dX11_row_39 : decode cX11_row 39 = .ok (.getfield 21, 3) := by decide +kernel
theorem dX11_row_42 : decode cX11_row 42 = .ok (.invokevirtual 160, 3) := by decide +kernel
theorem dX11_row_45 : decode cX11_row 45 = .ok (.goto 5, 3) := by decide +kernel
theorem dX11_row_48 : decode cX11_row 48 = .ok (.bipush (-5), 2) := by decide +kernel
theorem dX11_row_50 : decode cX11_row 50 = .ok (.ireturn, 1) := by decide +kernel
theorem dX11_chosen_0 : decode cX11_chosen 0 = .ok (.aload_n 0, 1) := by decide +kernel
theorem dX11_chosen_1 : decode cX11_chosen 1 = .ok (.iload_n 2, 1) := by decide +kernel
theorem dX11_chosen_2 : decode cX11_chosen 2 = .ok (.invokevirtual 88, 3) := by decide +kernel
theorem dX11_chosen_5 : decode cX11_chosen 5 = .ok (.astore 5, 2) := by decide +kernel
theorem dX11_chosen_7 : decode cX11_chosen 7 = .ok (.aload 5, 2) := by decide +kernel
theorem dX11_chosen_9 : decode cX11_chosen 9 = .ok (.ifnull 13, 3) := by decide +kernel
theorem dX11_chosen_12 : decode cX11_chosen 12 = .ok (.iload_n 1, 1) := by decide +kernel
theorem dX11_chosen_13 : decode cX11_chosen 13 = .ok (.iconst 0, 1) := by decide +kernel
theorem dX11_chosen_14 : decode cX11_chosen 14 = .ok (.bipush 7, 2) := by decide +kernel
theorem dX11_chosen_16 : decode cX11_chosen 16 = .ok (.invokestatic 92, 3) := by decide +kernel
theorem dX11_chosen_19 : decode cX11_chosen 19 = .ok (.ifCond .ne 5, 3) := by decide +kernel
theorem dX11_chosen_22 : decode cX11_chosen 22 = .ok (.iconst (-1), 1) := by decide +kernel
theorem dX11_chosen_23 : decode cX11_chosen 23 = .ok (.ireturn, 1) := by decide +kernel
theorem dX11_chosen_24 : decode cX11_chosen 24 = .ok (.iload_n 3, 1) := by decide +kernel
theorem dX11_chosen_25 : decode cX11_chosen 25 = .ok (.iconst 0, 1) := by decide +kernel
theorem dX11_chosen_26 : decode cX11_chosen 26 = .ok (.bipush 12, 2) := by decide +kernel
theorem dX11_chosen_28 : decode cX11_chosen 28 = .ok (.invokestatic 92, 3) := by decide +kernel
theorem dX11_chosen_31 : decode cX11_chosen 31 = .ok (.ifCond .eq 13, 3) := by decide +kernel
theorem dX11_chosen_34 : decode cX11_chosen 34 = .ok (.iload 4, 2) := by decide +kernel
theorem dX11_chosen_36 : decode cX11_chosen 36 = .ok (.iconst 0, 1) := by decide +kernel
theorem dX11_chosen_37 : decode cX11_chosen 37 = .ok (.iconst 1, 1) := by decide +kernel
theorem dX11_chosen_38 : decode cX11_chosen 38 = .ok (.invokestatic 92, 3) := by decide +kernel
theorem dX11_chosen_41 : decode cX11_chosen 41 = .ok (.ifCond .ne 6, 3) := by decide +kernel
theorem dX11_chosen_44 : decode cX11_chosen 44 = .ok (.bipush (-2), 2) := by decide +kernel
theorem dX11_chosen_46 : decode cX11_chosen 46 = .ok (.ireturn, 1) := by decide +kernel
theorem dX11_chosen_47 : decode cX11_chosen 47 = .ok (.aload_n 0, 1) := by decide +kernel
theorem dX11_chosen_48 : decode cX11_chosen 48 = .ok (.getfield 50, 3) := by decide +kernel
theorem dX11_chosen_51 : decode cX11_chosen 51 = .ok (.iload_n 1, 1) := by decide +kernel
theorem dX11_chosen_52 : decode cX11_chosen 52 = .ok (.aload 5, 2) := by decide +kernel
theorem dX11_chosen_54 : decode cX11_chosen 54 = .ok (.iload_n 3, 1) := by decide +kernel
theorem dX11_chosen_55 : decode cX11_chosen 55 = .ok (.invokevirtual 190, 3) := by decide +kernel
theorem dX11_chosen_58 : decode cX11_chosen 58 = .ok (.istore 6, 2) := by decide +kernel
theorem dX11_chosen_60 : decode cX11_chosen 60 = .ok (.iload 6, 2) := by decide +kernel
theorem dX11_chosen_62 : decode cX11_chosen 62 = .ok (.ifCond .ge 6, 3) := by decide +kernel
theorem dX11_chosen_65 : decode cX11_chosen 65 = .ok (.bipush (-5), 2) := by decide +kernel
theorem dX11_chosen_67 : decode cX11_chosen 67 = .ok (.ireturn, 1) := by decide +kernel
theorem dX11_chosen_68 : decode cX11_chosen 68 = .ok (.iload 4, 2) := by decide +kernel
theorem dX11_chosen_70 : decode cX11_chosen 70 = .ok (.ifCond .ne 8, 3) := by decide +kernel
theorem dX11_chosen_73 : decode cX11_chosen 73 = .ok (.iload 6, 2) := by decide +kernel
theorem dX11_chosen_75 : decode cX11_chosen 75 = .ok (.goto 13, 3) := by decide +kernel
theorem dX11_chosen_78 : decode cX11_chosen 78 = .ok (.aload_n 0, 1) := by decide +kernel
theorem dX11_chosen_79 : decode cX11_chosen 79 = .ok (.getfield 50, 3) := by decide +kernel
theorem dX11_chosen_82 : decode cX11_chosen 82 = .ok (.getfield 194, 3) := by decide +kernel
theorem dX11_chosen_85 : decode cX11_chosen 85 = .ok (.iload 6, 2) := by decide +kernel
theorem dX11_chosen_87 : decode cX11_chosen 87 = .ok (.iaload, 1) := by decide +kernel
theorem dX11_chosen_88 : decode cX11_chosen 88 = .ok (.ireturn, 1) := by decide +kernel
theorem dX11_reader_0 : decode cX11_reader 0 = .ok (.aload_n 0, 1) := by decide +kernel
theorem dX11_reader_1 : decode cX11_reader 1 = .ok (.iload_n 2, 1) := by decide +kernel
theorem dX11_reader_2 : decode cX11_reader 2 = .ok (.invokevirtual 197, 3) := by decide +kernel
theorem dX11_reader_5 : decode cX11_reader 5 = .ok (.ifnonnull 5, 3) := by decide +kernel
theorem dX11_reader_8 : decode cX11_reader 8 = .ok (.iconst (-1), 1) := by decide +kernel
theorem dX11_reader_9 : decode cX11_reader 9 = .ok (.ireturn, 1) := by decide +kernel
theorem dX11_reader_10 : decode cX11_reader 10 = .ok (.iload_n 1, 1) := by decide +kernel
theorem dX11_reader_11 : decode cX11_reader 11 = .ok (.iconst 5, 1) := by decide +kernel
theorem dX11_reader_12 : decode cX11_reader 12 = .ok (.bipush 90, 2) := by decide +kernel
theorem dX11_reader_14 : decode cX11_reader 14 = .ok (.invokestatic 92, 3) := by decide +kernel
theorem dX11_reader_17 : decode cX11_reader 17 = .ok (.ifCond .ne 6, 3) := by decide +kernel
theorem dX11_reader_20 : decode cX11_reader 20 = .ok (.bipush (-2), 2) := by decide +kernel
theorem dX11_reader_22 : decode cX11_reader 22 = .ok (.ireturn, 1) := by decide +kernel
theorem dX11_reader_23 : decode cX11_reader 23 = .ok (.aload_n 0, 1) := by decide +kernel
theorem dX11_reader_24 : decode cX11_reader 24 = .ok (.getfield 61, 3) := by decide +kernel
theorem dX11_reader_27 : decode cX11_reader 27 = .ok (.bipush 20, 2) := by decide +kernel
theorem dX11_reader_29 : decode cX11_reader 29 = .ok (.if_icmp .lt 6, 3) := by decide +kernel
theorem dX11_reader_32 : decode cX11_reader 32 = .ok (.bipush (-4), 2) := by decide +kernel
theorem dX11_reader_34 : decode cX11_reader 34 = .ok (.ireturn, 1) := by decide +kernel
theorem dX11_reader_35 : decode cX11_reader 35 = .ok (.aload_n 0, 1) := by decide +kernel
theorem dX11_reader_36 : decode cX11_reader 36 = .ok (.getfield 56, 3) := by decide +kernel
theorem dX11_reader_39 : decode cX11_reader 39 = .ok (.aload_n 0, 1) := by decide +kernel
theorem dX11_reader_40 : decode cX11_reader 40 = .ok (.getfield 61, 3) := by decide +kernel
theorem dX11_reader_43 : decode cX11_reader 43 = .ok (.aaload, 1) := by decide +kernel
theorem dX11_reader_44 : decode cX11_reader 44 = .ok (.astore 4, 2) := by decide +kernel
theorem dX11_reader_46 : decode cX11_reader 46 = .ok (.aload 4, 2) := by decide +kernel
theorem dX11_reader_48 : decode cX11_reader 48 = .ok (.iload_n 1, 1) := by decide +kernel
theorem dX11_reader_49 : decode cX11_reader 49 = .ok (.putfield 201, 3) := by decide +kernel
theorem dX11_reader_52 : decode cX11_reader 52 = .ok (.aload 4, 2) := by decide +kernel
theorem dX11_reader_54 : decode cX11_reader 54 = .ok (.iload_n 2, 1) := by decide +kernel
theorem dX11_reader_55 : decode cX11_reader 55 = .ok (.putfield 204, 3) := by decide +kernel
theorem dX11_reader_58 : decode cX11_reader 58 = .ok (.aload 4, 2) := by decide +kernel
theorem dX11_reader_60 : decode cX11_reader 60 = .ok (.iload_n 3, 1) := by decide +kernel
theorem dX11_reader_61 : decode cX11_reader 61 = .ok (.ifCond .eq 7, 3) := by decide +kernel
theorem dX11_reader_64 : decode cX11_reader 64 = .ok (.iconst 1, 1) := by decide +kernel
theorem dX11_reader_65 : decode cX11_reader 65 = .ok (.goto 4, 3) := by decide +kernel
theorem dX11_reader_68 : decode cX11_reader 68 = .ok (.iconst 0, 1) := by decide +kernel
theorem dX11_reader_69 : decode cX11_reader 69 = .ok (.putfield 207, 3) := by decide +kernel
theorem dX11_reader_72 : decode cX11_reader 72 = .ok (.aload_n 0, 1) := by decide +kernel
theorem dX11_reader_73 : decode cX11_reader 73 = .ok (.dup, 1) := by decide +kernel
theorem dX11_reader_74 : decode cX11_reader 74 = .ok (.getfield 61, 3) := by decide +kernel
theorem dX11_reader_77 : decode cX11_reader 77 = .ok (.iconst 1, 1) := by decide +kernel
theorem dX11_reader_78 : decode cX11_reader 78 = .ok (.iadd, 1) := by decide +kernel
theorem dX11_reader_79 : decode cX11_reader 79 = .ok (.putfield 61, 3) := by decide +kernel
theorem dX11_reader_82 : decode cX11_reader 82 = .ok (.aload_n 0, 1) := by decide +kernel
theorem dX11_reader_83 : decode cX11_reader 83 = .ok (.getfield 61, 3) := by decide +kernel
theorem dX11_reader_86 : decode cX11_reader 86 = .ok (.iconst 1, 1) := by decide +kernel
theorem dX11_reader_87 : decode cX11_reader 87 = .ok (.isub, 1) := by decide +kernel
theorem dX11_reader_88 : decode cX11_reader 88 = .ok (.ireturn, 1) := by decide +kernel
theorem dX11_know_0 : decode cX11_know 0 = .ok (.aload_n 0, 1) := by decide +kernel
theorem dX11_know_1 : decode cX11_know 1 = .ok (.iload_n 1, 1) := by decide +kernel
theorem dX11_know_2 : decode cX11_know 2 = .ok (.invokevirtual 210, 3) := by decide +kernel
theorem dX11_know_5 : decode cX11_know 5 = .ok (.astore 4, 2) := by decide +kernel
theorem dX11_know_7 : decode cX11_know 7 = .ok (.aload 4, 2) := by decide +kernel
theorem dX11_know_9 : decode cX11_know 9 = .ok (.ifnull 11, 3) := by decide +kernel
theorem dX11_know_12 : decode cX11_know 12 = .ok (.aload_n 0, 1) := by decide +kernel
theorem dX11_know_13 : decode cX11_know 13 = .ok (.iload_n 2, 1) := by decide +kernel
theorem dX11_know_14 : decode cX11_know 14 = .ok (.invokevirtual 88, 3) := by decide +kernel
theorem dX11_know_17 : decode cX11_know 17 = .ok (.ifnonnull 5, 3) := by decide +kernel
theorem dX11_know_20 : decode cX11_know 20 = .ok (.iconst (-1), 1) := by decide +kernel
theorem dX11_know_21 : decode cX11_know 21 = .ok (.ireturn, 1) := by decide +kernel
theorem dX11_know_22 : decode cX11_know 22 = .ok (.iload_n 3, 1) := by decide +kernel
theorem dX11_know_23 : decode cX11_know 23 = .ok (.iconst 0, 1) := by decide +kernel
theorem dX11_know_24 : decode cX11_know 24 = .ok (.bipush 50, 2) := by decide +kernel
theorem dX11_know_26 : decode cX11_know 26 = .ok (.invokestatic 92, 3) := by decide +kernel
theorem dX11_know_29 : decode cX11_know 29 = .ok (.ifCond .ne 6, 3) := by decide +kernel
theorem dX11_know_32 : decode cX11_know 32 = .ok (.bipush (-2), 2) := by decide +kernel
theorem dX11_know_34 : decode cX11_know 34 = .ok (.ireturn, 1) := by decide +kernel
theorem dX11_know_35 : decode cX11_know 35 = .ok (.aload 4, 2) := by decide +kernel
theorem dX11_know_37 : decode cX11_know 37 = .ok (.getfield 214, 3) := by decide +kernel
theorem dX11_know_40 : decode cX11_know 40 = .ok (.iload_n 2, 1) := by decide +kernel
theorem dX11_know_41 : decode cX11_know 41 = .ok (.iaload, 1) := by decide +kernel
theorem dX11_know_42 : decode cX11_know 42 = .ok (.istore 5, 2) := by decide +kernel
theorem dX11_know_44 : decode cX11_know 44 = .ok (.aload 4, 2) := by decide +kernel
theorem dX11_know_46 : decode cX11_know 46 = .ok (.getfield 214, 3) := by decide +kernel
theorem dX11_know_49 : decode cX11_know 49 = .ok (.iload_n 2, 1) := by decide +kernel
theorem dX11_know_50 : decode cX11_know 50 = .ok (.iload_n 3, 1) := by decide +kernel
theorem dX11_know_51 : decode cX11_know 51 = .ok (.iastore, 1) := by decide +kernel
theorem dX11_know_52 : decode cX11_know 52 = .ok (.iload 5, 2) := by decide +kernel
theorem dX11_know_54 : decode cX11_know 54 = .ok (.ireturn, 1) := by decide +kernel
theorem dX11_move_0 : decode cX11_move 0 = .ok (.aload_n 0, 1) := by decide +kernel
theorem dX11_move_1 : decode cX11_move 1 = .ok (.iload_n 1, 1) := by decide +kernel
theorem dX11_move_2 : decode cX11_move 2 = .ok (.invokevirtual 210, 3) := by decide +kernel
theorem dX11_move_5 : decode cX11_move 5 = .ok (.astore_n 3, 1) := by decide +kernel
theorem dX11_move_6 : decode cX11_move 6 = .ok (.aload_n 3, 1) := by decide +kernel
theorem dX11_move_7 : decode cX11_move 7 = .ok (.ifnull 11, 3) := by decide +kernel
theorem dX11_move_10 : decode cX11_move 10 = .ok (.aload_n 0, 1) := by decide +kernel
theorem dX11_move_11 : decode cX11_move 11 = .ok (.iload_n 2, 1) := by decide +kernel
theorem dX11_move_12 : decode cX11_move 12 = .ok (.invokevirtual 197, 3) := by decide +kernel
theorem dX11_move_15 : decode cX11_move 15 = .ok (.ifnonnull 5, 3) := by decide +kernel
theorem dX11_move_18 : decode cX11_move 18 = .ok (.iconst (-1), 1) := by decide +kernel
theorem dX11_move_19 : decode cX11_move 19 = .ok (.ireturn, 1) := by decide +kernel
theorem dX11_move_20 : decode cX11_move 20 = .ok (.aload_n 3, 1) := by decide +kernel
theorem dX11_move_21 : decode cX11_move 21 = .ok (.getfield 204, 3) := by decide +kernel
theorem dX11_move_24 : decode cX11_move 24 = .ok (.istore 4, 2) := by decide +kernel
theorem dX11_move_26 : decode cX11_move 26 = .ok (.aload_n 3, 1) := by decide +kernel
theorem dX11_move_27 : decode cX11_move 27 = .ok (.iload_n 2, 1) := by decide +kernel
theorem dX11_move_28 : decode cX11_move 28 = .ok (.putfield 204, 3) := by decide +kernel
theorem dX11_move_31 : decode cX11_move 31 = .ok (.iload 4, 2) := by decide +kernel
theorem dX11_move_33 : decode cX11_move 33 = .ok (.ireturn, 1) := by decide +kernel
theorem dX11_about_0 : decode cX11_about 0 = .ok (.aload_n 0, 1) := by decide +kernel
theorem dX11_about_1 : decode cX11_about 1 = .ok (.iload_n 1, 1) := by decide +kernel
theorem dX11_about_2 : decode cX11_about 2 = .ok (.invokevirtual 210, 3) := by decide +kernel
theorem dX11_about_5 : decode cX11_about 5 = .ok (.astore_n 3, 1) := by decide +kernel
theorem dX11_about_6 : decode cX11_about 6 = .ok (.aload_n 3, 1) := by decide +kernel
theorem dX11_about_7 : decode cX11_about 7 = .ok (.ifnonnull 5, 3) := by decide +kernel
theorem dX11_about_10 : decode cX11_about 10 = .ok (.iconst (-1), 1) := by decide +kernel
theorem dX11_about_11 : decode cX11_about 11 = .ok (.ireturn, 1) := by decide +kernel
theorem dX11_about_12 : decode cX11_about 12 = .ok (.iload_n 2, 1) := by decide +kernel
theorem dX11_about_13 : decode cX11_about 13 = .ok (.tableswitch 60 0 4 #[35, 40, 45, 50, 55], 35) := by decide +kernel
theorem dX11_about_48 : decode cX11_about 48 = .ok (.aload_n 3, 1) := by decide +kernel
theorem dX11_about_49 : decode cX11_about 49 = .ok (.getfield 201, 3) := by decide +kernel
theorem dX11_about_52 : decode cX11_about 52 = .ok (.ireturn, 1) := by decide +kernel
theorem dX11_about_53 : decode cX11_about 53 = .ok (.aload_n 3, 1) := by decide +kernel
theorem dX11_about_54 : decode cX11_about 54 = .ok (.getfield 204, 3) := by decide +kernel
theorem dX11_about_57 : decode cX11_about 57 = .ok (.ireturn, 1) := by decide +kernel
theorem dX11_about_58 : decode cX11_about 58 = .ok (.aload_n 3, 1) := by decide +kernel
theorem dX11_about_59 : decode cX11_about 59 = .ok (.getfield 207, 3) := by decide +kernel
theorem dX11_about_62 : decode cX11_about 62 = .ok (.ireturn, 1) := by decide +kernel
theorem dX11_about_63 : decode cX11_about 63 = .ok (.aload_n 3, 1) := by decide +kernel
theorem dX11_about_64 : decode cX11_about 64 = .ok (.invokevirtual 217, 3) := by decide +kernel
theorem dX11_about_67 : decode cX11_about 67 = .ok (.ireturn, 1) := by decide +kernel
theorem dX11_about_68 : decode cX11_about 68 = .ok (.aload_n 3, 1) := by decide +kernel
theorem dX11_about_69 : decode cX11_about 69 = .ok (.invokevirtual 220, 3) := by decide +kernel
theorem dX11_about_72 : decode cX11_about 72 = .ok (.ireturn, 1) := by decide +kernel
theorem dX11_about_73 : decode cX11_about 73 = .ok (.iload_n 2, 1) := by decide +kernel
theorem dX11_about_74 : decode cX11_about 74 = .ok (.bipush 10, 2) := by decide +kernel
theorem dX11_about_76 : decode cX11_about 76 = .ok (.bipush 14, 2) := by decide +kernel
theorem dX11_about_78 : decode cX11_about 78 = .ok (.invokestatic 92, 3) := by decide +kernel
theorem dX11_about_81 : decode cX11_about 81 = .ok (.ifCond .eq 15, 3) := by decide +kernel
theorem dX11_about_84 : decode cX11_about 84 = .ok (.aload_n 3, 1) := by decide +kernel
theorem dX11_about_85 : decode cX11_about 85 = .ok (.getfield 214, 3) := by decide +kernel
theorem dX11_about_88 : decode cX11_about 88 = .ok (.iload_n 2, 1) := by decide +kernel
theorem dX11_about_89 : decode cX11_about 89 = .ok (.bipush 10, 2) := by decide +kernel
theorem dX11_about_91 : decode cX11_about 91 = .ok (.isub, 1) := by decide +kernel
theorem dX11_about_92 : decode cX11_about 92 = .ok (.iaload, 1) := by decide +kernel
theorem dX11_about_93 : decode cX11_about 93 = .ok (.goto 5, 3) := by decide +kernel
theorem dX11_about_96 : decode cX11_about 96 = .ok (.bipush (-2), 2) := by decide +kernel
theorem dX11_about_98 : decode cX11_about 98 = .ok (.ireturn, 1) := by decide +kernel
theorem dX11_near_0 : decode cX11_near 0 = .ok (.aload_n 0, 1) := by decide +kernel
theorem dX11_near_1 : decode cX11_near 1 = .ok (.iload_n 1, 1) := by decide +kernel
theorem dX11_near_2 : decode cX11_near 2 = .ok (.invokevirtual 88, 3) := by decide +kernel
theorem dX11_near_5 : decode cX11_near 5 = .ok (.astore_n 3, 1) := by decide +kernel
theorem dX11_near_6 : decode cX11_near 6 = .ok (.aload_n 3, 1) := by decide +kernel
theorem dX11_near_7 : decode cX11_near 7 = .ok (.ifnonnull 5, 3) := by decide +kernel
theorem dX11_near_10 : decode cX11_near 10 = .ok (.iconst (-1), 1) := by decide +kernel
theorem dX11_near_11 : decode cX11_near 11 = .ok (.ireturn, 1) := by decide +kernel
theorem dX11_near_12 : decode cX11_near 12 = .ok (.iload_n 2, 1) := by decide +kernel
theorem dX11_near_13 : decode cX11_near 13 = .ok (.iconst 1, 1) := by decide +kernel
theorem dX11_near_14 : decode cX11_near 14 = .ok (.bipush 63, 2) := by decide +kernel
theorem dX11_near_16 : decode cX11_near 16 = .ok (.invokestatic 92, 3) := by decide +kernel
theorem dX11_near_19 : decode cX11_near 19 = .ok (.ifCond .eq 11, 3) := by decide +kernel
theorem dX11_near_22 : decode cX11_near 22 = .ok (.aload_n 3, 1) := by decide +kernel
theorem dX11_near_23 : decode cX11_near 23 = .ok (.iload_n 2, 1) := by decide +kernel
theorem dX11_near_24 : decode cX11_near 24 = .ok (.invokevirtual 223, 3) := by decide +kernel
theorem dX11_near_27 : decode cX11_near 27 = .ok (.goto 5, 3) := by decide +kernel
theorem dX11_near_30 : decode cX11_near 30 = .ok (.bipush (-2), 2) := by decide +kernel
theorem dX11_near_32 : decode cX11_near 32 = .ok (.ireturn, 1) := by decide +kernel
theorem dX11_pace_0 : decode cX11_pace 0 = .ok (.aload_n 0, 1) := by decide +kernel
theorem dX11_pace_1 : decode cX11_pace 1 = .ok (.iload_n 1, 1) := by decide +kernel
theorem dX11_pace_2 : decode cX11_pace 2 = .ok (.invokevirtual 210, 3) := by decide +kernel
theorem dX11_pace_5 : decode cX11_pace 5 = .ok (.astore_n 3, 1) := by decide +kernel
theorem dX11_pace_6 : decode cX11_pace 6 = .ok (.aload_n 0, 1) := by decide +kernel
theorem dX11_pace_7 : decode cX11_pace 7 = .ok (.iload_n 2, 1) := by decide +kernel
theorem dX11_pace_8 : decode cX11_pace 8 = .ok (.invokevirtual 88, 3) := by decide +kernel
theorem dX11_pace_11 : decode cX11_pace 11 = .ok (.astore 4, 2) := by decide +kernel
theorem dX11_pace_13 : decode cX11_pace 13 = .ok (.aload_n 3, 1) := by decide +kernel
theorem dX11_pace_14 : decode cX11_pace 14 = .ok (.ifnull 8, 3) := by decide +kernel
theorem dX11_pace_17 : decode cX11_pace 17 = .ok (.aload 4, 2) := by decide +kernel
theorem dX11_pace_19 : decode cX11_pace 19 = .ok (.ifnonnull 5, 3) := by decide +kernel
theorem dX11_pace_22 : decode cX11_pace 22 = .ok (.iconst (-1), 1) := by decide +kernel
theorem dX11_pace_23 : decode cX11_pace 23 = .ok (.ireturn, 1) := by decide +kernel
theorem dX11_pace_24 : decode cX11_pace 24 = .ok (.aload_n 3, 1) := by decide +kernel
theorem dX11_pace_25 : decode cX11_pace 25 = .ok (.getfield 214, 3) := by decide +kernel
theorem dX11_pace_28 : decode cX11_pace 28 = .ok (.iload_n 2, 1) := by decide +kernel
theorem dX11_pace_29 : decode cX11_pace 29 = .ok (.iaload, 1) := by decide +kernel
theorem dX11_pace_30 : decode cX11_pace 30 = .ok (.ifCond .ne 6, 3) := by decide +kernel
theorem dX11_pace_33 : decode cX11_pace 33 = .ok (.bipush (-3), 2) := by decide +kernel
theorem dX11_pace_35 : decode cX11_pace 35 = .ok (.ireturn, 1) := by decide +kernel
theorem dX11_pace_36 : decode cX11_pace 36 = .ok (.aload_n 0, 1) := by decide +kernel
theorem dX11_pace_37 : decode cX11_pace 37 = .ok (.getfield 34, 3) := by decide +kernel
theorem dX11_pace_40 : decode cX11_pace 40 = .ok (.aload 4, 2) := by decide +kernel
theorem dX11_pace_42 : decode cX11_pace 42 = .ok (.aload_n 0, 1) := by decide +kernel
theorem dX11_pace_43 : decode cX11_pace 43 = .ok (.getfield 21, 3) := by decide +kernel
theorem dX11_pace_46 : decode cX11_pace 46 = .ok (.invokevirtual 126, 3) := by decide +kernel
theorem dX11_pace_49 : decode cX11_pace 49 = .ok (.ifCond .ne 6, 3) := by decide +kernel
theorem dX11_pace_52 : decode cX11_pace 52 = .ok (.bipush (-5), 2) := by decide +kernel
theorem dX11_pace_54 : decode cX11_pace 54 = .ok (.ireturn, 1) := by decide +kernel
theorem dX11_pace_55 : decode cX11_pace 55 = .ok (.iconst 0, 1) := by decide +kernel
theorem dX11_pace_56 : decode cX11_pace 56 = .ok (.istore 5, 2) := by decide +kernel
theorem dX11_pace_58 : decode cX11_pace 58 = .ok (.iconst 0, 1) := by decide +kernel
theorem dX11_pace_59 : decode cX11_pace 59 = .ok (.istore 6, 2) := by decide +kernel
theorem dX11_pace_61 : decode cX11_pace 61 = .ok (.iload 6, 2) := by decide +kernel
theorem dX11_pace_63 : decode cX11_pace 63 = .ok (.aload_n 0, 1) := by decide +kernel
theorem dX11_pace_64 : decode cX11_pace 64 = .ok (.getfield 34, 3) := by decide +kernel
theorem dX11_pace_67 : decode cX11_pace 67 = .ok (.getfield 130, 3) := by decide +kernel
theorem dX11_pace_70 : decode cX11_pace 70 = .ok (.getfield 119, 3) := by decide +kernel
theorem dX11_pace_73 : decode cX11_pace 73 = .ok (.if_icmp .ge 48, 3) := by decide +kernel
theorem dX11_pace_76 : decode cX11_pace 76 = .ok (.aload_n 0, 1) := by decide +kernel
theorem dX11_pace_77 : decode cX11_pace 77 = .ok (.getfield 34, 3) := by decide +kernel
theorem dX11_pace_80 : decode cX11_pace 80 = .ok (.getfield 130, 3) := by decide +kernel
theorem dX11_pace_83 : decode cX11_pace 83 = .ok (.iload 6, 2) := by decide +kernel
theorem dX11_pace_85 : decode cX11_pace 85 = .ok (.invokevirtual 136, 3) := by decide +kernel
theorem dX11_pace_88 : decode cX11_pace 88 = .ok (.istore 7, 2) := by decide +kernel
theorem dX11_pace_90 : decode cX11_pace 90 = .ok (.iload 5, 2) := by decide +kernel
theorem dX11_pace_92 : decode cX11_pace 92 = .ok (.bipush 10, 2) := by decide +kernel
theorem dX11_pace_94 : decode cX11_pace 94 = .ok (.iconst 2, 1) := by decide +kernel
theorem dX11_pace_95 : decode cX11_pace 95 = .ok (.iload 7, 2) := by decide +kernel
theorem dX11_pace_97 : decode cX11_pace 97 = .ok (.invokestatic 226, 3) := by decide +kernel
theorem dX11_pace_100 : decode cX11_pace 100 = .ok (.imul, 1) := by decide +kernel
theorem dX11_pace_101 : decode cX11_pace 101 = .ok (.iadd, 1) := by decide +kernel
theorem dX11_pace_102 : decode cX11_pace 102 = .ok (.iconst 3, 1) := by decide +kernel
theorem dX11_pace_103 : decode cX11_pace 103 = .ok (.aload 4, 2) := by decide +kernel
theorem dX11_pace_105 : decode cX11_pace 105 = .ok (.iload 7, 2) := by decide +kernel
theorem dX11_pace_107 : decode cX11_pace 107 = .ok (.invokevirtual 223, 3) := by decide +kernel
theorem dX11_pace_110 : decode cX11_pace 110 = .ok (.imul, 1) := by decide +kernel
theorem dX11_pace_111 : decode cX11_pace 111 = .ok (.iadd, 1) := by decide +kernel
theorem dX11_pace_112 : decode cX11_pace 112 = .ok (.iadd, 1) := by decide +kernel
theorem dX11_pace_113 : decode cX11_pace 113 = .ok (.istore 5, 2) := by decide +kernel
theorem dX11_pace_115 : decode cX11_pace 115 = .ok (.iinc 6 1, 3) := by decide +kernel
theorem dX11_pace_118 : decode cX11_pace 118 = .ok (.goto (-57), 3) := by decide +kernel
theorem dX11_pace_121 : decode cX11_pace 121 = .ok (.bipush 100, 2) := by decide +kernel
theorem dX11_pace_123 : decode cX11_pace 123 = .ok (.sipush 300, 3) := by decide +kernel
theorem dX11_pace_126 : decode cX11_pace 126 = .ok (.aload_n 3, 1) := by decide +kernel
theorem dX11_pace_127 : decode cX11_pace 127 = .ok (.getfield 214, 3) := by decide +kernel
theorem dX11_pace_130 : decode cX11_pace 130 = .ok (.iload_n 2, 1) := by decide +kernel
theorem dX11_pace_131 : decode cX11_pace 131 = .ok (.iaload, 1) := by decide +kernel
theorem dX11_pace_132 : decode cX11_pace 132 = .ok (.iconst 1, 1) := by decide +kernel
theorem dX11_pace_133 : decode cX11_pace 133 = .ok (.iadd, 1) := by decide +kernel
theorem dX11_pace_134 : decode cX11_pace 134 = .ok (.idiv, 1) := by decide +kernel
theorem dX11_pace_135 : decode cX11_pace 135 = .ok (.iadd, 1) := by decide +kernel
theorem dX11_pace_136 : decode cX11_pace 136 = .ok (.iconst 0, 1) := by decide +kernel
theorem dX11_pace_137 : decode cX11_pace 137 = .ok (.aload_n 3, 1) := by decide +kernel
theorem dX11_pace_138 : decode cX11_pace 138 = .ok (.getfield 201, 3) := by decide +kernel
theorem dX11_pace_141 : decode cX11_pace 141 = .ok (.bipush 60, 2) := by decide +kernel
theorem dX11_pace_143 : decode cX11_pace 143 = .ok (.isub, 1) := by decide +kernel
theorem dX11_pace_144 : decode cX11_pace 144 = .ok (.invokestatic 231, 3) := by decide +kernel
theorem dX11_pace_147 : decode cX11_pace 147 = .ok (.iadd, 1) := by decide +kernel
theorem dX11_pace_148 : decode cX11_pace 148 = .ok (.istore 6, 2) := by decide +kernel
theorem dX11_pace_150 : decode cX11_pace 150 = .ok (.iload 5, 2) := by decide +kernel
theorem dX11_pace_152 : decode cX11_pace 152 = .ok (.iload 6, 2) := by decide +kernel
theorem dX11_pace_154 : decode cX11_pace 154 = .ok (.imul, 1) := by decide +kernel
theorem dX11_pace_155 : decode cX11_pace 155 = .ok (.bipush 100, 2) := by decide +kernel
theorem dX11_pace_157 : decode cX11_pace 157 = .ok (.idiv, 1) := by decide +kernel
theorem dX11_pace_158 : decode cX11_pace 158 = .ok (.ireturn, 1) := by decide +kernel
theorem dX11_learn_0 : decode cX11_learn 0 = .ok (.aload_n 0, 1) := by decide +kernel
theorem dX11_learn_1 : decode cX11_learn 1 = .ok (.iload_n 1, 1) := by decide +kernel
theorem dX11_learn_2 : decode cX11_learn 2 = .ok (.invokevirtual 210, 3) := by decide +kernel
theorem dX11_learn_5 : decode cX11_learn 5 = .ok (.astore_n 3, 1) := by decide +kernel
theorem dX11_learn_6 : decode cX11_learn 6 = .ok (.aload_n 0, 1) := by decide +kernel
theorem dX11_learn_7 : decode cX11_learn 7 = .ok (.iload_n 2, 1) := by decide +kernel
theorem dX11_learn_8 : decode cX11_learn 8 = .ok (.invokevirtual 88, 3) := by decide +kernel
theorem dX11_learn_11 : decode cX11_learn 11 = .ok (.astore 4, 2) := by decide +kernel
theorem dX11_learn_13 : decode cX11_learn 13 = .ok (.aload_n 3, 1) := by decide +kernel
theorem dX11_learn_14 : decode cX11_learn 14 = .ok (.ifnull 8, 3) := by decide +kernel
theorem dX11_learn_17 : decode cX11_learn 17 = .ok (.aload 4, 2) := by decide +kernel
theorem dX11_learn_19 : decode cX11_learn 19 = .ok (.ifnonnull 5, 3) := by decide +kernel
theorem dX11_learn_22 : decode cX11_learn 22 = .ok (.iconst (-1), 1) := by decide +kernel
theorem dX11_learn_23 : decode cX11_learn 23 = .ok (.ireturn, 1) := by decide +kernel
theorem dX11_learn_24 : decode cX11_learn 24 = .ok (.aload_n 3, 1) := by decide +kernel
theorem dX11_learn_25 : decode cX11_learn 25 = .ok (.getfield 214, 3) := by decide +kernel
theorem dX11_learn_28 : decode cX11_learn 28 = .ok (.iload_n 2, 1) := by decide +kernel
theorem dX11_learn_29 : decode cX11_learn 29 = .ok (.iaload, 1) := by decide +kernel
theorem dX11_learn_30 : decode cX11_learn 30 = .ok (.ifCond .le 5, 3) := by decide +kernel
theorem dX11_learn_33 : decode cX11_learn 33 = .ok (.iconst 0, 1) := by decide +kernel
theorem dX11_learn_34 : decode cX11_learn 34 = .ok (.ireturn, 1) := by decide +kernel
theorem dX11_learn_35 : decode cX11_learn 35 = .ok (.aload 4, 2) := by decide +kernel
theorem dX11_learn_37 : decode cX11_learn 37 = .ok (.aload_n 0, 1) := by decide +kernel
theorem dX11_learn_38 : decode cX11_learn 38 = .ok (.aload_n 3, 1) := by decide +kernel
theorem dX11_learn_39 : decode cX11_learn 39 = .ok (.invokevirtual 217, 3) := by decide +kernel
theorem dX11_learn_42 : decode cX11_learn 42 = .ok (.invokevirtual 88, 3) := by decide +kernel
theorem dX11_learn_45 : decode cX11_learn 45 = .ok (.invokevirtual 237, 3) := by decide +kernel
theorem dX11_learn_48 : decode cX11_learn 48 = .ok (.istore 5, 2) := by decide +kernel
theorem dX11_learn_50 : decode cX11_learn 50 = .ok (.aload_n 3, 1) := by decide +kernel
theorem dX11_learn_51 : decode cX11_learn 51 = .ok (.getfield 201, 3) := by decide +kernel
theorem dX11_learn_54 : decode cX11_learn 54 = .ok (.bipush 70, 2) := by decide +kernel
theorem dX11_learn_56 : decode cX11_learn 56 = .ok (.if_icmp .le 13, 3) := by decide +kernel
theorem dX11_learn_59 : decode cX11_learn 59 = .ok (.iload 5, 2) := by decide +kernel
theorem dX11_learn_61 : decode cX11_learn 61 = .ok (.bipush 14, 2) := by decide +kernel
theorem dX11_learn_63 : decode cX11_learn 63 = .ok (.if_icmp .lt 6, 3) := by decide +kernel
theorem dX11_learn_66 : decode cX11_learn 66 = .ok (.bipush (-6), 2) := by decide +kernel
theorem dX11_learn_68 : decode cX11_learn 68 = .ok (.ireturn, 1) := by decide +kernel
theorem dX11_learn_69 : decode cX11_learn 69 = .ok (.iconst 2, 1) := by decide +kernel
theorem dX11_learn_70 : decode cX11_learn 70 = .ok (.iload 5, 2) := by decide +kernel
theorem dX11_learn_72 : decode cX11_learn 72 = .ok (.imul, 1) := by decide +kernel
theorem dX11_learn_73 : decode cX11_learn 73 = .ok (.iconst 3, 1) := by decide +kernel
theorem dX11_learn_74 : decode cX11_learn 74 = .ok (.aload 4, 2) := by decide +kernel
theorem dX11_learn_76 : decode cX11_learn 76 = .ok (.getfield 112, 3) := by decide +kernel
theorem dX11_learn_79 : decode cX11_learn 79 = .ok (.getfield 164, 3) := by decide +kernel
theorem dX11_learn_82 : decode cX11_learn 82 = .ok (.imul, 1) := by decide +kernel
theorem dX11_learn_83 : decode cX11_learn 83 = .ok (.iadd, 1) := by decide +kernel
theorem dX11_learn_84 : decode cX11_learn 84 = .ok (.bipush 100, 2) := by decide +kernel
theorem dX11_learn_86 : decode cX11_learn 86 = .ok (.aload_n 3, 1) := by decide +kernel
theorem dX11_learn_87 : decode cX11_learn 87 = .ok (.getfield 201, 3) := by decide +kernel
theorem dX11_learn_90 : decode cX11_learn 90 = .ok (.iadd, 1) := by decide +kernel
theorem dX11_learn_91 : decode cX11_learn 91 = .ok (.imul, 1) := by decide +kernel
theorem dX11_learn_92 : decode cX11_learn 92 = .ok (.bipush 100, 2) := by decide +kernel
theorem dX11_learn_94 : decode cX11_learn 94 = .ok (.idiv, 1) := by decide +kernel
theorem dX11_learn_95 : decode cX11_learn 95 = .ok (.ireturn, 1) := by decide +kernel
theorem dX11_shelf_0 : decode cX11_shelf 0 = .ok (.aload_n 0, 1) := by decide +kernel
theorem dX11_shelf_1 : decode cX11_shelf 1 = .ok (.iload_n 1, 1) := by decide +kernel
theorem dX11_shelf_2 : decode cX11_shelf 2 = .ok (.invokevirtual 197, 3) := by decide +kernel
theorem dX11_shelf_5 : decode cX11_shelf 5 = .ok (.astore 5, 2) := by decide +kernel
theorem dX11_shelf_7 : decode cX11_shelf 7 = .ok (.aload 5, 2) := by decide +kernel
theorem dX11_shelf_9 : decode cX11_shelf 9 = .ok (.ifnull 21, 3) := by decide +kernel
theorem dX11_shelf_12 : decode cX11_shelf 12 = .ok (.iload_n 2, 1) := by decide +kernel
theorem dX11_shelf_13 : decode cX11_shelf 13 = .ok (.iconst 0, 1) := by decide +kernel
theorem dX11_shelf_14 : decode cX11_shelf 14 = .ok (.bipush 7, 2) := by decide +kernel
theorem dX11_shelf_16 : decode cX11_shelf 16 = .ok (.invokestatic 92, 3) := by decide +kernel
theorem dX11_shelf_19 : decode cX11_shelf 19 = .ok (.ifCond .eq 11, 3) := by decide +kernel
theorem dX11_shelf_22 : decode cX11_shelf 22 = .ok (.aload_n 0, 1) := by decide +kernel
theorem dX11_shelf_23 : decode cX11_shelf 23 = .ok (.iload_n 3, 1) := by decide +kernel
theorem dX11_shelf_24 : decode cX11_shelf 24 = .ok (.invokevirtual 88, 3) := by decide +kernel
theorem dX11_shelf_27 : decode cX11_shelf 27 = .ok (.ifnonnull 5, 3) := by decide +kernel
theorem dX11_shelf_30 : decode cX11_shelf 30 = .ok (.iconst (-1), 1) := by decide +kernel
theorem dX11_shelf_31 : decode cX11_shelf 31 = .ok (.ireturn, 1) := by decide +kernel
theorem dX11_shelf_32 : decode cX11_shelf 32 = .ok (.iload 4, 2) := by decide +kernel
theorem dX11_shelf_34 : decode cX11_shelf 34 = .ok (.iconst 0, 1) := by decide +kernel
theorem dX11_shelf_35 : decode cX11_shelf 35 = .ok (.bipush 100, 2) := by decide +kernel
theorem dX11_shelf_37 : decode cX11_shelf 37 = .ok (.invokestatic 92, 3) := by decide +kernel
theorem dX11_shelf_40 : decode cX11_shelf 40 = .ok (.ifCond .ne 6, 3) := by decide +kernel
theorem dX11_shelf_43 : decode cX11_shelf 43 = .ok (.bipush (-2), 2) := by decide +kernel
theorem dX11_shelf_45 : decode cX11_shelf 45 = .ok (.ireturn, 1) := by decide +kernel
theorem dX11_shelf_46 : decode cX11_shelf 46 = .ok (.aload 5, 2) := by decide +kernel
theorem dX11_shelf_48 : decode cX11_shelf 48 = .ok (.getfield 241, 3) := by decide +kernel
theorem dX11_shelf_51 : decode cX11_shelf 51 = .ok (.iload_n 2, 1) := by decide +kernel
theorem dX11_shelf_52 : decode cX11_shelf 52 = .ok (.aaload, 1) := by decide +kernel
theorem dX11_shelf_53 : decode cX11_shelf 53 = .ok (.iload_n 3, 1) := by decide +kernel
theorem dX11_shelf_54 : decode cX11_shelf 54 = .ok (.iaload, 1) := by decide +kernel
theorem dX11_shelf_55 : decode cX11_shelf 55 = .ok (.istore 6, 2) := by decide +kernel
theorem dX11_shelf_57 : decode cX11_shelf 57 = .ok (.aload 5, 2) := by decide +kernel
theorem dX11_shelf_59 : decode cX11_shelf 59 = .ok (.getfield 241, 3) := by decide +kernel
theorem dX11_shelf_62 : decode cX11_shelf 62 = .ok (.iload_n 2, 1) := by decide +kernel
theorem dX11_shelf_63 : decode cX11_shelf 63 = .ok (.aaload, 1) := by decide +kernel
theorem dX11_shelf_64 : decode cX11_shelf 64 = .ok (.iload_n 3, 1) := by decide +kernel
theorem dX11_shelf_65 : decode cX11_shelf 65 = .ok (.iload 4, 2) := by decide +kernel
theorem dX11_shelf_67 : decode cX11_shelf 67 = .ok (.iastore, 1) := by decide +kernel
theorem dX11_shelf_68 : decode cX11_shelf 68 = .ok (.iload 6, 2) := by decide +kernel
theorem dX11_shelf_70 : decode cX11_shelf 70 = .ok (.ireturn, 1) := by decide +kernel
theorem dX11_reads_0 : decode cX11_reads 0 = .ok (.aload_n 0, 1) := by decide +kernel
theorem dX11_reads_1 : decode cX11_reads 1 = .ok (.iload_n 1, 1) := by decide +kernel
theorem dX11_reads_2 : decode cX11_reads 2 = .ok (.invokevirtual 210, 3) := by decide +kernel
theorem dX11_reads_5 : decode cX11_reads 5 = .ok (.astore_n 2, 1) := by decide +kernel
theorem dX11_reads_6 : decode cX11_reads 6 = .ok (.aload_n 2, 1) := by decide +kernel
theorem dX11_reads_7 : decode cX11_reads 7 = .ok (.ifnonnull 7, 3) := by decide +kernel
theorem dX11_reads_10 : decode cX11_reads 10 = .ok (.iconst (-1), 1) := by decide +kernel
theorem dX11_reads_11 : decode cX11_reads 11 = .ok (.goto 8, 3) := by decide +kernel
theorem dX11_reads_14 : decode cX11_reads 14 = .ok (.aload_n 0, 1) := by decide +kernel
theorem dX11_reads_15 : decode cX11_reads 15 = .ok (.aload_n 2, 1) := by decide +kernel
theorem dX11_reads_16 : decode cX11_reads 16 = .ok (.invokevirtual 244, 3) := by decide +kernel
theorem dX11_reads_19 : decode cX11_reads 19 = .ok (.ireturn, 1) := by decide +kernel
theorem dX11_school_0 : decode cX11_school 0 = .ok (.aload_n 0, 1) := by decide +kernel
theorem dX11_school_1 : decode cX11_school 1 = .ok (.iload_n 1, 1) := by decide +kernel
theorem dX11_school_2 : decode cX11_school 2 = .ok (.invokevirtual 197, 3) := by decide +kernel
theorem dX11_school_5 : decode cX11_school 5 = .ok (.astore_n 3, 1) := by decide +kernel
theorem dX11_school_6 : decode cX11_school 6 = .ok (.aload_n 3, 1) := by decide +kernel
theorem dX11_school_7 : decode cX11_school 7 = .ok (.ifnonnull 5, 3) := by decide +kernel
theorem dX11_school_10 : decode cX11_school 10 = .ok (.iconst (-1), 1) := by decide +kernel
theorem dX11_school_11 : decode cX11_school 11 = .ok (.ireturn, 1) := by decide +kernel
theorem dX11_school_12 : decode cX11_school 12 = .ok (.iconst 0, 1) := by decide +kernel
theorem dX11_school_13 : decode cX11_school 13 = .ok (.istore 4, 2) := by decide +kernel
theorem dX11_school_15 : decode cX11_school 15 = .ok (.iconst 0, 1) := by decide +kernel
theorem dX11_school_16 : decode cX11_school 16 = .ok (.istore 5, 2) := by decide +kernel
theorem dX11_school_18 : decode cX11_school 18 = .ok (.iconst 0, 1) := by decide +kernel
theorem dX11_school_19 : decode cX11_school 19 = .ok (.istore 6, 2) := by decide +kernel
theorem dX11_school_21 : decode cX11_school 21 = .ok (.iconst 0, 1) := by decide +kernel
theorem dX11_school_22 : decode cX11_school 22 = .ok (.istore 7, 2) := by decide +kernel
theorem dX11_school_24 : decode cX11_school 24 = .ok (.iload 7, 2) := by decide +kernel
theorem dX11_school_26 : decode cX11_school 26 = .ok (.aload_n 0, 1) := by decide +kernel
theorem dX11_school_27 : decode cX11_school 27 = .ok (.getfield 61, 3) := by decide +kernel
theorem dX11_school_30 : decode cX11_school 30 = .ok (.if_icmp .ge 59, 3) := by decide +kernel
theorem dX11_school_33 : decode cX11_school 33 = .ok (.aload_n 0, 1) := by decide +kernel
theorem dX11_school_34 : decode cX11_school 34 = .ok (.getfield 56, 3) := by decide +kernel
theorem dX11_school_37 : decode cX11_school 37 = .ok (.iload 7, 2) := by decide +kernel
theorem dX11_school_39 : decode cX11_school 39 = .ok (.aaload, 1) := by decide +kernel
theorem dX11_school_40 : decode cX11_school 40 = .ok (.astore 8, 2) := by decide +kernel
theorem dX11_school_42 : decode cX11_school 42 = .ok (.aload 8, 2) := by decide +kernel
theorem dX11_school_44 : decode cX11_school 44 = .ok (.getfield 204, 3) := by decide +kernel
theorem dX11_school_47 : decode cX11_school 47 = .ok (.iload_n 1, 1) := by decide +kernel
theorem dX11_school_48 : decode cX11_school 48 = .ok (.if_icmp .ne 35, 3) := by decide +kernel
theorem dX11_school_51 : decode cX11_school 51 = .ok (.iinc 4 1, 3) := by decide +kernel
theorem dX11_school_54 : decode cX11_school 54 = .ok (.iload 6, 2) := by decide +kernel
theorem dX11_school_56 : decode cX11_school 56 = .ok (.aload 8, 2) := by decide +kernel
theorem dX11_school_58 : decode cX11_school 58 = .ok (.invokevirtual 220, 3) := by decide +kernel
theorem dX11_school_61 : decode cX11_school 61 = .ok (.ior, 1) := by decide +kernel
theorem dX11_school_62 : decode cX11_school 62 = .ok (.istore 6, 2) := by decide +kernel
theorem dX11_school_64 : decode cX11_school 64 = .ok (.iload 5, 2) := by decide +kernel
theorem dX11_school_66 : decode cX11_school 66 = .ok (.aload_n 0, 1) := by decide +kernel
theorem dX11_school_67 : decode cX11_school 67 = .ok (.aload 8, 2) := by decide +kernel
theorem dX11_school_69 : decode cX11_school 69 = .ok (.invokevirtual 244, 3) := by decide +kernel
theorem dX11_school_72 : decode cX11_school 72 = .ok (.ifCond .ne 7, 3) := by decide +kernel
theorem dX11_school_75 : decode cX11_school 75 = .ok (.iconst 1, 1) := by decide +kernel
theorem dX11_school_76 : decode cX11_school 76 = .ok (.goto 4, 3) := by decide +kernel
theorem dX11_school_79 : decode cX11_school 79 = .ok (.iconst 0, 1) := by decide +kernel
theorem dX11_school_80 : decode cX11_school 80 = .ok (.iadd, 1) := by decide +kernel
theorem dX11_school_81 : decode cX11_school 81 = .ok (.istore 5, 2) := by decide +kernel
theorem dX11_school_83 : decode cX11_school 83 = .ok (.iinc 7 1, 3) := by decide +kernel
theorem dX11_school_86 : decode cX11_school 86 = .ok (.goto (-62), 3) := by decide +kernel
theorem dX11_school_89 : decode cX11_school 89 = .ok (.iload_n 2, 1) := by decide +kernel
theorem dX11_school_90 : decode cX11_school 90 = .ok (.tableswitch 59 0 3 #[30, 33, 40, 43], 30) := by decide +kernel
theorem dX11_school_120 : decode cX11_school 120 = .ok (.iload 5, 2) := by decide +kernel
theorem dX11_school_122 : decode cX11_school 122 = .ok (.ireturn, 1) := by decide +kernel
theorem dX11_school_123 : decode cX11_school 123 = .ok (.aload_n 3, 1) := by decide +kernel
theorem dX11_school_124 : decode cX11_school 124 = .ok (.iload 6, 2) := by decide +kernel
theorem dX11_school_126 : decode cX11_school 126 = .ok (.invokevirtual 248, 3) := by decide +kernel
theorem dX11_school_129 : decode cX11_school 129 = .ok (.ireturn, 1) := by decide +kernel
theorem dX11_school_130 : decode cX11_school 130 = .ok (.iload 4, 2) := by decide +kernel
theorem dX11_school_132 : decode cX11_school 132 = .ok (.ireturn, 1) := by decide +kernel
theorem dX11_school_133 : decode cX11_school 133 = .ok (.aload_n 3, 1) := by decide +kernel
theorem dX11_school_134 : decode cX11_school 134 = .ok (.bipush 31, 2) := by decide +kernel
theorem dX11_school_136 : decode cX11_school 136 = .ok (.invokevirtual 251, 3) := by decide +kernel
theorem dX11_school_139 : decode cX11_school 139 = .ok (.aload_n 3, 1) := by decide +kernel
theorem dX11_school_140 : decode cX11_school 140 = .ok (.iload 6, 2) := by decide +kernel
theorem dX11_school_142 : decode cX11_school 142 = .ok (.invokevirtual 251, 3) := by decide +kernel
theorem dX11_school_145 : decode cX11_school 145 = .ok (.iconst (-1), 1) := by decide +kernel
theorem dX11_school_146 : decode cX11_school 146 = .ok (.ixor, 1) := by decide +kernel
theorem dX11_school_147 : decode cX11_school 147 = .ok (.iand, 1) := by decide +kernel
theorem dX11_school_148 : decode cX11_school 148 = .ok (.ireturn, 1) := by decide +kernel
theorem dX11_school_149 : decode cX11_school 149 = .ok (.bipush (-2), 2) := by decide +kernel
theorem dX11_school_151 : decode cX11_school 151 = .ok (.ireturn, 1) := by decide +kernel
theorem dX11_fund_0 : decode cX11_fund 0 = .ok (.iload_n 1, 1) := by decide +kernel
theorem dX11_fund_1 : decode cX11_fund 1 = .ok (.iconst 0, 1) := by decide +kernel
theorem dX11_fund_2 : decode cX11_fund 2 = .ok (.sipush 1000, 3) := by decide +kernel
theorem dX11_fund_5 : decode cX11_fund 5 = .ok (.invokestatic 92, 3) := by decide +kernel
theorem dX11_fund_8 : decode cX11_fund 8 = .ok (.ifCond .eq 12, 3) := by decide +kernel
theorem dX11_fund_11 : decode cX11_fund 11 = .ok (.iload_n 2, 1) := by decide +kernel
theorem dX11_fund_12 : decode cX11_fund 12 = .ok (.iconst 0, 1) := by decide +kernel
theorem dX11_fund_13 : decode cX11_fund 13 = .ok (.iconst 3, 1) := by decide +kernel
theorem dX11_fund_14 : decode cX11_fund 14 = .ok (.invokestatic 92, 3) := by decide +kernel
theorem dX11_fund_17 : decode cX11_fund 17 = .ok (.ifCond .ne 6, 3) := by decide +kernel
theorem dX11_fund_20 : decode cX11_fund 20 = .ok (.bipush (-2), 2) := by decide +kernel
theorem dX11_fund_22 : decode cX11_fund 22 = .ok (.ireturn, 1) := by decide +kernel
theorem dX11_fund_23 : decode cX11_fund 23 = .ok (.aload_n 0, 1) := by decide +kernel
theorem dX11_fund_24 : decode cX11_fund 24 = .ok (.getfield 75, 3) := by decide +kernel
theorem dX11_fund_27 : decode cX11_fund 27 = .ok (.invokevirtual 254, 3) := by decide +kernel
theorem dX11_fund_30 : decode cX11_fund 30 = .ok (.iconst 0, 1) := by decide +kernel
theorem dX11_fund_31 : decode cX11_fund 31 = .ok (.istore_n 3, 1) := by decide +kernel
theorem dX11_fund_32 : decode cX11_fund 32 = .ok (.iload_n 3, 1) := by decide +kernel
theorem dX11_fund_33 : decode cX11_fund 33 = .ok (.iconst 5, 1) := by decide +kernel
theorem dX11_fund_34 : decode cX11_fund 34 = .ok (.if_icmp .ge 43, 3) := by decide +kernel
theorem dX11_fund_37 : decode cX11_fund 37 = .ok (.aload_n 0, 1) := by decide +kernel
theorem dX11_fund_38 : decode cX11_fund 38 = .ok (.iload_n 3, 1) := by decide +kernel
theorem dX11_fund_39 : decode cX11_fund 39 = .ok (.invokevirtual 257, 3) := by decide +kernel
theorem dX11_fund_42 : decode cX11_fund 42 = .ok (.ifCond .eq 29, 3) := by decide +kernel
theorem dX11_fund_45 : decode cX11_fund 45 = .ok (.aload_n 0, 1) := by decide +kernel
theorem dX11_fund_46 : decode cX11_fund 46 = .ok (.getfield 50, 3) := by decide +kernel
theorem dX11_fund_49 : decode cX11_fund 49 = .ok (.aload_n 0, 1) := by decide +kernel
theorem dX11_fund_50 : decode cX11_fund 50 = .ok (.getfield 11, 3) := by decide +kernel
theorem dX11_fund_53 : decode cX11_fund 53 = .ok (.iload_n 3, 1) := by decide +kernel
theorem dX11_fund_54 : decode cX11_fund 54 = .ok (.aaload, 1) := by decide +kernel
theorem dX11_fund_55 : decode cX11_fund 55 = .ok (.invokevirtual 171, 3) := by decide +kernel
theorem dX11_fund_58 : decode cX11_fund 58 = .ok (.aload_n 0, 1) := by decide +kernel
theorem dX11_fund_59 : decode cX11_fund 59 = .ok (.invokevirtual 260, 3) := by decide +kernel
theorem dX11_fund_62 : decode cX11_fund 62 = .ok (.aload_n 0, 1) := by decide +kernel
theorem dX11_fund_63 : decode cX11_fund 63 = .ok (.getfield 75, 3) := by decide +kernel
theorem dX11_fund_66 : decode cX11_fund 66 = .ok (.iload_n 3, 1) := by decide +kernel
theorem dX11_fund_67 : decode cX11_fund 67 = .ok (.iload_n 1, 1) := by decide +kernel
theorem dX11_fund_68 : decode cX11_fund 68 = .ok (.invokevirtual 263, 3) := by decide +kernel
theorem dX11_fund_71 : decode cX11_fund 71 = .ok (.iinc 3 1, 3) := by decide +kernel
theorem dX11_fund_74 : decode cX11_fund 74 = .ok (.goto (-42), 3) := by decide +kernel
theorem dX11_fund_77 : decode cX11_fund 77 = .ok (.iload_n 2, 1) := by decide +kernel
theorem dX11_fund_78 : decode cX11_fund 78 = .ok (.tableswitch 50 0 2 #[26, 34, 42], 26) := by decide +kernel
theorem dX11_fund_104 : decode cX11_fund 104 = .ok (.aload_n 0, 1) := by decide +kernel
theorem dX11_fund_105 : decode cX11_fund 105 = .ok (.getfield 75, 3) := by decide +kernel
theorem dX11_fund_108 : decode cX11_fund 108 = .ok (.getfield 267, 3) := by decide +kernel
theorem dX11_fund_111 : decode cX11_fund 111 = .ok (.ireturn, 1) := by decide +kernel
theorem dX11_fund_112 : decode cX11_fund 112 = .ok (.aload_n 0, 1) := by decide +kernel
theorem dX11_fund_113 : decode cX11_fund 113 = .ok (.getfield 75, 3) := by decide +kernel
theorem dX11_fund_116 : decode cX11_fund 116 = .ok (.getfield 270, 3) := by decide +kernel
theorem dX11_fund_119 : decode cX11_fund 119 = .ok (.ireturn, 1) := by decide +kernel
theorem dX11_fund_120 : decode cX11_fund 120 = .ok (.aload_n 0, 1) := by decide +kernel
theorem dX11_fund_121 : decode cX11_fund 121 = .ok (.getfield 75, 3) := by decide +kernel
theorem dX11_fund_124 : decode cX11_fund 124 = .ok (.getfield 273, 3) := by decide +kernel
theorem dX11_fund_127 : decode cX11_fund 127 = .ok (.ireturn, 1) := by decide +kernel
theorem dX11_fund_128 : decode cX11_fund 128 = .ok (.aload_n 0, 1) := by decide +kernel
theorem dX11_fund_129 : decode cX11_fund 129 = .ok (.getfield 75, 3) := by decide +kernel
theorem dX11_fund_132 : decode cX11_fund 132 = .ok (.getfield 276, 3) := by decide +kernel
theorem dX11_fund_135 : decode cX11_fund 135 = .ok (.ireturn, 1) := by decide +kernel
theorem dX11_sign_0 : decode cX11_sign 0 = .ok (.iload_n 1, 1) := by decide +kernel
theorem dX11_sign_1 : decode cX11_sign 1 = .ok (.bipush 33, 2) := by decide +kernel
theorem dX11_sign_3 : decode cX11_sign 3 = .ok (.bipush 126, 2) := by decide +kernel
theorem dX11_sign_5 : decode cX11_sign 5 = .ok (.invokestatic 92, 3) := by decide +kernel
theorem dX11_sign_8 : decode cX11_sign 8 = .ok (.ifCond .ne 6, 3) := by decide +kernel
theorem dX11_sign_11 : decode cX11_sign 11 = .ok (.bipush (-2), 2) := by decide +kernel
theorem dX11_sign_13 : decode cX11_sign 13 = .ok (.ireturn, 1) := by decide +kernel
theorem dX11_sign_14 : decode cX11_sign 14 = .ok (.aload_n 0, 1) := by decide +kernel
theorem dX11_sign_15 : decode cX11_sign 15 = .ok (.getfield 28, 3) := by decide +kernel
theorem dX11_sign_18 : decode cX11_sign 18 = .ok (.invokevirtual 100, 3) := by decide +kernel
theorem dX11_sign_21 : decode cX11_sign 21 = .ok (.ifCond .eq 8, 3) := by decide +kernel
theorem dX11_sign_24 : decode cX11_sign 24 = .ok (.bipush (-4), 2) := by decide +kernel
theorem dX11_sign_26 : decode cX11_sign 26 = .ok (.goto 11, 3) := by decide +kernel
theorem dX11_sign_29 : decode cX11_sign 29 = .ok (.aload_n 0, 1) := by decide +kernel
theorem dX11_sign_30 : decode cX11_sign 30 = .ok (.getfield 28, 3) := by decide +kernel
theorem dX11_sign_33 : decode cX11_sign 33 = .ok (.iload_n 1, 1) := by decide +kernel
theorem dX11_sign_34 : decode cX11_sign 34 = .ok (.invokevirtual 104, 3) := by decide +kernel
theorem dX11_sign_37 : decode cX11_sign 37 = .ok (.ireturn, 1) := by decide +kernel
theorem dX11_fault_0 : decode cX11_fault 0 = .ok (.aload_n 0, 1) := by decide +kernel
theorem dX11_fault_1 : decode cX11_fault 1 = .ok (.getfield 28, 3) := by decide +kernel
theorem dX11_fault_4 : decode cX11_fault 4 = .ok (.invokestatic 279, 3) := by decide +kernel
theorem dX11_fault_7 : decode cX11_fault 7 = .ok (.ireturn, 1) := by decide +kernel
theorem dX11_board_0 : decode cX11_board 0 = .ok (.aload_n 0, 1) := by decide +kernel
theorem dX11_board_1 : decode cX11_board 1 = .ok (.iload_n 1, 1) := by decide +kernel
theorem dX11_board_2 : decode cX11_board 2 = .ok (.invokevirtual 197, 3) := by decide +kernel
theorem dX11_board_5 : decode cX11_board 5 = .ok (.astore_n 2, 1) := by decide +kernel
theorem dX11_board_6 : decode cX11_board 6 = .ok (.aload_n 2, 1) := by decide +kernel
theorem dX11_board_7 : decode cX11_board 7 = .ok (.ifnonnull 5, 3) := by decide +kernel
theorem dX11_board_10 : decode cX11_board 10 = .ok (.iconst (-1), 1) := by decide +kernel
theorem dX11_board_11 : decode cX11_board 11 = .ok (.ireturn, 1) := by decide +kernel
theorem dX11_board_12 : decode cX11_board 12 = .ok (.aload_n 0, 1) := by decide +kernel
theorem dX11_board_13 : decode cX11_board 13 = .ok (.getfield 28, 3) := by decide +kernel
theorem dX11_board_16 : decode cX11_board 16 = .ok (.invokestatic 279, 3) := by decide +kernel
theorem dX11_board_19 : decode cX11_board 19 = .ok (.bipush (-6), 2) := by decide +kernel
theorem dX11_board_21 : decode cX11_board 21 = .ok (.if_icmp .eq 6, 3) := by decide +kernel
theorem dX11_board_24 : decode cX11_board 24 = .ok (.bipush (-5), 2) := by decide +kernel
theorem dX11_board_26 : decode cX11_board 26 = .ok (.ireturn, 1) := by decide +kernel
theorem dX11_board_27 : decode cX11_board 27 = .ok (.aload_n 2, 1) := by decide +kernel
theorem dX11_board_28 : decode cX11_board 28 = .ok (.getfield 284, 3) := by decide +kernel
theorem dX11_board_31 : decode cX11_board 31 = .ok (.getfield 119, 3) := by decide +kernel
theorem dX11_board_34 : decode cX11_board 34 = .ok (.ifCond .ne 7, 3) := by decide +kernel
theorem dX11_board_37 : decode cX11_board 37 = .ok (.iconst 1, 1) := by decide +kernel
theorem dX11_board_38 : decode cX11_board 38 = .ok (.goto 4, 3) := by decide +kernel
theorem dX11_board_41 : decode cX11_board 41 = .ok (.iconst 0, 1) := by decide +kernel
theorem dX11_board_42 : decode cX11_board 42 = .ok (.istore_n 3, 1) := by decide +kernel
theorem dX11_board_43 : decode cX11_board 43 = .ok (.aload_n 2, 1) := by decide +kernel
theorem dX11_board_44 : decode cX11_board 44 = .ok (.getfield 284, 3) := by decide +kernel
theorem dX11_board_47 : decode cX11_board 47 = .ok (.invokevirtual 108, 3) := by decide +kernel
theorem dX11_board_50 : decode cX11_board 50 = .ok (.pop, 1) := by decide +kernel
theorem dX11_board_51 : decode cX11_board 51 = .ok (.iconst 0, 1) := by decide +kernel
theorem dX11_board_52 : decode cX11_board 52 = .ok (.istore 4, 2) := by decide +kernel
theorem dX11_board_54 : decode cX11_board 54 = .ok (.iload 4, 2) := by decide +kernel
theorem dX11_board_56 : decode cX11_board 56 = .ok (.aload_n 0, 1) := by decide +kernel
theorem dX11_board_57 : decode cX11_board 57 = .ok (.getfield 28, 3) := by decide +kernel
theorem dX11_board_60 : decode cX11_board 60 = .ok (.getfield 119, 3) := by decide +kernel
theorem dX11_board_63 : decode cX11_board 63 = .ok (.if_icmp .ge 26, 3) := by decide +kernel
theorem dX11_board_66 : decode cX11_board 66 = .ok (.aload_n 2, 1) := by decide +kernel
theorem dX11_board_67 : decode cX11_board 67 = .ok (.getfield 284, 3) := by decide +kernel
theorem dX11_board_70 : decode cX11_board 70 = .ok (.aload_n 0, 1) := by decide +kernel
theorem dX11_board_71 : decode cX11_board 71 = .ok (.getfield 28, 3) := by decide +kernel
theorem dX11_board_74 : decode cX11_board 74 = .ok (.iload 4, 2) := by decide +kernel
theorem dX11_board_76 : decode cX11_board 76 = .ok (.invokevirtual 136, 3) := by decide +kernel
theorem dX11_board_79 : decode cX11_board 79 = .ok (.invokevirtual 104, 3) := by decide +kernel
theorem dX11_board_82 : decode cX11_board 82 = .ok (.pop, 1) := by decide +kernel
theorem dX11_board_83 : decode cX11_board 83 = .ok (.iinc 4 1, 3) := by decide +kernel
theorem dX11_board_86 : decode cX11_board 86 = .ok (.goto (-32), 3) := by decide +kernel
theorem dX11_board_89 : decode cX11_board 89 = .ok (.aload_n 0, 1) := by decide +kernel
theorem dX11_board_90 : decode cX11_board 90 = .ok (.getfield 28, 3) := by decide +kernel
theorem dX11_board_93 : decode cX11_board 93 = .ok (.invokevirtual 108, 3) := by decide +kernel
theorem dX11_board_96 : decode cX11_board 96 = .ok (.pop, 1) := by decide +kernel
theorem dX11_board_97 : decode cX11_board 97 = .ok (.iload_n 3, 1) := by decide +kernel
theorem dX11_board_98 : decode cX11_board 98 = .ok (.ireturn, 1) := by decide +kernel
theorem dX11_voters_0 : decode cX11_voters 0 = .ok (.aload_n 0, 1) := by decide +kernel
theorem dX11_voters_1 : decode cX11_voters 1 = .ok (.iload_n 1, 1) := by decide +kernel
theorem dX11_voters_2 : decode cX11_voters 2 = .ok (.invokevirtual 197, 3) := by decide +kernel
theorem dX11_voters_5 : decode cX11_voters 5 = .ok (.ifnonnull 7, 3) := by decide +kernel
theorem dX11_voters_8 : decode cX11_voters 8 = .ok (.iconst (-1), 1) := by decide +kernel
theorem dX11_voters_9 : decode cX11_voters 9 = .ok (.goto 8, 3) := by decide +kernel
theorem dX11_voters_12 : decode cX11_voters 12 = .ok (.aload_n 0, 1) := by decide +kernel
theorem dX11_voters_13 : decode cX11_voters 13 = .ok (.iload_n 1, 1) := by decide +kernel
theorem dX11_voters_14 : decode cX11_voters 14 = .ok (.invokevirtual 287, 3) := by decide +kernel
theorem dX11_voters_17 : decode cX11_voters 17 = .ok (.ireturn, 1) := by decide +kernel
theorem dX11_choice_0 : decode cX11_choice 0 = .ok (.aload_n 0, 1) := by decide +kernel
theorem dX11_choice_1 : decode cX11_choice 1 = .ok (.iload_n 1, 1) := by decide +kernel
theorem dX11_choice_2 : decode cX11_choice 2 = .ok (.invokevirtual 197, 3) := by decide +kernel
theorem dX11_choice_5 : decode cX11_choice 5 = .ok (.ifnonnull 5, 3) := by decide +kernel
theorem dX11_choice_8 : decode cX11_choice 8 = .ok (.iconst (-1), 1) := by decide +kernel
theorem dX11_choice_9 : decode cX11_choice 9 = .ok (.ireturn, 1) := by decide +kernel
theorem dX11_choice_10 : decode cX11_choice 10 = .ok (.iload_n 2, 1) := by decide +kernel
theorem dX11_choice_11 : decode cX11_choice 11 = .ok (.ifCond .eq 11, 3) := by decide +kernel
theorem dX11_choice_14 : decode cX11_choice 14 = .ok (.aload_n 0, 1) := by decide +kernel
theorem dX11_choice_15 : decode cX11_choice 15 = .ok (.iload_n 1, 1) := by decide +kernel
theorem dX11_choice_16 : decode cX11_choice 16 = .ok (.invokevirtual 290, 3) := by decide +kernel
theorem dX11_choice_19 : decode cX11_choice 19 = .ok (.goto 8, 3) := by decide +kernel
theorem dX11_choice_22 : decode cX11_choice 22 = .ok (.aload_n 0, 1) := by decide +kernel
theorem dX11_choice_23 : decode cX11_choice 23 = .ok (.iload_n 1, 1) := by decide +kernel
theorem dX11_choice_24 : decode cX11_choice 24 = .ok (.invokevirtual 287, 3) := by decide +kernel
theorem dX11_choice_27 : decode cX11_choice 27 = .ok (.istore_n 3, 1) := by decide +kernel
theorem dX11_choice_28 : decode cX11_choice 28 = .ok (.bipush (-6), 2) := by decide +kernel
theorem dX11_choice_30 : decode cX11_choice 30 = .ok (.istore 4, 2) := by decide +kernel
theorem dX11_choice_32 : decode cX11_choice 32 = .ok (.iconst 0, 1) := by decide +kernel
theorem dX11_choice_33 : decode cX11_choice 33 = .ok (.istore 5, 2) := by decide +kernel
theorem dX11_choice_35 : decode cX11_choice 35 = .ok (.iconst 0, 1) := by decide +kernel
theorem dX11_choice_36 : decode cX11_choice 36 = .ok (.istore 6, 2) := by decide +kernel
theorem dX11_choice_38 : decode cX11_choice 38 = .ok (.iload 6, 2) := by decide +kernel
theorem dX11_choice_40 : decode cX11_choice 40 = .ok (.iconst 5, 1) := by decide +kernel
theorem dX11_choice_41 : decode cX11_choice 41 = .ok (.if_icmp .ge 33, 3) := by decide +kernel
theorem dX11_choice_44 : decode cX11_choice 44 = .ok (.aload_n 0, 1) := by decide +kernel
theorem dX11_choice_45 : decode cX11_choice 45 = .ok (.iload 6, 2) := by decide +kernel
theorem dX11_choice_47 : decode cX11_choice 47 = .ok (.iload_n 3, 1) := by decide +kernel
theorem dX11_choice_48 : decode cX11_choice 48 = .ok (.invokevirtual 293, 3) := by decide +kernel
theorem dX11_choice_51 : decode cX11_choice 51 = .ok (.istore 7, 2) := by decide +kernel
theorem dX11_choice_53 : decode cX11_choice 53 = .ok (.iload 7, 2) := by decide +kernel
theorem dX11_choice_55 : decode cX11_choice 55 = .ok (.iload 5, 2) := by decide +kernel
theorem dX11_choice_57 : decode cX11_choice 57 = .ok (.if_icmp .le 11, 3) := by decide +kernel
theorem dX11_choice_60 : decode cX11_choice 60 = .ok (.iload 7, 2) := by decide +kernel
theorem dX11_choice_62 : decode cX11_choice 62 = .ok (.istore 5, 2) := by decide +kernel
theorem dX11_choice_64 : decode cX11_choice 64 = .ok (.iload 6, 2) := by decide +kernel
theorem dX11_choice_66 : decode cX11_choice 66 = .ok (.istore 4, 2) := by decide +kernel
theorem dX11_choice_68 : decode cX11_choice 68 = .ok (.iinc 6 1, 3) := by decide +kernel
theorem dX11_choice_71 : decode cX11_choice 71 = .ok (.goto (-33), 3) := by decide +kernel
theorem dX11_choice_74 : decode cX11_choice 74 = .ok (.iload 4, 2) := by decide +kernel
theorem dX11_choice_76 : decode cX11_choice 76 = .ok (.ireturn, 1) := by decide +kernel
theorem dX11_part_0 : decode cX11_part 0 = .ok (.iload_n 1, 1) := by decide +kernel
theorem dX11_part_1 : decode cX11_part 1 = .ok (.iconst 0, 1) := by decide +kernel
theorem dX11_part_2 : decode cX11_part 2 = .ok (.bipush 25, 2) := by decide +kernel
theorem dX11_part_4 : decode cX11_part 4 = .ok (.invokestatic 92, 3) := by decide +kernel
theorem dX11_part_7 : decode cX11_part 7 = .ok (.ifCond .ne 5, 3) := by decide +kernel
theorem dX11_part_10 : decode cX11_part 10 = .ok (.iconst (-1), 1) := by decide +kernel
theorem dX11_part_11 : decode cX11_part 11 = .ok (.ireturn, 1) := by decide +kernel
theorem dX11_part_12 : decode cX11_part 12 = .ok (.iload_n 2, 1) := by decide +kernel
theorem dX11_part_13 : decode cX11_part 13 = .ok (.iconst (-1), 1) := by decide +kernel
theorem dX11_part_14 : decode cX11_part 14 = .ok (.bipush 6, 2) := by decide +kernel
theorem dX11_part_16 : decode cX11_part 16 = .ok (.invokestatic 92, 3) := by decide +kernel
theorem dX11_part_19 : decode cX11_part 19 = .ok (.ifCond .ne 6, 3) := by decide +kernel
theorem dX11_part_22 : decode cX11_part 22 = .ok (.bipush (-2), 2) := by decide +kernel
theorem dX11_part_24 : decode cX11_part 24 = .ok (.ireturn, 1) := by decide +kernel
theorem dX11_part_25 : decode cX11_part 25 = .ok (.aload_n 0, 1) := by decide +kernel
theorem dX11_part_26 : decode cX11_part 26 = .ok (.getfield 84, 3) := by decide +kernel
theorem dX11_part_29 : decode cX11_part 29 = .ok (.getfield 296, 3) := by decide +kernel
theorem dX11_part_32 : decode cX11_part 32 = .ok (.iload_n 1, 1) := by decide +kernel
theorem dX11_part_33 : decode cX11_part 33 = .ok (.iaload, 1) := by decide +kernel
theorem dX11_part_34 : decode cX11_part 34 = .ok (.istore_n 3, 1) := by decide +kernel
theorem dX11_part_35 : decode cX11_part 35 = .ok (.aload_n 0, 1) := by decide +kernel
theorem dX11_part_36 : decode cX11_part 36 = .ok (.getfield 84, 3) := by decide +kernel
theorem dX11_part_39 : decode cX11_part 39 = .ok (.getfield 296, 3) := by decide +kernel
theorem dX11_part_42 : decode cX11_part 42 = .ok (.iload_n 1, 1) := by decide +kernel
theorem dX11_part_43 : decode cX11_part 43 = .ok (.iload_n 2, 1) := by decide +kernel
theorem dX11_part_44 : decode cX11_part 44 = .ok (.iastore, 1) := by decide +kernel
theorem dX11_part_45 : decode cX11_part 45 = .ok (.iload_n 3, 1) := by decide +kernel
theorem dX11_part_46 : decode cX11_part 46 = .ok (.ifCond .ge 8, 3) := by decide +kernel
theorem dX11_part_49 : decode cX11_part 49 = .ok (.bipush (-6), 2) := by decide +kernel
theorem dX11_part_51 : decode cX11_part 51 = .ok (.goto 4, 3) := by decide +kernel
theorem dX11_part_54 : decode cX11_part 54 = .ok (.iload_n 3, 1) := by decide +kernel
theorem dX11_part_55 : decode cX11_part 55 = .ok (.ireturn, 1) := by decide +kernel
theorem dX11_mix_0 : decode cX11_mix 0 = .ok (.aload_n 0, 1) := by decide +kernel
theorem dX11_mix_1 : decode cX11_mix 1 = .ok (.getfield 84, 3) := by decide +kernel
theorem dX11_mix_4 : decode cX11_mix 4 = .ok (.iload_n 1, 1) := by decide +kernel
theorem dX11_mix_5 : decode cX11_mix 5 = .ok (.invokevirtual 299, 3) := by decide +kernel
theorem dX11_mix_8 : decode cX11_mix 8 = .ok (.ifCond .ne 6, 3) := by decide +kernel
theorem dX11_mix_11 : decode cX11_mix 11 = .ok (.bipush (-2), 2) := by decide +kernel
theorem dX11_mix_13 : decode cX11_mix 13 = .ok (.ireturn, 1) := by decide +kernel
theorem dX11_mix_14 : decode cX11_mix 14 = .ok (.aload_n 0, 1) := by decide +kernel
theorem dX11_mix_15 : decode cX11_mix 15 = .ok (.getfield 84, 3) := by decide +kernel
theorem dX11_mix_18 : decode cX11_mix 18 = .ok (.invokevirtual 302, 3) := by decide +kernel
theorem dX11_mix_21 : decode cX11_mix 21 = .ok (.ifCond .eq 7, 3) := by decide +kernel
theorem dX11_mix_24 : decode cX11_mix 24 = .ok (.iconst 1, 1) := by decide +kernel
theorem dX11_mix_25 : decode cX11_mix 25 = .ok (.goto 4, 3) := by decide +kernel
theorem dX11_mix_28 : decode cX11_mix 28 = .ok (.iconst 0, 1) := by decide +kernel
theorem dX11_mix_29 : decode cX11_mix 29 = .ok (.ireturn, 1) := by decide +kernel
theorem dX11_anew_0 : decode cX11_anew 0 = .ok (.aload_n 0, 1) := by decide +kernel
theorem dX11_anew_1 : decode cX11_anew 1 = .ok (.getfield 84, 3) := by decide +kernel
theorem dX11_anew_4 : decode cX11_anew 4 = .ok (.iload_n 1, 1) := by decide +kernel
theorem dX11_anew_5 : decode cX11_anew 5 = .ok (.invokevirtual 299, 3) := by decide +kernel
theorem dX11_anew_8 : decode cX11_anew 8 = .ok (.ifCond .ne 6, 3) := by decide +kernel
theorem dX11_anew_11 : decode cX11_anew 11 = .ok (.bipush (-2), 2) := by decide +kernel
theorem dX11_anew_13 : decode cX11_anew 13 = .ok (.ireturn, 1) := by decide +kernel
theorem dX11_anew_14 : decode cX11_anew 14 = .ok (.aload_n 0, 1) := by decide +kernel
theorem dX11_anew_15 : decode cX11_anew 15 = .ok (.getfield 84, 3) := by decide +kernel
theorem dX11_anew_18 : decode cX11_anew 18 = .ok (.invokevirtual 302, 3) := by decide +kernel
theorem dX11_anew_21 : decode cX11_anew 21 = .ok (.ifCond .ne 6, 3) := by decide +kernel
theorem dX11_anew_24 : decode cX11_anew 24 = .ok (.bipush (-5), 2) := by decide +kernel
theorem dX11_anew_26 : decode cX11_anew 26 = .ok (.ireturn, 1) := by decide +kernel
theorem dX11_anew_27 : decode cX11_anew 27 = .ok (.aload_n 0, 1) := by decide +kernel
theorem dX11_anew_28 : decode cX11_anew 28 = .ok (.invokevirtual 305, 3) := by decide +kernel
theorem dX11_anew_31 : decode cX11_anew 31 = .ok (.aload_n 0, 1) := by decide +kernel
theorem dX11_anew_32 : decode cX11_anew 32 = .ok (.getfield 84, 3) := by decide +kernel
theorem dX11_anew_35 : decode cX11_anew 35 = .ok (.invokevirtual 308, 3) := by decide +kernel
theorem dX11_anew_38 : decode cX11_anew 38 = .ok (.ireturn, 1) := by decide +kernel
theorem dX11_best_0 : decode cX11_best 0 = .ok (.aload_n 0, 1) := by decide +kernel
theorem dX11_best_1 : decode cX11_best 1 = .ok (.invokevirtual 305, 3) := by decide +kernel
theorem dX11_best_4 : decode cX11_best 4 = .ok (.aload_n 0, 1) := by decide +kernel
theorem dX11_best_5 : decode cX11_best 5 = .ok (.getfield 84, 3) := by decide +kernel
theorem dX11_best_8 : decode cX11_best 8 = .ok (.invokevirtual 311, 3) := by decide +kernel
theorem dX11_best_11 : decode cX11_best 11 = .ok (.ireturn, 1) := by decide +kernel
theorem dX11_told_0 : decode cX11_told 0 = .ok (.iload_n 1, 1) := by decide +kernel
theorem dX11_told_1 : decode cX11_told 1 = .ok (.bipush 10, 2) := by decide +kernel
theorem dX11_told_3 : decode cX11_told 3 = .ok (.bipush 14, 2) := by decide +kernel
theorem dX11_told_5 : decode cX11_told 5 = .ok (.invokestatic 92, 3) := by decide +kernel
theorem dX11_told_8 : decode cX11_told 8 = .ok (.ifCond .eq 19, 3) := by decide +kernel
theorem dX11_told_11 : decode cX11_told 11 = .ok (.aload_n 0, 1) := by decide +kernel
theorem dX11_told_12 : decode cX11_told 12 = .ok (.getfield 11, 3) := by decide +kernel
theorem dX11_told_15 : decode cX11_told 15 = .ok (.iload_n 1, 1) := by decide +kernel
theorem dX11_told_16 : decode cX11_told 16 = .ok (.bipush 10, 2) := by decide +kernel
theorem dX11_told_18 : decode cX11_told 18 = .ok (.isub, 1) := by decide +kernel
theorem dX11_told_19 : decode cX11_told 19 = .ok (.aaload, 1) := by decide +kernel
theorem dX11_told_20 : decode cX11_told 20 = .ok (.getfield 112, 3) := by decide +kernel
theorem dX11_told_23 : decode cX11_told 23 = .ok (.getfield 164, 3) := by decide +kernel
theorem dX11_told_26 : decode cX11_told 26 = .ok (.ireturn, 1) := by decide +kernel
theorem dX11_told_27 : decode cX11_told 27 = .ok (.iload_n 1, 1) := by decide +kernel
theorem dX11_told_28 : decode cX11_told 28 = .ok (.bipush 20, 2) := by decide +kernel
theorem dX11_told_30 : decode cX11_told 30 = .ok (.bipush 24, 2) := by decide +kernel
theorem dX11_told_32 : decode cX11_told 32 = .ok (.invokestatic 92, 3) := by decide +kernel
theorem dX11_told_35 : decode cX11_told 35 = .ok (.ifCond .eq 16, 3) := by decide +kernel
theorem dX11_told_38 : decode cX11_told 38 = .ok (.aload_n 0, 1) := by decide +kernel
theorem dX11_told_39 : decode cX11_told 39 = .ok (.getfield 11, 3) := by decide +kernel
theorem dX11_told_42 : decode cX11_told 42 = .ok (.iload_n 1, 1) := by decide +kernel
theorem dX11_told_43 : decode cX11_told 43 = .ok (.bipush 20, 2) := by decide +kernel
theorem dX11_told_45 : decode cX11_told 45 = .ok (.isub, 1) := by decide +kernel
theorem dX11_told_46 : decode cX11_told 46 = .ok (.aaload, 1) := by decide +kernel
theorem dX11_told_47 : decode cX11_told 47 = .ok (.invokevirtual 314, 3) := by decide +kernel
theorem dX11_told_50 : decode cX11_told 50 = .ok (.ireturn, 1) := by decide +kernel
theorem dX11_told_51 : decode cX11_told 51 = .ok (.iload_n 1, 1) := by decide +kernel
theorem dX11_told_52 : decode cX11_told 52 = .ok (.tableswitch 100 0 6 #[44, 52, 60, 68, 79, 90, 95], 44) := by decide +kernel
theorem dX11_told_96 : decode cX11_told 96 = .ok (.aload_n 0, 1) := by decide +kernel
theorem dX11_told_97 : decode cX11_told 97 = .ok (.getfield 21, 3) := by decide +kernel
theorem dX11_told_100 : decode cX11_told 100 = .ok (.getfield 119, 3) := by decide +kernel
theorem dX11_told_103 : decode cX11_told 103 = .ok (.ireturn, 1) := by decide +kernel
theorem dX11_told_104 : decode cX11_told 104 = .ok (.aload_n 0, 1) := by decide +kernel
theorem dX11_told_105 : decode cX11_told 105 = .ok (.getfield 25, 3) := by decide +kernel
theorem dX11_told_108 : decode cX11_told 108 = .ok (.getfield 119, 3) := by decide +kernel
theorem dX11_told_111 : decode cX11_told 111 = .ok (.ireturn, 1) := by decide +kernel
theorem dX11_told_112 : decode cX11_told 112 = .ok (.aload_n 0, 1) := by decide +kernel
theorem dX11_told_113 : decode cX11_told 113 = .ok (.getfield 28, 3) := by decide +kernel
theorem dX11_told_116 : decode cX11_told 116 = .ok (.getfield 119, 3) := by decide +kernel
theorem dX11_told_119 : decode cX11_told 119 = .ok (.ireturn, 1) := by decide +kernel
theorem dX11_told_120 : decode cX11_told 120 = .ok (.aload_n 0, 1) := by decide +kernel
theorem dX11_told_121 : decode cX11_told 121 = .ok (.getfield 50, 3) := by decide +kernel
theorem dX11_told_124 : decode cX11_told 124 = .ok (.getfield 157, 3) := by decide +kernel
theorem dX11_told_127 : decode cX11_told 127 = .ok (.getfield 164, 3) := by decide +kernel
theorem dX11_told_130 : decode cX11_told 130 = .ok (.ireturn, 1) := by decide +kernel
theorem dX11_told_131 : decode cX11_told 131 = .ok (.aload_n 0, 1) := by decide +kernel
theorem dX11_told_132 : decode cX11_told 132 = .ok (.getfield 50, 3) := by decide +kernel
theorem dX11_told_135 : decode cX11_told 135 = .ok (.getfield 187, 3) := by decide +kernel
theorem dX11_told_138 : decode cX11_told 138 = .ok (.getfield 164, 3) := by decide +kernel
theorem dX11_told_141 : decode cX11_told 141 = .ok (.ireturn, 1) := by decide +kernel
theorem dX11_told_142 : decode cX11_told 142 = .ok (.aload_n 0, 1) := by decide +kernel
theorem dX11_told_143 : decode cX11_told 143 = .ok (.getfield 61, 3) := by decide +kernel
theorem dX11_told_146 : decode cX11_told 146 = .ok (.ireturn, 1) := by decide +kernel
theorem dX11_told_147 : decode cX11_told 147 = .ok (.aload_n 0, 1) := by decide +kernel
theorem dX11_told_148 : decode cX11_told 148 = .ok (.invokevirtual 317, 3) := by decide +kernel
theorem dX11_told_151 : decode cX11_told 151 = .ok (.ireturn, 1) := by decide +kernel
theorem dX11_told_152 : decode cX11_told 152 = .ok (.bipush (-2), 2) := by decide +kernel
theorem dX11_told_154 : decode cX11_told 154 = .ok (.ireturn, 1) := by decide +kernel
theorem dX11_within_0 : decode cX11_within 0 = .ok (.iload_n 0, 1) := by decide +kernel
theorem dX11_within_1 : decode cX11_within 1 = .ok (.iload_n 1, 1) := by decide +kernel
theorem dX11_within_2 : decode cX11_within 2 = .ok (.if_icmp .lt 12, 3) := by decide +kernel
theorem dX11_within_5 : decode cX11_within 5 = .ok (.iload_n 0, 1) := by decide +kernel
theorem dX11_within_6 : decode cX11_within 6 = .ok (.iload_n 2, 1) := by decide +kernel
theorem dX11_within_7 : decode cX11_within 7 = .ok (.if_icmp .gt 7, 3) := by decide +kernel
theorem dX11_within_10 : decode cX11_within 10 = .ok (.iconst 1, 1) := by decide +kernel
theorem dX11_within_11 : decode cX11_within 11 = .ok (.goto 4, 3) := by decide +kernel
theorem dX11_within_14 : decode cX11_within 14 = .ok (.iconst 0, 1) := by decide +kernel
theorem dX11_within_15 : decode cX11_within 15 = .ok (.ireturn, 1) := by decide +kernel
theorem dX11_codeAt_0 : decode cX11_codeAt 0 = .ok (.iload_n 1, 1) := by decide +kernel
theorem dX11_codeAt_1 : decode cX11_codeAt 1 = .ok (.iconst 0, 1) := by decide +kernel
theorem dX11_codeAt_2 : decode cX11_codeAt 2 = .ok (.iconst 4, 1) := by decide +kernel
theorem dX11_codeAt_3 : decode cX11_codeAt 3 = .ok (.invokestatic 92, 3) := by decide +kernel
theorem dX11_codeAt_6 : decode cX11_codeAt 6 = .ok (.ifCond .eq 12, 3) := by decide +kernel
theorem dX11_codeAt_9 : decode cX11_codeAt 9 = .ok (.aload_n 0, 1) := by decide +kernel
theorem dX11_codeAt_10 : decode cX11_codeAt 10 = .ok (.getfield 11, 3) := by decide +kernel
theorem dX11_codeAt_13 : decode cX11_codeAt 13 = .ok (.iload_n 1, 1) := by decide +kernel
theorem dX11_codeAt_14 : decode cX11_codeAt 14 = .ok (.aaload, 1) := by decide +kernel
theorem dX11_codeAt_15 : decode cX11_codeAt 15 = .ok (.goto 4, 3) := by decide +kernel
theorem dX11_codeAt_18 : decode cX11_codeAt 18 = .ok (.aconst_null, 1) := by decide +kernel
theorem dX11_codeAt_19 : decode cX11_codeAt 19 = .ok (.areturn, 1) := by decide +kernel
theorem dX11_readerAt_0 : decode cX11_readerAt 0 = .ok (.iload_n 1, 1) := by decide +kernel
theorem dX11_readerAt_1 : decode cX11_readerAt 1 = .ok (.iconst 0, 1) := by decide +kernel
theorem dX11_readerAt_2 : decode cX11_readerAt 2 = .ok (.aload_n 0, 1) := by decide +kernel
theorem dX11_readerAt_3 : decode cX11_readerAt 3 = .ok (.getfield 61, 3) := by decide +kernel
theorem dX11_readerAt_6 : decode cX11_readerAt 6 = .ok (.iconst 1, 1) := by decide +kernel
theorem dX11_readerAt_7 : decode cX11_readerAt 7 = .ok (.isub, 1) := by decide +kernel
theorem dX11_readerAt_8 : decode cX11_readerAt 8 = .ok (.invokestatic 92, 3) := by decide +kernel
theorem dX11_readerAt_11 : decode cX11_readerAt 11 = .ok (.ifCond .eq 12, 3) := by decide +kernel
theorem dX11_readerAt_14 : decode cX11_readerAt 14 = .ok (.aload_n 0, 1) := by decide +kernel
theorem dX11_readerAt_15 : decode cX11_readerAt 15 = .ok (.getfield 56, 3) := by decide +kernel
theorem dX11_readerAt_18 : decode cX11_readerAt 18 = .ok (.iload_n 1, 1) := by decide +kernel
theorem dX11_readerAt_19 : decode cX11_readerAt 19 = .ok (.aaload, 1) := by decide +kernel
theorem dX11_readerAt_20 : decode cX11_readerAt 20 = .ok (.goto 4, 3) := by decide +kernel
theorem dX11_readerAt_23 : decode cX11_readerAt 23 = .ok (.aconst_null, 1) := by decide +kernel
theorem dX11_readerAt_24 : decode cX11_readerAt 24 = .ok (.areturn, 1) := by decide +kernel
theorem dX11_schoolAt_0 : decode cX11_schoolAt 0 = .ok (.iload_n 1, 1) := by decide +kernel
theorem dX11_schoolAt_1 : decode cX11_schoolAt 1 = .ok (.iconst 0, 1) := by decide +kernel
theorem dX11_schoolAt_2 : decode cX11_schoolAt 2 = .ok (.iconst 5, 1) := by decide +kernel
theorem dX11_schoolAt_3 : decode cX11_schoolAt 3 = .ok (.invokestatic 92, 3) := by decide +kernel
theorem dX11_schoolAt_6 : decode cX11_schoolAt 6 = .ok (.ifCond .eq 12, 3) := by decide +kernel
theorem dX11_schoolAt_9 : decode cX11_schoolAt 9 = .ok (.aload_n 0, 1) := by decide +kernel
theorem dX11_schoolAt_10 : decode cX11_schoolAt 10 = .ok (.getfield 67, 3) := by decide +kernel
theorem dX11_schoolAt_13 : decode cX11_schoolAt 13 = .ok (.iload_n 1, 1) := by decide +kernel
theorem dX11_schoolAt_14 : decode cX11_schoolAt 14 = .ok (.aaload, 1) := by decide +kernel
theorem dX11_schoolAt_15 : decode cX11_schoolAt 15 = .ok (.goto 4, 3) := by decide +kernel
theorem dX11_schoolAt_18 : decode cX11_schoolAt 18 = .ok (.aconst_null, 1) := by decide +kernel
theorem dX11_schoolAt_19 : decode cX11_schoolAt 19 = .ok (.areturn, 1) := by decide +kernel
theorem dX11_readable_0 : decode cX11_readable 0 = .ok (.aload_n 0, 1) := by decide +kernel
theorem dX11_readable_1 : decode cX11_readable 1 = .ok (.aload_n 1, 1) := by decide +kernel
theorem dX11_readable_2 : decode cX11_readable 2 = .ok (.getfield 204, 3) := by decide +kernel
theorem dX11_readable_5 : decode cX11_readable 5 = .ok (.invokevirtual 197, 3) := by decide +kernel
theorem dX11_readable_8 : decode cX11_readable 8 = .ok (.astore_n 2, 1) := by decide +kernel
theorem dX11_readable_9 : decode cX11_readable 9 = .ok (.aload_n 2, 1) := by decide +kernel
theorem dX11_readable_10 : decode cX11_readable 10 = .ok (.ifnonnull 7, 3) := by decide +kernel
theorem dX11_readable_13 : decode cX11_readable 13 = .ok (.iconst 0, 1) := by decide +kernel
theorem dX11_readable_14 : decode cX11_readable 14 = .ok (.goto 11, 3) := by decide +kernel
theorem dX11_readable_17 : decode cX11_readable 17 = .ok (.aload_n 2, 1) := by decide +kernel
theorem dX11_readable_18 : decode cX11_readable 18 = .ok (.aload_n 1, 1) := by decide +kernel
theorem dX11_readable_19 : decode cX11_readable 19 = .ok (.invokevirtual 220, 3) := by decide +kernel
theorem dX11_readable_22 : decode cX11_readable 22 = .ok (.invokevirtual 251, 3) := by decide +kernel
theorem dX11_readable_25 : decode cX11_readable 25 = .ok (.ireturn, 1) := by decide +kernel
theorem dX11_readersOf_0 : decode cX11_readersOf 0 = .ok (.iconst 0, 1) := by decide +kernel
theorem dX11_readersOf_1 : decode cX11_readersOf 1 = .ok (.istore_n 2, 1) := by decide +kernel
theorem dX11_readersOf_2 : decode cX11_readersOf 2 = .ok (.iconst 0, 1) := by decide +kernel
theorem dX11_readersOf_3 : decode cX11_readersOf 3 = .ok (.istore_n 3, 1) := by decide +kernel
theorem dX11_readersOf_4 : decode cX11_readersOf 4 = .ok (.iload_n 3, 1) := by decide +kernel
theorem dX11_readersOf_5 : decode cX11_readersOf 5 = .ok (.aload_n 0, 1) := by decide +kernel
theorem dX11_readersOf_6 : decode cX11_readersOf 6 = .ok (.getfield 61, 3) := by decide +kernel
theorem dX11_readersOf_9 : decode cX11_readersOf 9 = .ok (.if_icmp .ge 32, 3) := by decide +kernel
theorem dX11_readersOf_12 : decode cX11_readersOf 12 = .ok (.iload_n 2, 1) := by decide +kernel
theorem dX11_readersOf_13 : decode cX11_readersOf 13 = .ok (.aload_n 0, 1) := by decide +kernel
theorem dX11_readersOf_14 : decode cX11_readersOf 14 = .ok (.getfield 56, 3) := by decide +kernel
theorem dX11_readersOf_17 : decode cX11_readersOf 17 = .ok (.iload_n 3, 1) := by decide +kernel
theorem dX11_readersOf_18 : decode cX11_readersOf 18 = .ok (.aaload, 1) := by decide +kernel
theorem dX11_readersOf_19 : decode cX11_readersOf 19 = .ok (.getfield 204, 3) := by decide +kernel
theorem dX11_readersOf_22 : decode cX11_readersOf 22 = .ok (.iload_n 1, 1) := by decide +kernel
theorem dX11_readersOf_23 : decode cX11_readersOf 23 = .ok (.if_icmp .ne 9, 3) := by decide +kernel
theorem dX11_readersOf_26 : decode cX11_readersOf 26 = .ok (.iconst 1, 1) := by decide +kernel
theorem dX11_readersOf_27 : decode cX11_readersOf 27 = .ok (.iload_n 3, 1) := by decide +kernel
theorem dX11_readersOf_28 : decode cX11_readersOf 28 = .ok (.ishl, 1) := by decide +kernel
theorem dX11_readersOf_29 : decode cX11_readersOf 29 = .ok (.goto 4, 3) := by decide +kernel
theorem dX11_readersOf_32 : decode cX11_readersOf 32 = .ok (.iconst 0, 1) := by decide +kernel
theorem dX11_readersOf_33 : decode cX11_readersOf 33 = .ok (.ior, 1) := by decide +kernel
theorem dX11_readersOf_34 : decode cX11_readersOf 34 = .ok (.istore_n 2, 1) := by decide +kernel
theorem dX11_readersOf_35 : decode cX11_readersOf 35 = .ok (.iinc 3 1, 3) := by decide +kernel
theorem dX11_readersOf_38 : decode cX11_readersOf 38 = .ok (.goto (-34), 3) := by decide +kernel
theorem dX11_readersOf_41 : decode cX11_readersOf 41 = .ok (.iload_n 2, 1) := by decide +kernel
theorem dX11_readersOf_42 : decode cX11_readersOf 42 = .ok (.ireturn, 1) := by decide +kernel
theorem dX11_votersOf_0 : decode cX11_votersOf 0 = .ok (.aload_n 0, 1) := by decide +kernel
theorem dX11_votersOf_1 : decode cX11_votersOf 1 = .ok (.iload_n 1, 1) := by decide +kernel
theorem dX11_votersOf_2 : decode cX11_votersOf 2 = .ok (.invokevirtual 197, 3) := by decide +kernel
theorem dX11_votersOf_5 : decode cX11_votersOf 5 = .ok (.astore_n 2, 1) := by decide +kernel
theorem dX11_votersOf_6 : decode cX11_votersOf 6 = .ok (.iconst 0, 1) := by decide +kernel
theorem dX11_votersOf_7 : decode cX11_votersOf 7 = .ok (.istore_n 3, 1) := by decide +kernel
theorem dX11_votersOf_8 : decode cX11_votersOf 8 = .ok (.iconst 0, 1) := by decide +kernel
theorem dX11_votersOf_9 : decode cX11_votersOf 9 = .ok (.istore 4, 2) := by decide +kernel
theorem dX11_votersOf_11 : decode cX11_votersOf 11 = .ok (.aload_n 2, 1) := by decide +kernel
theorem dX11_votersOf_12 : decode cX11_votersOf 12 = .ok (.ifnull 56, 3) := by decide +kernel
theorem dX11_votersOf_15 : decode cX11_votersOf 15 = .ok (.iload 4, 2) := by decide +kernel
theorem dX11_votersOf_17 : decode cX11_votersOf 17 = .ok (.aload_n 0, 1) := by decide +kernel
theorem dX11_votersOf_18 : decode cX11_votersOf 18 = .ok (.getfield 61, 3) := by decide +kernel
theorem dX11_votersOf_21 : decode cX11_votersOf 21 = .ok (.if_icmp .ge 47, 3) := by decide +kernel
theorem dX11_votersOf_24 : decode cX11_votersOf 24 = .ok (.aload_n 0, 1) := by decide +kernel
theorem dX11_votersOf_25 : decode cX11_votersOf 25 = .ok (.getfield 56, 3) := by decide +kernel
theorem dX11_votersOf_28 : decode cX11_votersOf 28 = .ok (.iload 4, 2) := by decide +kernel
theorem dX11_votersOf_30 : decode cX11_votersOf 30 = .ok (.aaload, 1) := by decide +kernel
theorem dX11_votersOf_31 : decode cX11_votersOf 31 = .ok (.getfield 204, 3) := by decide +kernel
theorem dX11_votersOf_34 : decode cX11_votersOf 34 = .ok (.iload_n 1, 1) := by decide +kernel
theorem dX11_votersOf_35 : decode cX11_votersOf 35 = .ok (.if_icmp .ne 27, 3) := by decide +kernel
theorem dX11_votersOf_38 : decode cX11_votersOf 38 = .ok (.aload_n 2, 1) := by decide +kernel
theorem dX11_votersOf_39 : decode cX11_votersOf 39 = .ok (.getfield 284, 3) := by decide +kernel
theorem dX11_votersOf_42 : decode cX11_votersOf 42 = .ok (.aload_n 0, 1) := by decide +kernel
theorem dX11_votersOf_43 : decode cX11_votersOf 43 = .ok (.getfield 56, 3) := by decide +kernel
theorem dX11_votersOf_46 : decode cX11_votersOf 46 = .ok (.iload 4, 2) := by decide +kernel
theorem dX11_votersOf_48 : decode cX11_votersOf 48 = .ok (.aaload, 1) := by decide +kernel
theorem dX11_votersOf_49 : decode cX11_votersOf 49 = .ok (.invokestatic 320, 3) := by decide +kernel
theorem dX11_votersOf_52 : decode cX11_votersOf 52 = .ok (.ifCond .eq 10, 3) := by decide +kernel
theorem dX11_votersOf_55 : decode cX11_votersOf 55 = .ok (.iload_n 3, 1) := by decide +kernel
theorem dX11_votersOf_56 : decode cX11_votersOf 56 = .ok (.iconst 1, 1) := by decide +kernel
theorem dX11_votersOf_57 : decode cX11_votersOf 57 = .ok (.iload 4, 2) := by decide +kernel
theorem dX11_votersOf_59 : decode cX11_votersOf 59 = .ok (.ishl, 1) := by decide +kernel
theorem dX11_votersOf_60 : decode cX11_votersOf 60 = .ok (.ior, 1) := by decide +kernel
theorem dX11_votersOf_61 : decode cX11_votersOf 61 = .ok (.istore_n 3, 1) := by decide +kernel
theorem dX11_votersOf_62 : decode cX11_votersOf 62 = .ok (.iinc 4 1, 3) := by decide +kernel
theorem dX11_votersOf_65 : decode cX11_votersOf 65 = .ok (.goto (-54), 3) := by decide +kernel
theorem dX11_votersOf_68 : decode cX11_votersOf 68 = .ok (.iload_n 3, 1) := by decide +kernel
theorem dX11_votersOf_69 : decode cX11_votersOf 69 = .ok (.ireturn, 1) := by decide +kernel
theorem dX11_countOwners_0 : decode cX11_countOwners 0 = .ok (.iconst 0, 1) := by decide +kernel
theorem dX11_countOwners_1 : decode cX11_countOwners 1 = .ok (.istore_n 3, 1) := by decide +kernel
theorem dX11_countOwners_2 : decode cX11_countOwners 2 = .ok (.iconst 0, 1) := by decide +kernel
theorem dX11_countOwners_3 : decode cX11_countOwners 3 = .ok (.istore 4, 2) := by decide +kernel
theorem dX11_countOwners_5 : decode cX11_countOwners 5 = .ok (.iload 4, 2) := by decide +kernel
theorem dX11_countOwners_7 : decode cX11_countOwners 7 = .ok (.aload_n 0, 1) := by decide +kernel
theorem dX11_countOwners_8 : decode cX11_countOwners 8 = .ok (.getfield 61, 3) := by decide +kernel
theorem dX11_countOwners_11 : decode cX11_countOwners 11 = .ok (.if_icmp .ge 36, 3) := by decide +kernel
theorem dX11_countOwners_14 : decode cX11_countOwners 14 = .ok (.iload_n 2, 1) := by decide +kernel
theorem dX11_countOwners_15 : decode cX11_countOwners 15 = .ok (.iload 4, 2) := by decide +kernel
theorem dX11_countOwners_17 : decode cX11_countOwners 17 = .ok (.ishr, 1) := by decide +kernel
theorem dX11_countOwners_18 : decode cX11_countOwners 18 = .ok (.iconst 1, 1) := by decide +kernel
theorem dX11_countOwners_19 : decode cX11_countOwners 19 = .ok (.iand, 1) := by decide +kernel
theorem dX11_countOwners_20 : decode cX11_countOwners 20 = .ok (.iconst 1, 1) := by decide +kernel
theorem dX11_countOwners_21 : decode cX11_countOwners 21 = .ok (.if_icmp .ne 20, 3) := by decide +kernel
theorem dX11_countOwners_24 : decode cX11_countOwners 24 = .ok (.aload_n 0, 1) := by decide +kernel
theorem dX11_countOwners_25 : decode cX11_countOwners 25 = .ok (.getfield 56, 3) := by decide +kernel
theorem dX11_countOwners_28 : decode cX11_countOwners 28 = .ok (.iload 4, 2) := by decide +kernel
theorem dX11_countOwners_30 : decode cX11_countOwners 30 = .ok (.aaload, 1) := by decide +kernel
theorem dX11_countOwners_31 : decode cX11_countOwners 31 = .ok (.invokevirtual 217, 3) := by decide +kernel
theorem dX11_countOwners_34 : decode cX11_countOwners 34 = .ok (.iload_n 1, 1) := by decide +kernel
theorem dX11_countOwners_35 : decode cX11_countOwners 35 = .ok (.if_icmp .ne 6, 3) := by decide +kernel
theorem dX11_countOwners_38 : decode cX11_countOwners 38 = .ok (.iinc 3 1, 3) := by decide +kernel
theorem dX11_countOwners_41 : decode cX11_countOwners 41 = .ok (.iinc 4 1, 3) := by decide +kernel
theorem dX11_countOwners_44 : decode cX11_countOwners 44 = .ok (.goto (-39), 3) := by decide +kernel
theorem dX11_countOwners_47 : decode cX11_countOwners 47 = .ok (.iload_n 3, 1) := by decide +kernel
theorem dX11_countOwners_48 : decode cX11_countOwners 48 = .ok (.ireturn, 1) := by decide +kernel
theorem dX11_countAllOwners_0 : decode cX11_countAllOwners 0 = .ok (.iconst 0, 1) := by decide +kernel
theorem dX11_countAllOwners_1 : decode cX11_countAllOwners 1 = .ok (.istore_n 1, 1) := by decide +kernel
theorem dX11_countAllOwners_2 : decode cX11_countAllOwners 2 = .ok (.iload_n 1, 1) := by decide +kernel
theorem dX11_countAllOwners_3 : decode cX11_countAllOwners 3 = .ok (.iconst 5, 1) := by decide +kernel
theorem dX11_countAllOwners_4 : decode cX11_countAllOwners 4 = .ok (.if_icmp .ge 26, 3) := by decide +kernel
theorem dX11_countAllOwners_7 : decode cX11_countAllOwners 7 = .ok (.aload_n 0, 1) := by decide +kernel
theorem dX11_countAllOwners_8 : decode cX11_countAllOwners 8 = .ok (.getfield 84, 3) := by decide +kernel
theorem dX11_countAllOwners_11 : decode cX11_countAllOwners 11 = .ok (.getfield 324, 3) := by decide +kernel
theorem dX11_countAllOwners_14 : decode cX11_countAllOwners 14 = .ok (.iload_n 1, 1) := by decide +kernel
theorem dX11_countAllOwners_15 : decode cX11_countAllOwners 15 = .ok (.aload_n 0, 1) := by decide +kernel
theorem dX11_countAllOwners_16 : decode cX11_countAllOwners 16 = .ok (.iload_n 1, 1) := by decide +kernel
theorem dX11_countAllOwners_17 : decode cX11_countAllOwners 17 = .ok (.ldc_w 327, 3) := by decide +kernel
theorem dX11_countAllOwners_20 : decode cX11_countAllOwners 20 = .ok (.invokevirtual 293, 3) := by decide +kernel
theorem dX11_countAllOwners_23 : decode cX11_countAllOwners 23 = .ok (.iastore, 1) := by decide +kernel
theorem dX11_countAllOwners_24 : decode cX11_countAllOwners 24 = .ok (.iinc 1 1, 3) := by decide +kernel
theorem dX11_countAllOwners_27 : decode cX11_countAllOwners 27 = .ok (.goto (-25), 3) := by decide +kernel
theorem dX11_countAllOwners_30 : decode cX11_countAllOwners 30 = .ok (.return_, 1) := by decide +kernel
theorem dX11_hopeFrom_0 : decode cX11_hopeFrom 0 = .ok (.aload_n 0, 1) := by decide +kernel
theorem dX11_hopeFrom_1 : decode cX11_hopeFrom 1 = .ok (.getfield 75, 3) := by decide +kernel
theorem dX11_hopeFrom_4 : decode cX11_hopeFrom 4 = .ok (.getfield 328, 3) := by decide +kernel
theorem dX11_hopeFrom_7 : decode cX11_hopeFrom 7 = .ok (.iconst 0, 1) := by decide +kernel
theorem dX11_hopeFrom_8 : decode cX11_hopeFrom 8 = .ok (.invokestatic 331, 3) := by decide +kernel
theorem dX11_hopeFrom_11 : decode cX11_hopeFrom 11 = .ok (.iconst 0, 1) := by decide +kernel
theorem dX11_hopeFrom_12 : decode cX11_hopeFrom 12 = .ok (.istore_n 2, 1) := by decide +kernel
theorem dX11_hopeFrom_13 : decode cX11_hopeFrom 13 = .ok (.iconst 0, 1) := by decide +kernel
theorem dX11_hopeFrom_14 : decode cX11_hopeFrom 14 = .ok (.istore_n 3, 1) := by decide +kernel
theorem dX11_hopeFrom_15 : decode cX11_hopeFrom 15 = .ok (.iload_n 3, 1) := by decide +kernel
theorem dX11_hopeFrom_16 : decode cX11_hopeFrom 16 = .ok (.aload_n 0, 1) := by decide +kernel
theorem dX11_hopeFrom_17 : decode cX11_hopeFrom 17 = .ok (.getfield 61, 3) := by decide +kernel
theorem dX11_hopeFrom_20 : decode cX11_hopeFrom 20 = .ok (.if_icmp .ge 75, 3) := by decide +kernel
theorem dX11_hopeFrom_23 : decode cX11_hopeFrom 23 = .ok (.aload_n 0, 1) := by decide +kernel
theorem dX11_hopeFrom_24 : decode cX11_hopeFrom 24 = .ok (.getfield 56, 3) := by decide +kernel
theorem dX11_hopeFrom_27 : decode cX11_hopeFrom 27 = .ok (.iload_n 3, 1) := by decide +kernel
theorem dX11_hopeFrom_28 : decode cX11_hopeFrom 28 = .ok (.aaload, 1) := by decide +kernel
theorem dX11_hopeFrom_29 : decode cX11_hopeFrom 29 = .ok (.astore 4, 2) := by decide +kernel
theorem dX11_hopeFrom_31 : decode cX11_hopeFrom 31 = .ok (.aload 4, 2) := by decide +kernel
theorem dX11_hopeFrom_33 : decode cX11_hopeFrom 33 = .ok (.getfield 214, 3) := by decide +kernel
theorem dX11_hopeFrom_36 : decode cX11_hopeFrom 36 = .ok (.iload_n 1, 1) := by decide +kernel
theorem dX11_hopeFrom_37 : decode cX11_hopeFrom 37 = .ok (.iaload, 1) := by decide +kernel
theorem dX11_hopeFrom_38 : decode cX11_hopeFrom 38 = .ok (.ifCond .le 51, 3) := by decide +kernel
theorem dX11_hopeFrom_41 : decode cX11_hopeFrom 41 = .ok (.aload_n 0, 1) := by decide +kernel
theorem dX11_hopeFrom_42 : decode cX11_hopeFrom 42 = .ok (.aload 4, 2) := by decide +kernel
theorem dX11_hopeFrom_44 : decode cX11_hopeFrom 44 = .ok (.invokevirtual 244, 3) := by decide +kernel
theorem dX11_hopeFrom_47 : decode cX11_hopeFrom 47 = .ok (.istore 5, 2) := by decide +kernel
theorem dX11_hopeFrom_49 : decode cX11_hopeFrom 49 = .ok (.iconst 0, 1) := by decide +kernel
theorem dX11_hopeFrom_50 : decode cX11_hopeFrom 50 = .ok (.istore 6, 2) := by decide +kernel
theorem dX11_hopeFrom_52 : decode cX11_hopeFrom 52 = .ok (.iload 6, 2) := by decide +kernel
theorem dX11_hopeFrom_54 : decode cX11_hopeFrom 54 = .ok (.bipush 8, 2) := by decide +kernel
theorem dX11_hopeFrom_56 : decode cX11_hopeFrom 56 = .ok (.if_icmp .ge 31, 3) := by decide +kernel
theorem dX11_hopeFrom_59 : decode cX11_hopeFrom 59 = .ok (.aload_n 0, 1) := by decide +kernel
theorem dX11_hopeFrom_60 : decode cX11_hopeFrom 60 = .ok (.getfield 75, 3) := by decide +kernel
theorem dX11_hopeFrom_63 : decode cX11_hopeFrom 63 = .ok (.getfield 328, 3) := by decide +kernel
theorem dX11_hopeFrom_66 : decode cX11_hopeFrom 66 = .ok (.iload 6, 2) := by decide +kernel
theorem dX11_hopeFrom_68 : decode cX11_hopeFrom 68 = .ok (.dup2, 1) := by decide +kernel
theorem dX11_hopeFrom_69 : decode cX11_hopeFrom 69 = .ok (.iaload, 1) := by decide +kernel
theorem dX11_hopeFrom_70 : decode cX11_hopeFrom 70 = .ok (.iconst 1, 1) := by decide +kernel
theorem dX11_hopeFrom_71 : decode cX11_hopeFrom 71 = .ok (.iload 5, 2) := by decide +kernel
theorem dX11_hopeFrom_73 : decode cX11_hopeFrom 73 = .ok (.iload 6, 2) := by decide +kernel
theorem dX11_hopeFrom_75 : decode cX11_hopeFrom 75 = .ok (.ishr, 1) := by decide +kernel
theorem dX11_hopeFrom_76 : decode cX11_hopeFrom 76 = .ok (.iconst 1, 1) := by decide +kernel
theorem dX11_hopeFrom_77 : decode cX11_hopeFrom 77 = .ok (.iand, 1) := by decide +kernel
theorem dX11_hopeFrom_78 : decode cX11_hopeFrom 78 = .ok (.isub, 1) := by decide +kernel
theorem dX11_hopeFrom_79 : decode cX11_hopeFrom 79 = .ok (.iadd, 1) := by decide +kernel
theorem dX11_hopeFrom_80 : decode cX11_hopeFrom 80 = .ok (.iastore, 1) := by decide +kernel
theorem dX11_hopeFrom_81 : decode cX11_hopeFrom 81 = .ok (.iinc 6 1, 3) := by decide +kernel
theorem dX11_hopeFrom_84 : decode cX11_hopeFrom 84 = .ok (.goto (-32), 3) := by decide +kernel
theorem dX11_hopeFrom_87 : decode cX11_hopeFrom 87 = .ok (.iconst 1, 1) := by decide +kernel
theorem dX11_hopeFrom_88 : decode cX11_hopeFrom 88 = .ok (.istore_n 2, 1) := by decide +kernel
theorem dX11_hopeFrom_89 : decode cX11_hopeFrom 89 = .ok (.iinc 3 1, 3) := by decide +kernel
theorem dX11_hopeFrom_92 : decode cX11_hopeFrom 92 = .ok (.goto (-77), 3) := by decide +kernel
theorem dX11_hopeFrom_95 : decode cX11_hopeFrom 95 = .ok (.iload_n 2, 1) := by decide +kernel
theorem dX11_hopeFrom_96 : decode cX11_hopeFrom 96 = .ok (.ireturn, 1) := by decide +kernel
theorem dX11_priceBooks_0 : decode cX11_priceBooks 0 = .ok (.iconst 0, 1) := by decide +kernel
theorem dX11_priceBooks_1 : decode cX11_priceBooks 1 = .ok (.istore_n 1, 1) := by decide +kernel
theorem dX11_priceBooks_2 : decode cX11_priceBooks 2 = .ok (.iload_n 1, 1) := by decide +kernel
theorem dX11_priceBooks_3 : decode cX11_priceBooks 3 = .ok (.bipush 8, 2) := by decide +kernel
theorem dX11_priceBooks_5 : decode cX11_priceBooks 5 = .ok (.if_icmp .ge 43, 3) := by decide +kernel
theorem dX11_priceBooks_8 : decode cX11_priceBooks 8 = .ok (.aload_n 0, 1) := by decide +kernel
theorem dX11_priceBooks_9 : decode cX11_priceBooks 9 = .ok (.getfield 75, 3) := by decide +kernel
theorem dX11_priceBooks_12 : decode cX11_priceBooks 12 = .ok (.getfield 337, 3) := by decide +kernel
theorem dX11_priceBooks_15 : decode cX11_priceBooks 15 = .ok (.iload_n 1, 1) := by decide +kernel
theorem dX11_priceBooks_16 : decode cX11_priceBooks 16 = .ok (.aload_n 0, 1) := by decide +kernel
theorem dX11_priceBooks_17 : decode cX11_priceBooks 17 = .ok (.getfield 50, 3) := by decide +kernel
theorem dX11_priceBooks_20 : decode cX11_priceBooks 20 = .ok (.iload_n 1, 1) := by decide +kernel
theorem dX11_priceBooks_21 : decode cX11_priceBooks 21 = .ok (.invokevirtual 174, 3) := by decide +kernel
theorem dX11_priceBooks_24 : decode cX11_priceBooks 24 = .ok (.ifCond .eq 14, 3) := by decide +kernel
theorem dX11_priceBooks_27 : decode cX11_priceBooks 27 = .ok (.aload_n 0, 1) := by decide +kernel
theorem dX11_priceBooks_28 : decode cX11_priceBooks 28 = .ok (.getfield 50, 3) := by decide +kernel
theorem dX11_priceBooks_31 : decode cX11_priceBooks 31 = .ok (.iload_n 1, 1) := by decide +kernel
theorem dX11_priceBooks_32 : decode cX11_priceBooks 32 = .ok (.invokevirtual 184, 3) := by decide +kernel
theorem dX11_priceBooks_35 : decode cX11_priceBooks 35 = .ok (.goto 6, 3) := by decide +kernel
theorem dX11_priceBooks_38 : decode cX11_priceBooks 38 = .ok (.ldc_w 340, 3) := by decide +kernel
theorem dX11_priceBooks_41 : decode cX11_priceBooks 41 = .ok (.iastore, 1) := by decide +kernel
theorem dX11_priceBooks_42 : decode cX11_priceBooks 42 = .ok (.iinc 1 1, 3) := by decide +kernel
theorem dX11_priceBooks_45 : decode cX11_priceBooks 45 = .ok (.goto (-43), 3) := by decide +kernel
theorem dX11_priceBooks_48 : decode cX11_priceBooks 48 = .ok (.return_, 1) := by decide +kernel
theorem dX11_allCopies_0 : decode cX11_allCopies 0 = .ok (.iconst 0, 1) := by decide +kernel
theorem dX11_allCopies_1 : decode cX11_allCopies 1 = .ok (.istore_n 1, 1) := by decide +kernel
theorem dX11_allCopies_2 : decode cX11_allCopies 2 = .ok (.iconst 0, 1) := by decide +kernel
theorem dX11_allCopies_3 : decode cX11_allCopies 3 = .ok (.istore_n 2, 1) := by decide +kernel
theorem dX11_allCopies_4 : decode cX11_allCopies 4 = .ok (.iload_n 2, 1) := by decide +kernel
theorem dX11_allCopies_5 : decode cX11_allCopies 5 = .ok (.bipush 6, 2) := by decide +kernel
theorem dX11_allCopies_7 : decode cX11_allCopies 7 = .ok (.if_icmp .ge 22, 3) := by decide +kernel
theorem dX11_allCopies_10 : decode cX11_allCopies 10 = .ok (.iload_n 1, 1) := by decide +kernel
theorem dX11_allCopies_11 : decode cX11_allCopies 11 = .ok (.aload_n 0, 1) := by decide +kernel
theorem dX11_allCopies_12 : decode cX11_allCopies 12 = .ok (.getfield 67, 3) := by decide +kernel
theorem dX11_allCopies_15 : decode cX11_allCopies 15 = .ok (.iload_n 2, 1) := by decide +kernel
theorem dX11_allCopies_16 : decode cX11_allCopies 16 = .ok (.aaload, 1) := by decide +kernel
theorem dX11_allCopies_17 : decode cX11_allCopies 17 = .ok (.iconst 0, 1) := by decide +kernel
theorem dX11_allCopies_18 : decode cX11_allCopies 18 = .ok (.invokevirtual 248, 3) := by decide +kernel
theorem dX11_allCopies_21 : decode cX11_allCopies 21 = .ok (.iadd, 1) := by decide +kernel
theorem dX11_allCopies_22 : decode cX11_allCopies 22 = .ok (.istore_n 1, 1) := by decide +kernel
theorem dX11_allCopies_23 : decode cX11_allCopies 23 = .ok (.iinc 2 1, 3) := by decide +kernel
theorem dX11_allCopies_26 : decode cX11_allCopies 26 = .ok (.goto (-22), 3) := by decide +kernel
theorem dX11_allCopies_29 : decode cX11_allCopies 29 = .ok (.iload_n 1, 1) := by decide +kernel
theorem dX11_allCopies_30 : decode cX11_allCopies 30 = .ok (.ireturn, 1) := by decide +kernel
end
section
theorem dX12_init_0 : decode cX12_init 0 = .ok (.aload_n 0, 1) := by decide +kernel
theorem dX12_init_1 : decode cX12_init 1 = .ok (.invokespecial 1, 3) := by decide +kernel
theorem dX12_init_4 : decode cX12_init 4 = .ok (.aload_n 0, 1) := by decide +kernel
theorem dX12_init_5 : decode cX12_init 5 = .ok (.sipush 130, 3) := by decide +kernel
theorem dX12_init_8 : decode cX12_init 8 = .ok (.newarray .int, 2) := by decide +kernel
theorem dX12_init_10 : decode cX12_init 10 = .ok (.putfield 7, 3) := by decide +kernel
theorem dX12_init_13 : decode cX12_init 13 = .ok (.aload_n 0, 1) := by decide +kernel
theorem dX12_init_14 : decode cX12_init 14 = .ok (.sipush 240, 3) := by decide +kernel
theorem dX12_init_17 : decode cX12_init 17 = .ok (.newarray .int, 2) := by decide +kernel
theorem dX12_init_19 : decode cX12_init 19 = .ok (.putfield 13, 3) := by decide +kernel
theorem dX12_init_22 : decode cX12_init 22 = .ok (.aload_n 0, 1) := by decide +kernel
theorem dX12_init_23 : decode cX12_init 23 = .ok (.bipush 60, 2) := by decide +kernel
theorem dX12_init_25 : decode cX12_init 25 = .ok (.newarray .int, 2) := by decide +kernel
theorem dX12_init_27 : decode cX12_init 27 = .ok (.putfield 16, 3) := by decide +kernel
theorem dX12_init_30 : decode cX12_init 30 = .ok (.aload_n 0, 1) := by decide +kernel
theorem dX12_init_31 : decode cX12_init 31 = .ok (.bipush 120, 2) := by decide +kernel
theorem dX12_init_33 : decode cX12_init 33 = .ok (.newarray .int, 2) := by decide +kernel
theorem dX12_init_35 : decode cX12_init 35 = .ok (.putfield 19, 3) := by decide +kernel
theorem dX12_init_38 : decode cX12_init 38 = .ok (.aload_n 0, 1) := by decide +kernel
theorem dX12_init_39 : decode cX12_init 39 = .ok (.bipush 60, 2) := by decide +kernel
theorem dX12_init_41 : decode cX12_init 41 = .ok (.newarray .int, 2) := by decide +kernel
theorem dX12_init_43 : decode cX12_init 43 = .ok (.putfield 22, 3) := by decide +kernel
theorem dX12_init_46 : decode cX12_init 46 = .ok (.aload_n 0, 1) := by decide +kernel
theorem dX12_init_47 : decode cX12_init 47 = .ok (.iconst 5, 1) := by decide +kernel
theorem dX12_init_48 : decode cX12_init 48 = .ok (.newarray .int, 2) := by decide +kernel
theorem dX12_init_50 : decode cX12_init 50 = .ok (.putfield 25, 3) := by decide +kernel
theorem dX12_init_53 : decode cX12_init 53 = .ok (.aload_n 0, 1) := by decide +kernel
theorem dX12_init_54 : decode cX12_init 54 = .ok (.bipush 10, 2) := by decide +kernel
theorem dX12_init_56 : decode cX12_init 56 = .ok (.newarray .int, 2) := by decide +kernel
theorem dX12_init_58 : decode cX12_init 58 = .ok (.putfield 28, 3) := by decide +kernel
theorem dX12_init_61 : decode cX12_init 61 = .ok (.aload_n 0, 1) := by decide +kernel
theorem dX12_init_62 : decode cX12_init 62 = .ok (.bipush 12, 2) := by decide +kernel
theorem dX12_init_64 : decode cX12_init 64 = .ok (.newarray .int, 2) := by decide +kernel
theorem dX12_init_66 : decode cX12_init 66 = .ok (.putfield 31, 3) := by decide +kernel
theorem dX12_init_69 : decode cX12_init 69 = .ok (.aload_n 0, 1) := by decide +kernel
theorem dX12_init_70 : decode cX12_init 70 = .ok (.bipush 10, 2) := by decide +kernel
theorem dX12_init_72 : decode cX12_init 72 = .ok (.newarray .int, 2) := by decide +kernel
theorem dX12_init_74 : decode cX12_init 74 = .ok (.putfield 34, 3) := by decide +kernel
theorem dX12_init_77 : decode cX12_init 77 = .ok (.aload_n 0, 1) := by decide +kernel
theorem dX12_init_78 : decode cX12_init 78 = .ok (.bipush 11, 2) := by decide +kernel
theorem dX12_init_80 : decode cX12_init 80 = .ok (.newarray .int, 2) := by decide +kernel
theorem dX12_init_82 : decode cX12_init 82 = .ok (.putfield 37, 3) := by decide +kernel
theorem dX12_init_85 : decode cX12_init 85 = .ok (.aload_n 0, 1) := by decide +kernel
theorem dX12_init_86 : decode cX12_init 86 = .ok (.bipush 20, 2) := by decide +kernel
theorem dX12_init_88 : decode cX12_init 88 = .ok (.newarray .int, 2) := by decide +kernel
theorem dX12_init_90 : decode cX12_init 90 = .ok (.putfield 40, 3) := by decide +kernel
theorem dX12_init_93 : decode cX12_init 93 = .ok (.aload_n 0, 1) := by decide +kernel
theorem dX12_init_94 : decode cX12_init 94 = .ok (.bipush 13, 2) := by decide +kernel
theorem dX12_init_96 : decode cX12_init 96 = .ok (.newarray .int, 2) := by decide +kernel
theorem dX12_init_98 : decode cX12_init 98 = .ok (.putfield 43, 3) := by decide +kernel
theorem dX12_init_101 : decode cX12_init 101 = .ok (.aload_n 0, 1) := by decide +kernel
theorem dX12_init_102 : decode cX12_init 102 = .ok (.bipush 64, 2) := by decide +kernel
theorem dX12_init_104 : decode cX12_init 104 = .ok (.newarray .int, 2) := by decide +kernel
theorem dX12_init_106 : decode cX12_init 106 = .ok (.putfield 46, 3) := by decide +kernel
theorem dX12_init_109 : decode cX12_init 109 = .ok (.aload_n 0, 1) := by decide +kernel
theorem dX12_init_110 : decode cX12_init 110 = .ok (.sipush 4096, 3) := by decide +kernel
theorem dX12_init_113 : decode cX12_init 113 = .ok (.newarray .int, 2) := by decide +kernel
theorem dX12_init_115 : decode cX12_init 115 = .ok (.putfield 49, 3) := by decide +kernel
theorem dX12_init_118 : decode cX12_init 118 = .ok (.aload_n 0, 1) := by decide +kernel
theorem dX12_init_119 : decode cX12_init 119 = .ok (.sipush 1024, 3) := by decide +kernel
theorem dX12_init_122 : decode cX12_init 122 = .ok (.newarray .boolean, 2) := by decide +kernel
theorem dX12_init_124 : decode cX12_init 124 = .ok (.putfield 52, 3) := by decide +kernel
theorem dX12_init_127 : decode cX12_init 127 = .ok (.aload_n 0, 1) := by decide +kernel
theorem dX12_init_128 : decode cX12_init 128 = .ok (.bipush 16, 2) := by decide +kernel
theorem dX12_init_130 : decode cX12_init 130 = .ok (.newarray .int, 2) := by decide +kernel
theorem dX12_init_132 : decode cX12_init 132 = .ok (.putfield 56, 3) := by decide +kernel
theorem dX12_init_135 : decode cX12_init 135 = .ok (.aload_n 0, 1) := by decide +kernel
theorem dX12_init_136 : decode cX12_init 136 = .ok (.sipush 300, 3) := by decide +kernel
theorem dX12_init_139 : decode cX12_init 139 = .ok (.newarray .int, 2) := by decide +kernel
theorem dX12_init_141 : decode cX12_init 141 = .ok (.putfield 59, 3) := by decide +kernel
theorem dX12_init_144 : decode cX12_init 144 = .ok (.aload_n 0, 1) := by decide +kernel
theorem dX12_init_145 : decode cX12_init 145 = .ok (.bipush 30, 2) := by decide +kernel
theorem dX12_init_147 : decode cX12_init 147 = .ok (.newarray .int, 2) := by decide +kernel
theorem dX12_init_149 : decode cX12_init 149 = .ok (.putfield 62, 3) := by decide +kernel
theorem dX12_init_152 : decode cX12_init 152 = .ok (.aload_n 0, 1) := by decide +kernel
theorem dX12_init_153 : decode cX12_init 153 = .ok (.sipush 240, 3) := by decide +kernel
theorem dX12_init_156 : decode cX12_init 156 = .ok (.newarray .int, 2) := by decide +kernel
theorem dX12_init_158 : decode cX12_init 158 = .ok (.putfield 65, 3) := by decide +kernel
theorem dX12_init_161 : decode cX12_init 161 = .ok (.aload_n 0, 1) := by decide +kernel
theorem dX12_init_162 : decode cX12_init 162 = .ok (.bipush 48, 2) := by decide +kernel
theorem dX12_init_164 : decode cX12_init 164 = .ok (.newarray .int, 2) := by decide +kernel
theorem dX12_init_166 : decode cX12_init 166 = .ok (.putfield 68, 3) := by decide +kernel
theorem dX12_init_169 : decode cX12_init 169 = .ok (.aload_n 0, 1) := by decide +kernel
theorem dX12_init_170 : decode cX12_init 170 = .ok (.bipush 12, 2) := by decide +kernel
theorem dX12_init_172 : decode cX12_init 172 = .ok (.newarray .int, 2) := by decide +kernel
theorem dX12_init_174 : decode cX12_init 174 = .ok (.putfield 71, 3) := by decide +kernel
theorem dX12_init_177 : decode cX12_init 177 = .ok (.aload_n 0, 1) := by decide +kernel
theorem dX12_init_178 : decode cX12_init 178 = .ok (.bipush 20, 2) := by decide +kernel
theorem dX12_init_180 : decode cX12_init 180 = .ok (.newarray .int, 2) := by decide +kernel
theorem dX12_init_182 : decode cX12_init 182 = .ok (.putfield 74, 3) := by decide +kernel
theorem dX12_init_185 : decode cX12_init 185 = .ok (.aload_n 0, 1) := by decide +kernel
theorem dX12_init_186 : decode cX12_init 186 = .ok (.bipush 20, 2) := by decide +kernel
theorem dX12_init_188 : decode cX12_init 188 = .ok (.newarray .int, 2) := by decide +kernel
theorem dX12_init_190 : decode cX12_init 190 = .ok (.putfield 77, 3) := by decide +kernel
theorem dX12_init_193 : decode cX12_init 193 = .ok (.aload_n 0, 1) := by decide +kernel
theorem dX12_init_194 : decode cX12_init 194 = .ok (.bipush 20, 2) := by decide +kernel
theorem dX12_init_196 : decode cX12_init 196 = .ok (.newarray .boolean, 2) := by decide +kernel
theorem dX12_init_198 : decode cX12_init 198 = .ok (.putfield 80, 3) := by decide +kernel
theorem dX12_init_201 : decode cX12_init 201 = .ok (.aload_n 0, 1) := by decide +kernel
theorem dX12_init_202 : decode cX12_init 202 = .ok (.bipush 100, 2) := by decide +kernel
theorem dX12_init_204 : decode cX12_init 204 = .ok (.newarray .int, 2) := by decide +kernel
theorem dX12_init_206 : decode cX12_init 206 = .ok (.putfield 83, 3) := by decide +kernel
theorem dX12_init_209 : decode cX12_init 209 = .ok (.aload_n 0, 1) := by decide +kernel
theorem dX12_init_210 : decode cX12_init 210 = .ok (.sipush 240, 3) := by decide +kernel
theorem dX12_init_213 : decode cX12_init 213 = .ok (.newarray .int, 2) := by decide +kernel
theorem dX12_init_215 : decode cX12_init 215 = .ok (.putfield 86, 3) := by decide +kernel
theorem dX12_init_218 : decode cX12_init 218 = .ok (.aload_n 0, 1) := by decide +kernel
theorem dX12_init_219 : decode cX12_init 219 = .ok (.bipush 8, 2) := by decide +kernel
theorem dX12_init_221 : decode cX12_init 221 = .ok (.newarray .int, 2) := by decide +kernel
theorem dX12_init_223 : decode cX12_init 223 = .ok (.putfield 89, 3) := by decide +kernel
theorem dX12_init_226 : decode cX12_init 226 = .ok (.aload_n 0, 1) := by decide +kernel
theorem dX12_init_227 : decode cX12_init 227 = .ok (.bipush 8, 2) := by decide +kernel
theorem dX12_init_229 : decode cX12_init 229 = .ok (.newarray .int, 2) := by decide +kernel
theorem dX12_init_231 : decode cX12_init 231 = .ok (.putfield 92, 3) := by decide +kernel
theorem dX12_init_234 : decode cX12_init 234 = .ok (.aload_n 0, 1) := by decide +kernel
theorem dX12_init_235 : decode cX12_init 235 = .ok (.bipush 40, 2) := by decide +kernel
theorem dX12_init_237 : decode cX12_init 237 = .ok (.newarray .int, 2) := by decide +kernel
theorem dX12_init_239 : decode cX12_init 239 = .ok (.putfield 95, 3) := by decide +kernel
theorem dX12_init_242 : decode cX12_init 242 = .ok (.aload_n 0, 1) := by decide +kernel
theorem dX12_init_243 : decode cX12_init 243 = .ok (.sipush 240, 3) := by decide +kernel
theorem dX12_init_246 : decode cX12_init 246 = .ok (.newarray .int, 2) := by decide +kernel
theorem dX12_init_248 : decode cX12_init 248 = .ok (.putfield 98, 3) := by decide +kernel
theorem dX12_init_251 : decode cX12_init 251 = .ok (.aload_n 0, 1) := by decide +kernel
theorem dX12_init_252 : decode cX12_init 252 = .ok (.bipush 6, 2) := by decide +kernel
theorem dX12_init_254 : decode cX12_init 254 = .ok (.newarray .int, 2) := by decide +kernel
theorem dX12_init_256 : decode cX12_init 256 = .ok (.putfield 101, 3) := by decide +kernel
theorem dX12_init_259 : decode cX12_init 259 = .ok (.aload_n 0, 1) := by decide +kernel
theorem dX12_init_260 : decode cX12_init 260 = .ok (.bipush 26, 2) := by decide +kernel
theorem dX12_init_262 : decode cX12_init 262 = .ok (.newarray .int, 2) := by decide +kernel
theorem dX12_init_264 : decode cX12_init 264 = .ok (.putfield 104, 3) := by decide +kernel
theorem dX12_init_267 : decode cX12_init 267 = .ok (.aload_n 0, 1) := by decide +kernel
theorem dX12_init_268 : decode cX12_init 268 = .ok (.bipush 7, 2) := by decide +kernel
theorem dX12_init_270 : decode cX12_init 270 = .ok (.newarray .int, 2) := by decide +kernel
theorem dX12_init_272 : decode cX12_init 272 = .ok (.putfield 107, 3) := by decide +kernel
theorem dX12_init_275 : decode cX12_init 275 = .ok (.aload_n 0, 1) := by decide +kernel
theorem dX12_init_276 : decode cX12_init 276 = .ok (.bipush 35, 2) := by decide +kernel
theorem dX12_init_278 : decode cX12_init 278 = .ok (.newarray .int, 2) := by decide +kernel
theorem dX12_init_280 : decode cX12_init 280 = .ok (.putfield 110, 3) := by decide +kernel
theorem dX12_init_283 : decode cX12_init 283 = .ok (.iconst 0, 1) := by decide +kernel
theorem dX12_init_284 : decode cX12_init 284 = .ok (.istore_n 1, 1) := by decide +kernel
theorem dX12_init_285 : decode cX12_init 285 = .ok (.iload_n 1, 1) := by decide +kernel
theorem dX12_init_286 : decode cX12_init 286 = .ok (.bipush 26, 2) := by decide +kernel
theorem dX12_init_288 : decode cX12_init 288 = .ok (.if_icmp .ge 17, 3) := by decide +kernel
theorem dX12_init_291 : decode cX12_init 291 = .ok (.aload_n 0, 1) := by decide +kernel
theorem dX12_init_292 : decode cX12_init 292 = .ok (.getfield 104, 3) := by decide +kernel
theorem dX12_init_295 : decode cX12_init 295 = .ok (.iload_n 1, 1) := by decide +kernel
theorem dX12_init_296 : decode cX12_init 296 = .ok (.bipush (-6), 2) := by decide +kernel
theorem dX12_init_298 : decode cX12_init 298 = .ok (.iastore, 1) := by decide +kernel
theorem dX12_init_299 : decode cX12_init 299 = .ok (.iinc 1 1, 3) := by decide +kernel
theorem dX12_init_302 : decode cX12_init 302 = .ok (.goto (-17), 3) := by decide +kernel
theorem dX12_init_305 : decode cX12_init 305 = .ok (.iconst 0, 1) := by decide +kernel
theorem dX12_init_306 : decode cX12_init 306 = .ok (.istore_n 1, 1) := by decide +kernel
theorem dX12_init_307 : decode cX12_init 307 = .ok (.iload_n 1, 1) := by decide +kernel
theorem dX12_init_308 : decode cX12_init 308 = .ok (.bipush 6, 2) := by decide +kernel
theorem dX12_init_310 : decode cX12_init 310 = .ok (.if_icmp .ge 17, 3) := by decide +kernel
theorem dX12_init_313 : decode cX12_init 313 = .ok (.aload_n 0, 1) := by decide +kernel
theorem dX12_init_314 : decode cX12_init 314 = .ok (.getfield 101, 3) := by decide +kernel
theorem dX12_init_317 : decode cX12_init 317 = .ok (.iload_n 1, 1) := by decide +kernel
theorem dX12_init_318 : decode cX12_init 318 = .ok (.bipush (-6), 2) := by decide +kernel
theorem dX12_init_320 : decode cX12_init 320 = .ok (.iastore, 1) := by decide +kernel
theorem dX12_init_321 : decode cX12_init 321 = .ok (.iinc 1 1, 3) := by decide +kernel
theorem dX12_init_324 : decode cX12_init 324 = .ok (.goto (-17), 3) := by decide +kernel
theorem dX12_init_327 : decode cX12_init 327 = .ok (.return_, 1) := by decide +kernel
theorem dX12_in_0 : decode cX12_in 0 = .ok (.lload_n 0, 1) := by decide +kernel
theorem dX12_in_1 : decode cX12_in 1 = .ok (.lload_n 2, 1) := by decide +kernel
theorem dX12_in_2 : decode cX12_in 2 = .ok (.lcmp, 1) := by decide +kernel
theorem dX12_in_3 : decode cX12_in 3 = .ok (.ifCond .lt 14, 3) := by decide +kernel
theorem dX12_in_6 : decode cX12_in 6 = .ok (.lload_n 0, 1) := by decide +kernel
theorem dX12_in_7 : decode cX12_in 7 = .ok (.lload 4, 2) := by decide +kernel
theorem dX12_in_9 : decode cX12_in 9 = .ok (.lcmp, 1) := by decide +kernel
theorem dX12_in_10 : decode cX12_in 10 = .ok (.ifCond .gt 7, 3) := by decide +kernel
theorem dX12_in_13 : decode cX12_in 13 = .ok (.iconst 1, 1) := by decide +kernel
theorem dX12_in_14 : decode cX12_in 14 = .ok (.goto 4, 3) := by decide +kernel
theorem dX12_in_17 : decode cX12_in 17 = .ok (.iconst 0, 1) := by decide +kernel
theorem dX12_in_18 : decode cX12_in 18 = .ok (.ireturn, 1) := by decide +kernel
theorem dX12_ones_0 : decode cX12_ones 0 = .ok (.iconst 0, 1) := by decide +kernel
theorem dX12_ones_1 : decode cX12_ones 1 = .ok (.istore_n 1, 1) := by decide +kernel
theorem dX12_ones_2 : decode cX12_ones 2 = .ok (.iconst 0, 1) := by decide +kernel
theorem dX12_ones_3 : decode cX12_ones 3 = .ok (.istore_n 2, 1) := by decide +kernel
theorem dX12_ones_4 : decode cX12_ones 4 = .ok (.iload_n 2, 1) := by decide +kernel
theorem dX12_ones_5 : decode cX12_ones 5 = .ok (.bipush 26, 2) := by decide +kernel
theorem dX12_ones_7 : decode cX12_ones 7 = .ok (.if_icmp .ge 17, 3) := by decide +kernel
theorem dX12_ones_10 : decode cX12_ones 10 = .ok (.iload_n 1, 1) := by decide +kernel
theorem dX12_ones_11 : decode cX12_ones 11 = .ok (.iload_n 0, 1) := by decide +kernel
theorem dX12_ones_12 : decode cX12_ones 12 = .ok (.iload_n 2, 1) := by decide +kernel
theorem dX12_ones_13 : decode cX12_ones 13 = .ok (.ishr, 1) := by decide +kernel
theorem dX12_ones_14 : decode cX12_ones 14 = .ok (.iconst 1, 1) := by decide +kernel
theorem dX12_ones_15 : decode cX12_ones 15 = .ok (.iand, 1) := by decide +kernel
theorem dX12_ones_16 : decode cX12_ones 16 = .ok (.iadd, 1) := by decide +kernel
theorem dX12_ones_17 : decode cX12_ones 17 = .ok (.istore_n 1, 1) := by decide +kernel
theorem dX12_ones_18 : decode cX12_ones 18 = .ok (.iinc 2 1, 3) := by decide +kernel
theorem dX12_ones_21 : decode cX12_ones 21 = .ok (.goto (-17), 3) := by decide +kernel
theorem dX12_ones_24 : decode cX12_ones 24 = .ok (.iload_n 1, 1) := by decide +kernel
theorem dX12_ones_25 : decode cX12_ones 25 = .ok (.ireturn, 1) := by decide +kernel
theorem dX12_isCode_0 : decode cX12_isCode 0 = .ok (.iload_n 0, 1) := by decide +kernel
theorem dX12_isCode_1 : decode cX12_isCode 1 = .ok (.i2l, 1) := by decide +kernel
theorem dX12_isCode_2 : decode cX12_isCode 2 = .ok (.lconst 0, 1) := by decide +kernel
theorem dX12_isCode_3 : decode cX12_isCode 3 = .ok (.ldc2_w 113, 3) := by decide +kernel
theorem dX12_isCode_6 : decode cX12_isCode 6 = .ok (.invokestatic 115, 3) := by decide +kernel
theorem dX12_isCode_9 : decode cX12_isCode 9 = .ok (.ireturn, 1) := by decide +kernel
theorem dX12_isLetter_0 : decode cX12_isLetter 0 = .ok (.iload_n 0, 1) := by decide +kernel
theorem dX12_isLetter_1 : decode cX12_isLetter 1 = .ok (.i2l, 1) := by decide +kernel
theorem dX12_isLetter_2 : decode cX12_isLetter 2 = .ok (.lconst 0, 1) := by decide +kernel
theorem dX12_isLetter_3 : decode cX12_isLetter 3 = .ok (.ldc2_w 119, 3) := by decide +kernel
theorem dX12_isLetter_6 : decode cX12_isLetter 6 = .ok (.invokestatic 115, 3) := by decide +kernel
theorem dX12_isLetter_9 : decode cX12_isLetter 9 = .ok (.ireturn, 1) := by decide +kernel
theorem dX12_letter_0 : decode cX12_letter 0 = .ok (.iload_n 1, 1) := by decide +kernel
theorem dX12_letter_1 : decode cX12_letter 1 = .ok (.invokestatic 121, 3) := by decide +kernel
theorem dX12_letter_4 : decode cX12_letter 4 = .ok (.ifCond .eq 10, 3) := by decide +kernel
theorem dX12_letter_7 : decode cX12_letter 7 = .ok (.iload_n 2, 1) := by decide +kernel
theorem dX12_letter_8 : decode cX12_letter 8 = .ok (.invokestatic 125, 3) := by decide +kernel
theorem dX12_letter_11 : decode cX12_letter 11 = .ok (.ifCond .ne 5, 3) := by decide +kernel
theorem dX12_letter_14 : decode cX12_letter 14 = .ok (.iconst (-1), 1) := by decide +kernel
theorem dX12_letter_15 : decode cX12_letter 15 = .ok (.ireturn, 1) := by decide +kernel
theorem dX12_letter_16 : decode cX12_letter 16 = .ok (.iload_n 3, 1) := by decide +kernel
theorem dX12_letter_17 : decode cX12_letter 17 = .ok (.i2l, 1) := by decide +kernel
theorem dX12_letter_18 : decode cX12_letter 18 = .ok (.lconst 0, 1) := by decide +kernel
theorem dX12_letter_19 : decode cX12_letter 19 = .ok (.ldc2_w 128, 3) := by decide +kernel
theorem dX12_letter_22 : decode cX12_letter 22 = .ok (.invokestatic 115, 3) := by decide +kernel
theorem dX12_letter_25 : decode cX12_letter 25 = .ok (.ifCond .ne 6, 3) := by decide +kernel
theorem dX12_letter_28 : decode cX12_letter 28 = .ok (.bipush (-2), 2) := by decide +kernel
theorem dX12_letter_30 : decode cX12_letter 30 = .ok (.ireturn, 1) := by decide +kernel
theorem dX12_letter_31 : decode cX12_letter 31 = .ok (.aload_n 0, 1) := by decide +kernel
theorem dX12_letter_32 : decode cX12_letter 32 = .ok (.getfield 7, 3) := by decide +kernel
theorem dX12_letter_35 : decode cX12_letter 35 = .ok (.bipush 26, 2) := by decide +kernel
theorem dX12_letter_37 : decode cX12_letter 37 = .ok (.iload_n 1, 1) := by decide +kernel
theorem dX12_letter_38 : decode cX12_letter 38 = .ok (.imul, 1) := by decide +kernel
theorem dX12_letter_39 : decode cX12_letter 39 = .ok (.iload_n 2, 1) := by decide +kernel
theorem dX12_letter_40 : decode cX12_letter 40 = .ok (.iadd, 1) := by decide +kernel
theorem dX12_letter_41 : decode cX12_letter 41 = .ok (.iaload, 1) := by decide +kernel
theorem dX12_letter_42 : decode cX12_letter 42 = .ok (.istore 4, 2) := by decide +kernel
theorem dX12_letter_44 : decode cX12_letter 44 = .ok (.aload_n 0, 1) := by decide +kernel
theorem dX12_letter_45 : decode cX12_letter 45 = .ok (.getfield 7, 3) := by decide +kernel
theorem dX12_letter_48 : decode cX12_letter 48 = .ok (.bipush 26, 2) := by decide +kernel
theorem dX12_letter_50 : decode cX12_letter 50 = .ok (.iload_n 1, 1) := by decide +kernel
theorem dX12_letter_51 : decode cX12_letter 51 = .ok (.imul, 1) := by decide +kernel
theorem dX12_letter_52 : decode cX12_letter 52 = .ok (.iload_n 2, 1) := by decide +kernel
theorem dX12_letter_53 : decode cX12_letter 53 = .ok (.iadd, 1) := by decide +kernel
theorem dX12_letter_54 : decode cX12_letter 54 = .ok (.iload_n 3, 1) := by decide +kernel
theorem dX12_letter_55 : decode cX12_letter 55 = .ok (.iastore, 1) := by decide +kernel
theorem dX12_letter_56 : decode cX12_letter 56 = .ok (.iload 4, 2) := by decide +kernel
theorem dX12_letter_58 : decode cX12_letter 58 = .ok (.ireturn, 1) := by decide +kernel
theorem dX12_say_0 : decode cX12_say 0 = .ok (.iload_n 1, 1) := by decide +kernel
theorem dX12_say_1 : decode cX12_say 1 = .ok (.invokestatic 125, 3) := by decide +kernel
theorem dX12_say_4 : decode cX12_say 4 = .ok (.ifCond .ne 5, 3) := by decide +kernel
theorem dX12_say_7 : decode cX12_say 7 = .ok (.iconst (-1), 1) := by decide +kernel
theorem dX12_say_8 : decode cX12_say 8 = .ok (.ireturn, 1) := by decide +kernel
theorem dX12_say_9 : decode cX12_say 9 = .ok (.aload_n 0, 1) := by decide +kernel
theorem dX12_say_10 : decode cX12_say 10 = .ok (.getfield 130, 3) := by decide +kernel
theorem dX12_say_13 : decode cX12_say 13 = .ok (.bipush 10, 2) := by decide +kernel
theorem dX12_say_15 : decode cX12_say 15 = .ok (.if_icmp .ne 6, 3) := by decide +kernel
theorem dX12_say_18 : decode cX12_say 18 = .ok (.bipush (-4), 2) := by decide +kernel
theorem dX12_say_20 : decode cX12_say 20 = .ok (.ireturn, 1) := by decide +kernel
theorem dX12_say_21 : decode cX12_say 21 = .ok (.aload_n 0, 1) := by decide +kernel
theorem dX12_say_22 : decode cX12_say 22 = .ok (.getfield 28, 3) := by decide +kernel
theorem dX12_say_25 : decode cX12_say 25 = .ok (.aload_n 0, 1) := by decide +kernel
theorem dX12_say_26 : decode cX12_say 26 = .ok (.getfield 130, 3) := by decide +kernel
theorem dX12_say_29 : decode cX12_say 29 = .ok (.iload_n 1, 1) := by decide +kernel
theorem dX12_say_30 : decode cX12_say 30 = .ok (.iastore, 1) := by decide +kernel
theorem dX12_say_31 : decode cX12_say 31 = .ok (.aload_n 0, 1) := by decide +kernel
theorem dX12_say_32 : decode cX12_say 32 = .ok (.dup, 1) := by decide +kernel
theorem dX12_say_33 : decode cX12_say 33 = .ok (.getfield 130, 3) := by decide +kernel
theorem dX12_say_36 : decode cX12_say 36 = .ok (.iconst 1, 1) := by decide +kernel
theorem dX12_say_37 : decode cX12_say 37 = .ok (.iadd, 1) := by decide +kernel
theorem dX12_say_38 : decode cX12_say 38 = .ok (.putfield 130, 3) := by decide +kernel
theorem dX12_say_41 : decode cX12_say 41 = .ok (.aload_n 0, 1) := by decide +kernel
theorem dX12_say_42 : decode cX12_say 42 = .ok (.getfield 130, 3) := by decide +kernel
theorem dX12_say_45 : decode cX12_say 45 = .ok (.ireturn, 1) := by decide +kernel
theorem dX12_dot_0 : decode cX12_dot 0 = .ok (.iload_n 1, 1) := by decide +kernel
theorem dX12_dot_1 : decode cX12_dot 1 = .ok (.i2l, 1) := by decide +kernel
theorem dX12_dot_2 : decode cX12_dot 2 = .ok (.lconst 1, 1) := by decide +kernel
theorem dX12_dot_3 : decode cX12_dot 3 = .ok (.ldc2_w 128, 3) := by decide +kernel
theorem dX12_dot_6 : decode cX12_dot 6 = .ok (.invokestatic 115, 3) := by decide +kernel
theorem dX12_dot_9 : decode cX12_dot 9 = .ok (.ifCond .ne 6, 3) := by decide +kernel
theorem dX12_dot_12 : decode cX12_dot 12 = .ok (.bipush (-2), 2) := by decide +kernel
theorem dX12_dot_14 : decode cX12_dot 14 = .ok (.ireturn, 1) := by decide +kernel
theorem dX12_dot_15 : decode cX12_dot 15 = .ok (.aload_n 0, 1) := by decide +kernel
theorem dX12_dot_16 : decode cX12_dot 16 = .ok (.getfield 134, 3) := by decide +kernel
theorem dX12_dot_19 : decode cX12_dot 19 = .ok (.bipush 12, 2) := by decide +kernel
theorem dX12_dot_21 : decode cX12_dot 21 = .ok (.if_icmp .ne 6, 3) := by decide +kernel
theorem dX12_dot_24 : decode cX12_dot 24 = .ok (.bipush (-4), 2) := by decide +kernel
theorem dX12_dot_26 : decode cX12_dot 26 = .ok (.ireturn, 1) := by decide +kernel
theorem dX12_dot_27 : decode cX12_dot 27 = .ok (.aload_n 0, 1) := by decide +kernel
theorem dX12_dot_28 : decode cX12_dot 28 = .ok (.getfield 31, 3) := by decide +kernel
theorem dX12_dot_31 : decode cX12_dot 31 = .ok (.aload_n 0, 1) := by decide +kernel
theorem dX12_dot_32 : decode cX12_dot 32 = .ok (.getfield 134, 3) := by decide +kernel
theorem dX12_dot_35 : decode cX12_dot 35 = .ok (.iload_n 1, 1) := by decide +kernel
theorem dX12_dot_36 : decode cX12_dot 36 = .ok (.iastore, 1) := by decide +kernel
theorem dX12_dot_37 : decode cX12_dot 37 = .ok (.aload_n 0, 1) := by decide +kernel
theorem dX12_dot_38 : decode cX12_dot 38 = .ok (.dup, 1) := by decide +kernel
theorem dX12_dot_39 : decode cX12_dot 39 = .ok (.getfield 134, 3) := by decide +kernel
theorem dX12_dot_42 : decode cX12_dot 42 = .ok (.iconst 1, 1) := by decide +kernel
theorem dX12_dot_43 : decode cX12_dot 43 = .ok (.iadd, 1) := by decide +kernel
theorem dX12_dot_44 : decode cX12_dot 44 = .ok (.putfield 134, 3) := by decide +kernel
theorem dX12_dot_47 : decode cX12_dot 47 = .ok (.aload_n 0, 1) := by decide +kernel
theorem dX12_dot_48 : decode cX12_dot 48 = .ok (.getfield 134, 3) := by decide +kernel
theorem dX12_dot_51 : decode cX12_dot 51 = .ok (.ireturn, 1) := by decide +kernel
theorem dX12_wipe_0 : decode cX12_wipe 0 = .ok (.iload_n 1, 1) := by decide +kernel
theorem dX12_wipe_1 : decode cX12_wipe 1 = .ok (.ifCond .ne 10, 3) := by decide +kernel
theorem dX12_wipe_4 : decode cX12_wipe 4 = .ok (.aload_n 0, 1) := by decide +kernel
theorem dX12_wipe_5 : decode cX12_wipe 5 = .ok (.getfield 130, 3) := by decide +kernel
theorem dX12_wipe_8 : decode cX12_wipe 8 = .ok (.goto 29, 3) := by decide +kernel
theorem dX12_wipe_11 : decode cX12_wipe 11 = .ok (.iload_n 1, 1) := by decide +kernel
theorem dX12_wipe_12 : decode cX12_wipe 12 = .ok (.iconst 1, 1) := by decide +kernel
theorem dX12_wipe_13 : decode cX12_wipe 13 = .ok (.if_icmp .ne 10, 3) := by decide +kernel
theorem dX12_wipe_16 : decode cX12_wipe 16 = .ok (.aload_n 0, 1) := by decide +kernel
theorem dX12_wipe_17 : decode cX12_wipe 17 = .ok (.getfield 134, 3) := by decide +kernel
theorem dX12_wipe_20 : decode cX12_wipe 20 = .ok (.goto 17, 3) := by decide +kernel
theorem dX12_wipe_23 : decode cX12_wipe 23 = .ok (.iload_n 1, 1) := by decide +kernel
theorem dX12_wipe_24 : decode cX12_wipe 24 = .ok (.iconst 2, 1) := by decide +kernel
theorem dX12_wipe_25 : decode cX12_wipe 25 = .ok (.if_icmp .ne 10, 3) := by decide +kernel
theorem dX12_wipe_28 : decode cX12_wipe 28 = .ok (.aload_n 0, 1) := by decide +kernel
theorem dX12_wipe_29 : decode cX12_wipe 29 = .ok (.getfield 137, 3) := by decide +kernel
theorem dX12_wipe_32 : decode cX12_wipe 32 = .ok (.goto 5, 3) := by decide +kernel
theorem dX12_wipe_35 : decode cX12_wipe 35 = .ok (.bipush (-2), 2) := by decide +kernel
theorem dX12_wipe_37 : decode cX12_wipe 37 = .ok (.istore_n 2, 1) := by decide +kernel
theorem dX12_wipe_38 : decode cX12_wipe 38 = .ok (.iload_n 1, 1) := by decide +kernel
theorem dX12_wipe_39 : decode cX12_wipe 39 = .ok (.ifCond .ne 11, 3) := by decide +kernel
theorem dX12_wipe_42 : decode cX12_wipe 42 = .ok (.aload_n 0, 1) := by decide +kernel
theorem dX12_wipe_43 : decode cX12_wipe 43 = .ok (.iconst 0, 1) := by decide +kernel
theorem dX12_wipe_44 : decode cX12_wipe 44 = .ok (.putfield 130, 3) := by decide +kernel
theorem dX12_wipe_47 : decode cX12_wipe 47 = .ok (.goto 26, 3) := by decide +kernel
theorem dX12_wipe_50 : decode cX12_wipe 50 = .ok (.iload_n 1, 1) := by decide +kernel
theorem dX12_wipe_51 : decode cX12_wipe 51 = .ok (.iconst 1, 1) := by decide +kernel
theorem dX12_wipe_52 : decode cX12_wipe 52 = .ok (.if_icmp .ne 11, 3) := by decide +kernel
theorem dX12_wipe_55 : decode cX12_wipe 55 = .ok (.aload_n 0, 1) := by decide +kernel
theorem dX12_wipe_56 : decode cX12_wipe 56 = .ok (.iconst 0, 1) := by decide +kernel
theorem dX12_wipe_57 : decode cX12_wipe 57 = .ok (.putfield 134, 3) := by decide +kernel
theorem dX12_wipe_60 : decode cX12_wipe 60 = .ok (.goto 13, 3) := by decide +kernel
theorem dX12_wipe_63 : decode cX12_wipe 63 = .ok (.iload_n 1, 1) := by decide +kernel
theorem dX12_wipe_64 : decode cX12_wipe 64 = .ok (.iconst 2, 1) := by decide +kernel
theorem dX12_wipe_65 : decode cX12_wipe 65 = .ok (.if_icmp .ne 8, 3) := by decide +kernel
theorem dX12_wipe_68 : decode cX12_wipe 68 = .ok (.aload_n 0, 1) := by decide +kernel
theorem dX12_wipe_69 : decode cX12_wipe 69 = .ok (.iconst 0, 1) := by decide +kernel
theorem dX12_wipe_70 : decode cX12_wipe 70 = .ok (.putfield 137, 3) := by decide +kernel
theorem dX12_wipe_73 : decode cX12_wipe 73 = .ok (.iload_n 2, 1) := by decide +kernel
theorem dX12_wipe_74 : decode cX12_wipe 74 = .ok (.ireturn, 1) := by decide +kernel
theorem dX12_abbreviate_0 : decode cX12_abbreviate 0 = .ok (.iload_n 1, 1) := by decide +kernel
theorem dX12_abbreviate_1 : decode cX12_abbreviate 1 = .ok (.invokestatic 121, 3) := by decide +kernel
theorem dX12_abbreviate_4 : decode cX12_abbreviate 4 = .ok (.ifCond .ne 5, 3) := by decide +kernel
theorem dX12_abbreviate_7 : decode cX12_abbreviate 7 = .ok (.iconst (-1), 1) := by decide +kernel
theorem dX12_abbreviate_8 : decode cX12_abbreviate 8 = .ok (.ireturn, 1) := by decide +kernel
theorem dX12_abbreviate_9 : decode cX12_abbreviate 9 = .ok (.aload_n 0, 1) := by decide +kernel
theorem dX12_abbreviate_10 : decode cX12_abbreviate 10 = .ok (.getfield 25, 3) := by decide +kernel
theorem dX12_abbreviate_13 : decode cX12_abbreviate 13 = .ok (.iload_n 1, 1) := by decide +kernel
theorem dX12_abbreviate_14 : decode cX12_abbreviate 14 = .ok (.iaload, 1) := by decide +kernel
theorem dX12_abbreviate_15 : decode cX12_abbreviate 15 = .ok (.bipush 12, 2) := by decide +kernel
theorem dX12_abbreviate_17 : decode cX12_abbreviate 17 = .ok (.if_icmp .ne 6, 3) := by decide +kernel
theorem dX12_abbreviate_20 : decode cX12_abbreviate 20 = .ok (.bipush (-4), 2) := by decide +kernel
theorem dX12_abbreviate_22 : decode cX12_abbreviate 22 = .ok (.ireturn, 1) := by decide +kernel
theorem dX12_abbreviate_23 : decode cX12_abbreviate 23 = .ok (.aload_n 0, 1) := by decide +kernel
theorem dX12_abbreviate_24 : decode cX12_abbreviate 24 = .ok (.getfield 130, 3) := by decide +kernel
theorem dX12_abbreviate_27 : decode cX12_abbreviate 27 = .ok (.i2l, 1) := by decide +kernel
theorem dX12_abbreviate_28 : decode cX12_abbreviate 28 = .ok (.ldc2_w 140, 3) := by decide +kernel
theorem dX12_abbreviate_31 : decode cX12_abbreviate 31 = .ok (.ldc2_w 113, 3) := by decide +kernel
theorem dX12_abbreviate_34 : decode cX12_abbreviate 34 = .ok (.invokestatic 115, 3) := by decide +kernel
theorem dX12_abbreviate_37 : decode cX12_abbreviate 37 = .ok (.ifCond .eq 18, 3) := by decide +kernel
theorem dX12_abbreviate_40 : decode cX12_abbreviate 40 = .ok (.aload_n 0, 1) := by decide +kernel
theorem dX12_abbreviate_41 : decode cX12_abbreviate 41 = .ok (.getfield 134, 3) := by decide +kernel
theorem dX12_abbreviate_44 : decode cX12_abbreviate 44 = .ok (.i2l, 1) := by decide +kernel
theorem dX12_abbreviate_45 : decode cX12_abbreviate 45 = .ok (.lconst 1, 1) := by decide +kernel
theorem dX12_abbreviate_46 : decode cX12_abbreviate 46 = .ok (.ldc2_w 140, 3) := by decide +kernel
theorem dX12_abbreviate_49 : decode cX12_abbreviate 49 = .ok (.invokestatic 115, 3) := by decide +kernel
theorem dX12_abbreviate_52 : decode cX12_abbreviate 52 = .ok (.ifCond .ne 6, 3) := by decide +kernel
theorem dX12_abbreviate_55 : decode cX12_abbreviate 55 = .ok (.bipush (-5), 2) := by decide +kernel
theorem dX12_abbreviate_57 : decode cX12_abbreviate 57 = .ok (.ireturn, 1) := by decide +kernel
theorem dX12_abbreviate_58 : decode cX12_abbreviate 58 = .ok (.bipush 12, 2) := by decide +kernel
theorem dX12_abbreviate_60 : decode cX12_abbreviate 60 = .ok (.iload_n 1, 1) := by decide +kernel
theorem dX12_abbreviate_61 : decode cX12_abbreviate 61 = .ok (.imul, 1) := by decide +kernel
theorem dX12_abbreviate_62 : decode cX12_abbreviate 62 = .ok (.aload_n 0, 1) := by decide +kernel
theorem dX12_abbreviate_63 : decode cX12_abbreviate 63 = .ok (.getfield 25, 3) := by decide +kernel
theorem dX12_abbreviate_66 : decode cX12_abbreviate 66 = .ok (.iload_n 1, 1) := by decide +kernel
theorem dX12_abbreviate_67 : decode cX12_abbreviate 67 = .ok (.iaload, 1) := by decide +kernel
theorem dX12_abbreviate_68 : decode cX12_abbreviate 68 = .ok (.iadd, 1) := by decide +kernel
theorem dX12_abbreviate_69 : decode cX12_abbreviate 69 = .ok (.istore_n 2, 1) := by decide +kernel
theorem dX12_abbreviate_70 : decode cX12_abbreviate 70 = .ok (.iconst 0, 1) := by decide +kernel
theorem dX12_abbreviate_71 : decode cX12_abbreviate 71 = .ok (.istore_n 3, 1) := by decide +kernel
theorem dX12_abbreviate_72 : decode cX12_abbreviate 72 = .ok (.iload_n 3, 1) := by decide +kernel
theorem dX12_abbreviate_73 : decode cX12_abbreviate 73 = .ok (.aload_n 0, 1) := by decide +kernel
theorem dX12_abbreviate_74 : decode cX12_abbreviate 74 = .ok (.getfield 130, 3) := by decide +kernel
theorem dX12_abbreviate_77 : decode cX12_abbreviate 77 = .ok (.if_icmp .ge 25, 3) := by decide +kernel
theorem dX12_abbreviate_80 : decode cX12_abbreviate 80 = .ok (.aload_n 0, 1) := by decide +kernel
theorem dX12_abbreviate_81 : decode cX12_abbreviate 81 = .ok (.getfield 13, 3) := by decide +kernel
theorem dX12_abbreviate_84 : decode cX12_abbreviate 84 = .ok (.iconst 4, 1) := by decide +kernel
theorem dX12_abbreviate_85 : decode cX12_abbreviate 85 = .ok (.iload_n 2, 1) := by decide +kernel
theorem dX12_abbreviate_86 : decode cX12_abbreviate 86 = .ok (.imul, 1) := by decide +kernel
theorem dX12_abbreviate_87 : decode cX12_abbreviate 87 = .ok (.iload_n 3, 1) := by decide +kernel
theorem dX12_abbreviate_88 : decode cX12_abbreviate 88 = .ok (.iadd, 1) := by decide +kernel
theorem dX12_abbreviate_89 : decode cX12_abbreviate 89 = .ok (.aload_n 0, 1) := by decide +kernel
theorem dX12_abbreviate_90 : decode cX12_abbreviate 90 = .ok (.getfield 28, 3) := by decide +kernel
theorem dX12_abbreviate_93 : decode cX12_abbreviate 93 = .ok (.iload_n 3, 1) := by decide +kernel
theorem dX12_abbreviate_94 : decode cX12_abbreviate 94 = .ok (.iaload, 1) := by decide +kernel
theorem dX12_abbreviate_95 : decode cX12_abbreviate 95 = .ok (.iastore, 1) := by decide +kernel
theorem dX12_abbreviate_96 : decode cX12_abbreviate 96 = .ok (.iinc 3 1, 3) := by decide +kernel
theorem dX12_abbreviate_99 : decode cX12_abbreviate 99 = .ok (.goto (-27), 3) := by decide +kernel
theorem dX12_abbreviate_102 : decode cX12_abbreviate 102 = .ok (.iconst 0, 1) := by decide +kernel
theorem dX12_abbreviate_103 : decode cX12_abbreviate 103 = .ok (.istore_n 3, 1) := by decide +kernel
theorem dX12_abbreviate_104 : decode cX12_abbreviate 104 = .ok (.iload_n 3, 1) := by decide +kernel
theorem dX12_abbreviate_105 : decode cX12_abbreviate 105 = .ok (.aload_n 0, 1) := by decide +kernel
theorem dX12_abbreviate_106 : decode cX12_abbreviate 106 = .ok (.getfield 134, 3) := by decide +kernel
theorem dX12_abbreviate_109 : decode cX12_abbreviate 109 = .ok (.if_icmp .ge 25, 3) := by decide +kernel
theorem dX12_abbreviate_112 : decode cX12_abbreviate 112 = .ok (.aload_n 0, 1) := by decide +kernel
theorem dX12_abbreviate_113 : decode cX12_abbreviate 113 = .ok (.getfield 19, 3) := by decide +kernel
theorem dX12_abbreviate_116 : decode cX12_abbreviate 116 = .ok (.iconst 2, 1) := by decide +kernel
theorem dX12_abbreviate_117 : decode cX12_abbreviate 117 = .ok (.iload_n 2, 1) := by decide +kernel
theorem dX12_abbreviate_118 : decode cX12_abbreviate 118 = .ok (.imul, 1) := by decide +kernel
theorem dX12_abbreviate_119 : decode cX12_abbreviate 119 = .ok (.iload_n 3, 1) := by decide +kernel
theorem dX12_abbreviate_120 : decode cX12_abbreviate 120 = .ok (.iadd, 1) := by decide +kernel
theorem dX12_abbreviate_121 : decode cX12_abbreviate 121 = .ok (.aload_n 0, 1) := by decide +kernel
theorem dX12_abbreviate_122 : decode cX12_abbreviate 122 = .ok (.getfield 31, 3) := by decide +kernel
theorem dX12_abbreviate_125 : decode cX12_abbreviate 125 = .ok (.iload_n 3, 1) := by decide +kernel
theorem dX12_abbreviate_126 : decode cX12_abbreviate 126 = .ok (.iaload, 1) := by decide +kernel
theorem dX12_abbreviate_127 : decode cX12_abbreviate 127 = .ok (.iastore, 1) := by decide +kernel
theorem dX12_abbreviate_128 : decode cX12_abbreviate 128 = .ok (.iinc 3 1, 3) := by decide +kernel
theorem dX12_abbreviate_131 : decode cX12_abbreviate 131 = .ok (.goto (-27), 3) := by decide +kernel
theorem dX12_abbreviate_134 : decode cX12_abbreviate 134 = .ok (.aload_n 0, 1) := by decide +kernel
theorem dX12_abbreviate_135 : decode cX12_abbreviate 135 = .ok (.getfield 16, 3) := by decide +kernel
theorem dX12_abbreviate_138 : decode cX12_abbreviate 138 = .ok (.iload_n 2, 1) := by decide +kernel
theorem dX12_abbreviate_139 : decode cX12_abbreviate 139 = .ok (.aload_n 0, 1) := by decide +kernel
theorem dX12_abbreviate_140 : decode cX12_abbreviate 140 = .ok (.getfield 130, 3) := by decide +kernel
theorem dX12_abbreviate_143 : decode cX12_abbreviate 143 = .ok (.iastore, 1) := by decide +kernel
theorem dX12_abbreviate_144 : decode cX12_abbreviate 144 = .ok (.aload_n 0, 1) := by decide +kernel
theorem dX12_abbreviate_145 : decode cX12_abbreviate 145 = .ok (.getfield 22, 3) := by decide +kernel
theorem dX12_abbreviate_148 : decode cX12_abbreviate 148 = .ok (.iload_n 2, 1) := by decide +kernel
theorem dX12_abbreviate_149 : decode cX12_abbreviate 149 = .ok (.aload_n 0, 1) := by decide +kernel
theorem dX12_abbreviate_150 : decode cX12_abbreviate 150 = .ok (.getfield 134, 3) := by decide +kernel
theorem dX12_abbreviate_153 : decode cX12_abbreviate 153 = .ok (.iastore, 1) := by decide +kernel
theorem dX12_abbreviate_154 : decode cX12_abbreviate 154 = .ok (.aload_n 0, 1) := by decide +kernel
theorem dX12_abbreviate_155 : decode cX12_abbreviate 155 = .ok (.iconst 0, 1) := by decide +kernel
theorem dX12_abbreviate_156 : decode cX12_abbreviate 156 = .ok (.putfield 130, 3) := by decide +kernel
theorem dX12_abbreviate_159 : decode cX12_abbreviate 159 = .ok (.aload_n 0, 1) := by decide +kernel
theorem dX12_abbreviate_160 : decode cX12_abbreviate 160 = .ok (.iconst 0, 1) := by decide +kernel
theorem dX12_abbreviate_161 : decode cX12_abbreviate 161 = .ok (.putfield 134, 3) := by decide +kernel
theorem dX12_abbreviate_164 : decode cX12_abbreviate 164 = .ok (.aload_n 0, 1) := by decide +kernel
theorem dX12_abbreviate_165 : decode cX12_abbreviate 165 = .ok (.getfield 25, 3) := by decide +kernel
theorem dX12_abbreviate_168 : decode cX12_abbreviate 168 = .ok (.iload_n 1, 1) := by decide +kernel
theorem dX12_abbreviate_169 : decode cX12_abbreviate 169 = .ok (.dup2, 1) := by decide +kernel
theorem dX12_abbreviate_170 : decode cX12_abbreviate 170 = .ok (.iaload, 1) := by decide +kernel
theorem dX12_abbreviate_171 : decode cX12_abbreviate 171 = .ok (.iconst 1, 1) := by decide +kernel
theorem dX12_abbreviate_172 : decode cX12_abbreviate 172 = .ok (.iadd, 1) := by decide +kernel
theorem dX12_abbreviate_173 : decode cX12_abbreviate 173 = .ok (.iastore, 1) := by decide +kernel
theorem dX12_abbreviate_174 : decode cX12_abbreviate 174 = .ok (.aload_n 0, 1) := by decide +kernel
theorem dX12_abbreviate_175 : decode cX12_abbreviate 175 = .ok (.getfield 25, 3) := by decide +kernel
theorem dX12_abbreviate_178 : decode cX12_abbreviate 178 = .ok (.iload_n 1, 1) := by decide +kernel
theorem dX12_abbreviate_179 : decode cX12_abbreviate 179 = .ok (.iaload, 1) := by decide +kernel
theorem dX12_abbreviate_180 : decode cX12_abbreviate 180 = .ok (.iconst 1, 1) := by decide +kernel
theorem dX12_abbreviate_181 : decode cX12_abbreviate 181 = .ok (.isub, 1) := by decide +kernel
theorem dX12_abbreviate_182 : decode cX12_abbreviate 182 = .ok (.ireturn, 1) := by decide +kernel
theorem dX12_longOf_0 : decode cX12_longOf 0 = .ok (.iload_n 2, 1) := by decide +kernel
theorem dX12_longOf_1 : decode cX12_longOf 1 = .ok (.bipush 12, 2) := by decide +kernel
theorem dX12_longOf_3 : decode cX12_longOf 3 = .ok (.if_icmp .ge 17, 3) := by decide +kernel
theorem dX12_longOf_6 : decode cX12_longOf 6 = .ok (.aload_n 0, 1) := by decide +kernel
theorem dX12_longOf_7 : decode cX12_longOf 7 = .ok (.getfield 16, 3) := by decide +kernel
theorem dX12_longOf_10 : decode cX12_longOf 10 = .ok (.bipush 12, 2) := by decide +kernel
theorem dX12_longOf_12 : decode cX12_longOf 12 = .ok (.iload_n 1, 1) := by decide +kernel
theorem dX12_longOf_13 : decode cX12_longOf 13 = .ok (.imul, 1) := by decide +kernel
theorem dX12_longOf_14 : decode cX12_longOf 14 = .ok (.iload_n 2, 1) := by decide +kernel
theorem dX12_longOf_15 : decode cX12_longOf 15 = .ok (.iadd, 1) := by decide +kernel
theorem dX12_longOf_16 : decode cX12_longOf 16 = .ok (.iaload, 1) := by decide +kernel
theorem dX12_longOf_17 : decode cX12_longOf 17 = .ok (.goto 4, 3) := by decide +kernel
theorem dX12_longOf_20 : decode cX12_longOf 20 = .ok (.iconst 1, 1) := by decide +kernel
theorem dX12_longOf_21 : decode cX12_longOf 21 = .ok (.ireturn, 1) := by decide +kernel
theorem dX12_wideOf_0 : decode cX12_wideOf 0 = .ok (.iload_n 2, 1) := by decide +kernel
theorem dX12_wideOf_1 : decode cX12_wideOf 1 = .ok (.bipush 12, 2) := by decide +kernel
theorem dX12_wideOf_3 : decode cX12_wideOf 3 = .ok (.if_icmp .ge 17, 3) := by decide +kernel
theorem dX12_wideOf_6 : decode cX12_wideOf 6 = .ok (.aload_n 0, 1) := by decide +kernel
theorem dX12_wideOf_7 : decode cX12_wideOf 7 = .ok (.getfield 22, 3) := by decide +kernel
theorem dX12_wideOf_10 : decode cX12_wideOf 10 = .ok (.bipush 12, 2) := by decide +kernel
theorem dX12_wideOf_12 : decode cX12_wideOf 12 = .ok (.iload_n 1, 1) := by decide +kernel
theorem dX12_wideOf_13 : decode cX12_wideOf 13 = .ok (.imul, 1) := by decide +kernel
theorem dX12_wideOf_14 : decode cX12_wideOf 14 = .ok (.iload_n 2, 1) := by decide +kernel
theorem dX12_wideOf_15 : decode cX12_wideOf 15 = .ok (.iadd, 1) := by decide +kernel
theorem dX12_wideOf_16 : decode cX12_wideOf 16 = .ok (.iaload, 1) := by decide +kernel
theorem dX12_wideOf_17 : decode cX12_wideOf 17 = .ok (.goto 4, 3) := by decide +kernel
theorem dX12_wideOf_20 : decode cX12_wideOf 20 = .ok (.iconst 1, 1) := by decide +kernel
theorem dX12_wideOf_21 : decode cX12_wideOf 21 = .ok (.ireturn, 1) := by decide +kernel
theorem dX12_letterAt_0 : decode cX12_letterAt 0 = .ok (.iload_n 2, 1) := by decide +kernel
theorem dX12_letterAt_1 : decode cX12_letterAt 1 = .ok (.bipush 12, 2) := by decide +kernel
theorem dX12_letterAt_3 : decode cX12_letterAt 3 = .ok (.if_icmp .ge 21, 3) := by decide +kernel
theorem dX12_letterAt_6 : decode cX12_letterAt 6 = .ok (.aload_n 0, 1) := by decide +kernel
theorem dX12_letterAt_7 : decode cX12_letterAt 7 = .ok (.getfield 13, 3) := by decide +kernel
theorem dX12_letterAt_10 : decode cX12_letterAt 10 = .ok (.iconst 4, 1) := by decide +kernel
theorem dX12_letterAt_11 : decode cX12_letterAt 11 = .ok (.bipush 12, 2) := by decide +kernel
theorem dX12_letterAt_13 : decode cX12_letterAt 13 = .ok (.iload_n 1, 1) := by decide +kernel
theorem dX12_letterAt_14 : decode cX12_letterAt 14 = .ok (.imul, 1) := by decide +kernel
theorem dX12_letterAt_15 : decode cX12_letterAt 15 = .ok (.iload_n 2, 1) := by decide +kernel
theorem dX12_letterAt_16 : decode cX12_letterAt 16 = .ok (.iadd, 1) := by decide +kernel
theorem dX12_letterAt_17 : decode cX12_letterAt 17 = .ok (.imul, 1) := by decide +kernel
theorem dX12_letterAt_18 : decode cX12_letterAt 18 = .ok (.iload_n 3, 1) := by decide +kernel
theorem dX12_letterAt_19 : decode cX12_letterAt 19 = .ok (.iadd, 1) := by decide +kernel
theorem dX12_letterAt_20 : decode cX12_letterAt 20 = .ok (.iaload, 1) := by decide +kernel
theorem dX12_letterAt_21 : decode cX12_letterAt 21 = .ok (.goto 7, 3) := by decide +kernel
theorem dX12_letterAt_24 : decode cX12_letterAt 24 = .ok (.iload_n 2, 1) := by decide +kernel
theorem dX12_letterAt_25 : decode cX12_letterAt 25 = .ok (.bipush 12, 2) := by decide +kernel
theorem dX12_letterAt_27 : decode cX12_letterAt 27 = .ok (.isub, 1) := by decide +kernel
theorem dX12_letterAt_28 : decode cX12_letterAt 28 = .ok (.ireturn, 1) := by decide +kernel
theorem dX12_cellAt_0 : decode cX12_cellAt 0 = .ok (.iload_n 2, 1) := by decide +kernel
theorem dX12_cellAt_1 : decode cX12_cellAt 1 = .ok (.bipush 12, 2) := by decide +kernel
theorem dX12_cellAt_3 : decode cX12_cellAt 3 = .ok (.if_icmp .ge 21, 3) := by decide +kernel
theorem dX12_cellAt_6 : decode cX12_cellAt 6 = .ok (.aload_n 0, 1) := by decide +kernel
theorem dX12_cellAt_7 : decode cX12_cellAt 7 = .ok (.getfield 19, 3) := by decide +kernel
theorem dX12_cellAt_10 : decode cX12_cellAt 10 = .ok (.iconst 2, 1) := by decide +kernel
theorem dX12_cellAt_11 : decode cX12_cellAt 11 = .ok (.bipush 12, 2) := by decide +kernel
theorem dX12_cellAt_13 : decode cX12_cellAt 13 = .ok (.iload_n 1, 1) := by decide +kernel
theorem dX12_cellAt_14 : decode cX12_cellAt 14 = .ok (.imul, 1) := by decide +kernel
theorem dX12_cellAt_15 : decode cX12_cellAt 15 = .ok (.iload_n 2, 1) := by decide +kernel
theorem dX12_cellAt_16 : decode cX12_cellAt 16 = .ok (.iadd, 1) := by decide +kernel
theorem dX12_cellAt_17 : decode cX12_cellAt 17 = .ok (.imul, 1) := by decide +kernel
theorem dX12_cellAt_18 : decode cX12_cellAt 18 = .ok (.iload_n 3, 1) := by decide +kernel
theorem dX12_cellAt_19 : decode cX12_cellAt 19 = .ok (.iadd, 1) := by decide +kernel
theorem dX12_cellAt_20 : decode cX12_cellAt 20 = .ok (.iaload, 1) := by decide +kernel
theorem dX12_cellAt_21 : decode cX12_cellAt 21 = .ok (.goto 17, 3) := by decide +kernel
theorem dX12_cellAt_24 : decode cX12_cellAt 24 = .ok (.aload_n 0, 1) := by decide +kernel
theorem dX12_cellAt_25 : decode cX12_cellAt 25 = .ok (.getfield 7, 3) := by decide +kernel
theorem dX12_cellAt_28 : decode cX12_cellAt 28 = .ok (.bipush 26, 2) := by decide +kernel
theorem dX12_cellAt_30 : decode cX12_cellAt 30 = .ok (.iload_n 1, 1) := by decide +kernel
theorem dX12_cellAt_31 : decode cX12_cellAt 31 = .ok (.imul, 1) := by decide +kernel
theorem dX12_cellAt_32 : decode cX12_cellAt 32 = .ok (.iload_n 2, 1) := by decide +kernel
theorem dX12_cellAt_33 : decode cX12_cellAt 33 = .ok (.iadd, 1) := by decide +kernel
theorem dX12_cellAt_34 : decode cX12_cellAt 34 = .ok (.bipush 12, 2) := by decide +kernel
theorem dX12_cellAt_36 : decode cX12_cellAt 36 = .ok (.isub, 1) := by decide +kernel
theorem dX12_cellAt_37 : decode cX12_cellAt 37 = .ok (.iaload, 1) := by decide +kernel
theorem dX12_cellAt_38 : decode cX12_cellAt 38 = .ok (.ireturn, 1) := by decide +kernel
theorem dX12_isItem_0 : decode cX12_isItem 0 = .ok (.iload_n 2, 1) := by decide +kernel
theorem dX12_isItem_1 : decode cX12_isItem 1 = .ok (.bipush 12, 2) := by decide +kernel
theorem dX12_isItem_3 : decode cX12_isItem 3 = .ok (.if_icmp .ge 21, 3) := by decide +kernel
theorem dX12_isItem_6 : decode cX12_isItem 6 = .ok (.iload_n 2, 1) := by decide +kernel
theorem dX12_isItem_7 : decode cX12_isItem 7 = .ok (.aload_n 0, 1) := by decide +kernel
theorem dX12_isItem_8 : decode cX12_isItem 8 = .ok (.getfield 25, 3) := by decide +kernel
theorem dX12_isItem_11 : decode cX12_isItem 11 = .ok (.iload_n 1, 1) := by decide +kernel
theorem dX12_isItem_12 : decode cX12_isItem 12 = .ok (.iaload, 1) := by decide +kernel
theorem dX12_isItem_13 : decode cX12_isItem 13 = .ok (.if_icmp .ge 7, 3) := by decide +kernel
theorem dX12_isItem_16 : decode cX12_isItem 16 = .ok (.iconst 1, 1) := by decide +kernel
theorem dX12_isItem_17 : decode cX12_isItem 17 = .ok (.goto 29, 3) := by decide +kernel
theorem dX12_isItem_20 : decode cX12_isItem 20 = .ok (.iconst 0, 1) := by decide +kernel
theorem dX12_isItem_21 : decode cX12_isItem 21 = .ok (.goto 25, 3) := by decide +kernel
theorem dX12_isItem_24 : decode cX12_isItem 24 = .ok (.aload_n 0, 1) := by decide +kernel
theorem dX12_isItem_25 : decode cX12_isItem 25 = .ok (.getfield 7, 3) := by decide +kernel
theorem dX12_isItem_28 : decode cX12_isItem 28 = .ok (.bipush 26, 2) := by decide +kernel
theorem dX12_isItem_30 : decode cX12_isItem 30 = .ok (.iload_n 1, 1) := by decide +kernel
theorem dX12_isItem_31 : decode cX12_isItem 31 = .ok (.imul, 1) := by decide +kernel
theorem dX12_isItem_32 : decode cX12_isItem 32 = .ok (.iload_n 2, 1) := by decide +kernel
theorem dX12_isItem_33 : decode cX12_isItem 33 = .ok (.iadd, 1) := by decide +kernel
theorem dX12_isItem_34 : decode cX12_isItem 34 = .ok (.bipush 12, 2) := by decide +kernel
theorem dX12_isItem_36 : decode cX12_isItem 36 = .ok (.isub, 1) := by decide +kernel
theorem dX12_isItem_37 : decode cX12_isItem 37 = .ok (.iaload, 1) := by decide +kernel
theorem dX12_isItem_38 : decode cX12_isItem 38 = .ok (.ifCond .le 7, 3) := by decide +kernel
theorem dX12_isItem_41 : decode cX12_isItem 41 = .ok (.iconst 1, 1) := by decide +kernel
theorem dX12_isItem_42 : decode cX12_isItem 42 = .ok (.goto 4, 3) := by decide +kernel
theorem dX12_isItem_45 : decode cX12_isItem 45 = .ok (.iconst 0, 1) := by decide +kernel
theorem dX12_isItem_46 : decode cX12_isItem 46 = .ok (.ireturn, 1) := by decide +kernel
theorem dX12_pointsOf_0 : decode cX12_pointsOf 0 = .ok (.iconst 0, 1) := by decide +kernel
theorem dX12_pointsOf_1 : decode cX12_pointsOf 1 = .ok (.istore_n 3, 1) := by decide +kernel
theorem dX12_pointsOf_2 : decode cX12_pointsOf 2 = .ok (.iconst 0, 1) := by decide +kernel
theorem dX12_pointsOf_3 : decode cX12_pointsOf 3 = .ok (.istore 4, 2) := by decide +kernel
theorem dX12_pointsOf_5 : decode cX12_pointsOf 5 = .ok (.iload 4, 2) := by decide +kernel
theorem dX12_pointsOf_7 : decode cX12_pointsOf 7 = .ok (.aload_n 0, 1) := by decide +kernel
theorem dX12_pointsOf_8 : decode cX12_pointsOf 8 = .ok (.iload_n 1, 1) := by decide +kernel
theorem dX12_pointsOf_9 : decode cX12_pointsOf 9 = .ok (.iload_n 2, 1) := by decide +kernel
theorem dX12_pointsOf_10 : decode cX12_pointsOf 10 = .ok (.invokevirtual 142, 3) := by decide +kernel
theorem dX12_pointsOf_13 : decode cX12_pointsOf 13 = .ok (.if_icmp .ge 23, 3) := by decide +kernel
theorem dX12_pointsOf_16 : decode cX12_pointsOf 16 = .ok (.iload_n 3, 1) := by decide +kernel
theorem dX12_pointsOf_17 : decode cX12_pointsOf 17 = .ok (.aload_n 0, 1) := by decide +kernel
theorem dX12_pointsOf_18 : decode cX12_pointsOf 18 = .ok (.iload_n 1, 1) := by decide +kernel
theorem dX12_pointsOf_19 : decode cX12_pointsOf 19 = .ok (.iload_n 2, 1) := by decide +kernel
theorem dX12_pointsOf_20 : decode cX12_pointsOf 20 = .ok (.iload 4, 2) := by decide +kernel
theorem dX12_pointsOf_22 : decode cX12_pointsOf 22 = .ok (.invokevirtual 146, 3) := by decide +kernel
theorem dX12_pointsOf_25 : decode cX12_pointsOf 25 = .ok (.invokestatic 150, 3) := by decide +kernel
theorem dX12_pointsOf_28 : decode cX12_pointsOf 28 = .ok (.iadd, 1) := by decide +kernel
theorem dX12_pointsOf_29 : decode cX12_pointsOf 29 = .ok (.istore_n 3, 1) := by decide +kernel
theorem dX12_pointsOf_30 : decode cX12_pointsOf 30 = .ok (.iinc 4 1, 3) := by decide +kernel
theorem dX12_pointsOf_33 : decode cX12_pointsOf 33 = .ok (.goto (-28), 3) := by decide +kernel
theorem dX12_pointsOf_36 : decode cX12_pointsOf 36 = .ok (.iload_n 3, 1) := by decide +kernel
theorem dX12_pointsOf_37 : decode cX12_pointsOf 37 = .ok (.ireturn, 1) := by decide +kernel
theorem dX12_fits_0 : decode cX12_fits 0 = .ok (.aload_n 0, 1) := by decide +kernel
theorem dX12_fits_1 : decode cX12_fits 1 = .ok (.iload_n 1, 1) := by decide +kernel
theorem dX12_fits_2 : decode cX12_fits 2 = .ok (.iload_n 2, 1) := by decide +kernel
theorem dX12_fits_3 : decode cX12_fits 3 = .ok (.invokevirtual 154, 3) := by decide +kernel
theorem dX12_fits_6 : decode cX12_fits 6 = .ok (.ifCond .eq 22, 3) := by decide +kernel
theorem dX12_fits_9 : decode cX12_fits 9 = .ok (.iload_n 3, 1) := by decide +kernel
theorem dX12_fits_10 : decode cX12_fits 10 = .ok (.aload_n 0, 1) := by decide +kernel
theorem dX12_fits_11 : decode cX12_fits 11 = .ok (.iload_n 1, 1) := by decide +kernel
theorem dX12_fits_12 : decode cX12_fits 12 = .ok (.iload_n 2, 1) := by decide +kernel
theorem dX12_fits_13 : decode cX12_fits 13 = .ok (.invokevirtual 158, 3) := by decide +kernel
theorem dX12_fits_16 : decode cX12_fits 16 = .ok (.iadd, 1) := by decide +kernel
theorem dX12_fits_17 : decode cX12_fits 17 = .ok (.aload_n 0, 1) := by decide +kernel
theorem dX12_fits_18 : decode cX12_fits 18 = .ok (.getfield 161, 3) := by decide +kernel
theorem dX12_fits_21 : decode cX12_fits 21 = .ok (.if_icmp .gt 7, 3) := by decide +kernel
theorem dX12_fits_24 : decode cX12_fits 24 = .ok (.iconst 1, 1) := by decide +kernel
theorem dX12_fits_25 : decode cX12_fits 25 = .ok (.goto 4, 3) := by decide +kernel
theorem dX12_fits_28 : decode cX12_fits 28 = .ok (.iconst 0, 1) := by decide +kernel
theorem dX12_fits_29 : decode cX12_fits 29 = .ok (.istore 4, 2) := by decide +kernel
theorem dX12_fits_31 : decode cX12_fits 31 = .ok (.iconst 0, 1) := by decide +kernel
theorem dX12_fits_32 : decode cX12_fits 32 = .ok (.istore 5, 2) := by decide +kernel
theorem dX12_fits_34 : decode cX12_fits 34 = .ok (.iload 4, 2) := by decide +kernel
theorem dX12_fits_36 : decode cX12_fits 36 = .ok (.ifCond .eq 47, 3) := by decide +kernel
theorem dX12_fits_39 : decode cX12_fits 39 = .ok (.iload 5, 2) := by decide +kernel
theorem dX12_fits_41 : decode cX12_fits 41 = .ok (.aload_n 0, 1) := by decide +kernel
theorem dX12_fits_42 : decode cX12_fits 42 = .ok (.iload_n 1, 1) := by decide +kernel
theorem dX12_fits_43 : decode cX12_fits 43 = .ok (.iload_n 2, 1) := by decide +kernel
theorem dX12_fits_44 : decode cX12_fits 44 = .ok (.invokevirtual 158, 3) := by decide +kernel
theorem dX12_fits_47 : decode cX12_fits 47 = .ok (.if_icmp .ge 36, 3) := by decide +kernel
theorem dX12_fits_50 : decode cX12_fits 50 = .ok (.aload_n 0, 1) := by decide +kernel
theorem dX12_fits_51 : decode cX12_fits 51 = .ok (.iload_n 1, 1) := by decide +kernel
theorem dX12_fits_52 : decode cX12_fits 52 = .ok (.iload_n 2, 1) := by decide +kernel
theorem dX12_fits_53 : decode cX12_fits 53 = .ok (.iload 5, 2) := by decide +kernel
theorem dX12_fits_55 : decode cX12_fits 55 = .ok (.invokevirtual 164, 3) := by decide +kernel
theorem dX12_fits_58 : decode cX12_fits 58 = .ok (.aload_n 0, 1) := by decide +kernel
theorem dX12_fits_59 : decode cX12_fits 59 = .ok (.getfield 34, 3) := by decide +kernel
theorem dX12_fits_62 : decode cX12_fits 62 = .ok (.iload_n 3, 1) := by decide +kernel
theorem dX12_fits_63 : decode cX12_fits 63 = .ok (.iload 5, 2) := by decide +kernel
theorem dX12_fits_65 : decode cX12_fits 65 = .ok (.iadd, 1) := by decide +kernel
theorem dX12_fits_66 : decode cX12_fits 66 = .ok (.iaload, 1) := by decide +kernel
theorem dX12_fits_67 : decode cX12_fits 67 = .ok (.if_icmp .ne 7, 3) := by decide +kernel
theorem dX12_fits_70 : decode cX12_fits 70 = .ok (.iconst 1, 1) := by decide +kernel
theorem dX12_fits_71 : decode cX12_fits 71 = .ok (.goto 4, 3) := by decide +kernel
theorem dX12_fits_74 : decode cX12_fits 74 = .ok (.iconst 0, 1) := by decide +kernel
theorem dX12_fits_75 : decode cX12_fits 75 = .ok (.istore 4, 2) := by decide +kernel
theorem dX12_fits_77 : decode cX12_fits 77 = .ok (.iinc 5 1, 3) := by decide +kernel
theorem dX12_fits_80 : decode cX12_fits 80 = .ok (.goto (-46), 3) := by decide +kernel
theorem dX12_fits_83 : decode cX12_fits 83 = .ok (.iload 4, 2) := by decide +kernel
theorem dX12_fits_85 : decode cX12_fits 85 = .ok (.ireturn, 1) := by decide +kernel
theorem dX12_byItem_0 : decode cX12_byItem 0 = .ok (.aload_n 0, 1) := by decide +kernel
theorem dX12_byItem_1 : decode cX12_byItem 1 = .ok (.getfield 37, 3) := by decide +kernel
theorem dX12_byItem_4 : decode cX12_byItem 4 = .ok (.iload_n 3, 1) := by decide +kernel
theorem dX12_byItem_5 : decode cX12_byItem 5 = .ok (.aload_n 0, 1) := by decide +kernel
theorem dX12_byItem_6 : decode cX12_byItem 6 = .ok (.iload_n 1, 1) := by decide +kernel
theorem dX12_byItem_7 : decode cX12_byItem 7 = .ok (.iload_n 2, 1) := by decide +kernel
theorem dX12_byItem_8 : decode cX12_byItem 8 = .ok (.invokevirtual 158, 3) := by decide +kernel
theorem dX12_byItem_11 : decode cX12_byItem 11 = .ok (.iadd, 1) := by decide +kernel
theorem dX12_byItem_12 : decode cX12_byItem 12 = .ok (.iaload, 1) := by decide +kernel
theorem dX12_byItem_13 : decode cX12_byItem 13 = .ok (.istore 4, 2) := by decide +kernel
theorem dX12_byItem_15 : decode cX12_byItem 15 = .ok (.iload 4, 2) := by decide +kernel
theorem dX12_byItem_17 : decode cX12_byItem 17 = .ok (.ldc 167, 2) := by decide +kernel
theorem dX12_byItem_19 : decode cX12_byItem 19 = .ok (.if_icmp .ne 8, 3) := by decide +kernel
theorem dX12_byItem_22 : decode cX12_byItem 22 = .ok (.ldc 167, 2) := by decide +kernel
theorem dX12_byItem_24 : decode cX12_byItem 24 = .ok (.goto 23, 3) := by decide +kernel
theorem dX12_byItem_27 : decode cX12_byItem 27 = .ok (.iload 4, 2) := by decide +kernel
theorem dX12_byItem_29 : decode cX12_byItem 29 = .ok (.sipush 1000, 3) := by decide +kernel
theorem dX12_byItem_32 : decode cX12_byItem 32 = .ok (.aload_n 0, 1) := by decide +kernel
theorem dX12_byItem_33 : decode cX12_byItem 33 = .ok (.iload_n 1, 1) := by decide +kernel
theorem dX12_byItem_34 : decode cX12_byItem 34 = .ok (.iload_n 2, 1) := by decide +kernel
theorem dX12_byItem_35 : decode cX12_byItem 35 = .ok (.invokevirtual 142, 3) := by decide +kernel
theorem dX12_byItem_38 : decode cX12_byItem 38 = .ok (.imul, 1) := by decide +kernel
theorem dX12_byItem_39 : decode cX12_byItem 39 = .ok (.iadd, 1) := by decide +kernel
theorem dX12_byItem_40 : decode cX12_byItem 40 = .ok (.aload_n 0, 1) := by decide +kernel
theorem dX12_byItem_41 : decode cX12_byItem 41 = .ok (.iload_n 1, 1) := by decide +kernel
theorem dX12_byItem_42 : decode cX12_byItem 42 = .ok (.iload_n 2, 1) := by decide +kernel
theorem dX12_byItem_43 : decode cX12_byItem 43 = .ok (.invokevirtual 168, 3) := by decide +kernel
theorem dX12_byItem_46 : decode cX12_byItem 46 = .ok (.iadd, 1) := by decide +kernel
theorem dX12_byItem_47 : decode cX12_byItem 47 = .ok (.ireturn, 1) := by decide +kernel
theorem dX12_findWritten_0 : decode cX12_findWritten 0 = .ok (.aload_n 0, 1) := by decide +kernel
theorem dX12_findWritten_1 : decode cX12_findWritten 1 = .ok (.getfield 37, 3) := by decide +kernel
theorem dX12_findWritten_4 : decode cX12_findWritten 4 = .ok (.aload_n 0, 1) := by decide +kernel
theorem dX12_findWritten_5 : decode cX12_findWritten 5 = .ok (.getfield 161, 3) := by decide +kernel
theorem dX12_findWritten_8 : decode cX12_findWritten 8 = .ok (.iconst 0, 1) := by decide +kernel
theorem dX12_findWritten_9 : decode cX12_findWritten 9 = .ok (.iastore, 1) := by decide +kernel
theorem dX12_findWritten_10 : decode cX12_findWritten 10 = .ok (.aload_n 0, 1) := by decide +kernel
theorem dX12_findWritten_11 : decode cX12_findWritten 11 = .ok (.getfield 161, 3) := by decide +kernel
theorem dX12_findWritten_14 : decode cX12_findWritten 14 = .ok (.iconst 1, 1) := by decide +kernel
theorem dX12_findWritten_15 : decode cX12_findWritten 15 = .ok (.isub, 1) := by decide +kernel
theorem dX12_findWritten_16 : decode cX12_findWritten 16 = .ok (.istore_n 2, 1) := by decide +kernel
theorem dX12_findWritten_17 : decode cX12_findWritten 17 = .ok (.iload_n 2, 1) := by decide +kernel
theorem dX12_findWritten_18 : decode cX12_findWritten 18 = .ok (.ifCond .lt 83, 3) := by decide +kernel
theorem dX12_findWritten_21 : decode cX12_findWritten 21 = .ok (.aload_n 0, 1) := by decide +kernel
theorem dX12_findWritten_22 : decode cX12_findWritten 22 = .ok (.getfield 37, 3) := by decide +kernel
theorem dX12_findWritten_25 : decode cX12_findWritten 25 = .ok (.iload_n 2, 1) := by decide +kernel
theorem dX12_findWritten_26 : decode cX12_findWritten 26 = .ok (.ldc 167, 2) := by decide +kernel
theorem dX12_findWritten_28 : decode cX12_findWritten 28 = .ok (.iastore, 1) := by decide +kernel
theorem dX12_findWritten_29 : decode cX12_findWritten 29 = .ok (.iconst 0, 1) := by decide +kernel
theorem dX12_findWritten_30 : decode cX12_findWritten 30 = .ok (.istore_n 3, 1) := by decide +kernel
theorem dX12_findWritten_31 : decode cX12_findWritten 31 = .ok (.iload_n 3, 1) := by decide +kernel
theorem dX12_findWritten_32 : decode cX12_findWritten 32 = .ok (.bipush 38, 2) := by decide +kernel
theorem dX12_findWritten_34 : decode cX12_findWritten 34 = .ok (.if_icmp .ge 61, 3) := by decide +kernel
theorem dX12_findWritten_37 : decode cX12_findWritten 37 = .ok (.aload_n 0, 1) := by decide +kernel
theorem dX12_findWritten_38 : decode cX12_findWritten 38 = .ok (.iload_n 1, 1) := by decide +kernel
theorem dX12_findWritten_39 : decode cX12_findWritten 39 = .ok (.iload_n 3, 1) := by decide +kernel
theorem dX12_findWritten_40 : decode cX12_findWritten 40 = .ok (.iload_n 2, 1) := by decide +kernel
theorem dX12_findWritten_41 : decode cX12_findWritten 41 = .ok (.invokevirtual 171, 3) := by decide +kernel
theorem dX12_findWritten_44 : decode cX12_findWritten 44 = .ok (.ifCond .eq 13, 3) := by decide +kernel
theorem dX12_findWritten_47 : decode cX12_findWritten 47 = .ok (.aload_n 0, 1) := by decide +kernel
theorem dX12_findWritten_48 : decode cX12_findWritten 48 = .ok (.iload_n 1, 1) := by decide +kernel
theorem dX12_findWritten_49 : decode cX12_findWritten 49 = .ok (.iload_n 3, 1) := by decide +kernel
theorem dX12_findWritten_50 : decode cX12_findWritten 50 = .ok (.iload_n 2, 1) := by decide +kernel
theorem dX12_findWritten_51 : decode cX12_findWritten 51 = .ok (.invokevirtual 175, 3) := by decide +kernel
theorem dX12_findWritten_54 : decode cX12_findWritten 54 = .ok (.goto 5, 3) := by decide +kernel
theorem dX12_findWritten_57 : decode cX12_findWritten 57 = .ok (.ldc 167, 2) := by decide +kernel
theorem dX12_findWritten_59 : decode cX12_findWritten 59 = .ok (.istore 4, 2) := by decide +kernel
theorem dX12_findWritten_61 : decode cX12_findWritten 61 = .ok (.aload_n 0, 1) := by decide +kernel
theorem dX12_findWritten_62 : decode cX12_findWritten 62 = .ok (.getfield 37, 3) := by decide +kernel
theorem dX12_findWritten_65 : decode cX12_findWritten 65 = .ok (.iload_n 2, 1) := by decide +kernel
theorem dX12_findWritten_66 : decode cX12_findWritten 66 = .ok (.iload 4, 2) := by decide +kernel
theorem dX12_findWritten_68 : decode cX12_findWritten 68 = .ok (.aload_n 0, 1) := by decide +kernel
theorem dX12_findWritten_69 : decode cX12_findWritten 69 = .ok (.getfield 37, 3) := by decide +kernel
theorem dX12_findWritten_72 : decode cX12_findWritten 72 = .ok (.iload_n 2, 1) := by decide +kernel
theorem dX12_findWritten_73 : decode cX12_findWritten 73 = .ok (.iaload, 1) := by decide +kernel
theorem dX12_findWritten_74 : decode cX12_findWritten 74 = .ok (.if_icmp .ge 8, 3) := by decide +kernel
theorem dX12_findWritten_77 : decode cX12_findWritten 77 = .ok (.iload 4, 2) := by decide +kernel
theorem dX12_findWritten_79 : decode cX12_findWritten 79 = .ok (.goto 9, 3) := by decide +kernel
theorem dX12_findWritten_82 : decode cX12_findWritten 82 = .ok (.aload_n 0, 1) := by decide +kernel
theorem dX12_findWritten_83 : decode cX12_findWritten 83 = .ok (.getfield 37, 3) := by decide +kernel
theorem dX12_findWritten_86 : decode cX12_findWritten 86 = .ok (.iload_n 2, 1) := by decide +kernel
theorem dX12_findWritten_87 : decode cX12_findWritten 87 = .ok (.iaload, 1) := by decide +kernel
theorem dX12_findWritten_88 : decode cX12_findWritten 88 = .ok (.iastore, 1) := by decide +kernel
theorem dX12_findWritten_89 : decode cX12_findWritten 89 = .ok (.iinc 3 1, 3) := by decide +kernel
theorem dX12_findWritten_92 : decode cX12_findWritten 92 = .ok (.goto (-61), 3) := by decide +kernel
theorem dX12_findWritten_95 : decode cX12_findWritten 95 = .ok (.iinc 2 (-1), 3) := by decide +kernel
theorem dX12_findWritten_98 : decode cX12_findWritten 98 = .ok (.goto (-81), 3) := by decide +kernel
theorem dX12_findWritten_101 : decode cX12_findWritten 101 = .ok (.aload_n 0, 1) := by decide +kernel
theorem dX12_findWritten_102 : decode cX12_findWritten 102 = .ok (.getfield 37, 3) := by decide +kernel
theorem dX12_findWritten_105 : decode cX12_findWritten 105 = .ok (.iconst 0, 1) := by decide +kernel
theorem dX12_findWritten_106 : decode cX12_findWritten 106 = .ok (.iaload, 1) := by decide +kernel
theorem dX12_findWritten_107 : decode cX12_findWritten 107 = .ok (.ldc 167, 2) := by decide +kernel
theorem dX12_findWritten_109 : decode cX12_findWritten 109 = .ok (.if_icmp .eq 7, 3) := by decide +kernel
theorem dX12_findWritten_112 : decode cX12_findWritten 112 = .ok (.iconst 1, 1) := by decide +kernel
theorem dX12_findWritten_113 : decode cX12_findWritten 113 = .ok (.goto 4, 3) := by decide +kernel
theorem dX12_findWritten_116 : decode cX12_findWritten 116 = .ok (.iconst 0, 1) := by decide +kernel
theorem dX12_findWritten_117 : decode cX12_findWritten 117 = .ok (.ireturn, 1) := by decide +kernel
theorem dX12_firstItem_0 : decode cX12_firstItem 0 = .ok (.iconst 0, 1) := by decide +kernel
theorem dX12_firstItem_1 : decode cX12_firstItem 1 = .ok (.istore_n 3, 1) := by decide +kernel
theorem dX12_firstItem_2 : decode cX12_firstItem 2 = .ok (.aload_n 0, 1) := by decide +kernel
theorem dX12_firstItem_3 : decode cX12_firstItem 3 = .ok (.iload_n 1, 1) := by decide +kernel
theorem dX12_firstItem_4 : decode cX12_firstItem 4 = .ok (.iload_n 3, 1) := by decide +kernel
theorem dX12_firstItem_5 : decode cX12_firstItem 5 = .ok (.iload_n 2, 1) := by decide +kernel
theorem dX12_firstItem_6 : decode cX12_firstItem 6 = .ok (.invokevirtual 171, 3) := by decide +kernel
theorem dX12_firstItem_9 : decode cX12_firstItem 9 = .ok (.ifCond .eq 19, 3) := by decide +kernel
theorem dX12_firstItem_12 : decode cX12_firstItem 12 = .ok (.aload_n 0, 1) := by decide +kernel
theorem dX12_firstItem_13 : decode cX12_firstItem 13 = .ok (.iload_n 1, 1) := by decide +kernel
theorem dX12_firstItem_14 : decode cX12_firstItem 14 = .ok (.iload_n 3, 1) := by decide +kernel
theorem dX12_firstItem_15 : decode cX12_firstItem 15 = .ok (.iload_n 2, 1) := by decide +kernel
theorem dX12_firstItem_16 : decode cX12_firstItem 16 = .ok (.invokevirtual 175, 3) := by decide +kernel
theorem dX12_firstItem_19 : decode cX12_firstItem 19 = .ok (.aload_n 0, 1) := by decide +kernel
theorem dX12_firstItem_20 : decode cX12_firstItem 20 = .ok (.getfield 37, 3) := by decide +kernel
theorem dX12_firstItem_23 : decode cX12_firstItem 23 = .ok (.iload_n 2, 1) := by decide +kernel
theorem dX12_firstItem_24 : decode cX12_firstItem 24 = .ok (.iaload, 1) := by decide +kernel
theorem dX12_firstItem_25 : decode cX12_firstItem 25 = .ok (.if_icmp .eq 9, 3) := by decide +kernel
theorem dX12_firstItem_28 : decode cX12_firstItem 28 = .ok (.iinc 3 1, 3) := by decide +kernel
theorem dX12_firstItem_31 : decode cX12_firstItem 31 = .ok (.goto (-29), 3) := by decide +kernel
theorem dX12_firstItem_34 : decode cX12_firstItem 34 = .ok (.iload_n 3, 1) := by decide +kernel
theorem dX12_firstItem_35 : decode cX12_firstItem 35 = .ok (.ireturn, 1) := by decide +kernel
theorem dX12_layPad_0 : decode cX12_layPad 0 = .ok (.aload_n 0, 1) := by decide +kernel
theorem dX12_layPad_1 : decode cX12_layPad 1 = .ok (.aload_n 0, 1) := by decide +kernel
theorem dX12_layPad_2 : decode cX12_layPad 2 = .ok (.getfield 130, 3) := by decide +kernel
theorem dX12_layPad_5 : decode cX12_layPad 5 = .ok (.putfield 161, 3) := by decide +kernel
theorem dX12_layPad_8 : decode cX12_layPad 8 = .ok (.iconst 0, 1) := by decide +kernel
theorem dX12_layPad_9 : decode cX12_layPad 9 = .ok (.istore_n 1, 1) := by decide +kernel
theorem dX12_layPad_10 : decode cX12_layPad 10 = .ok (.iload_n 1, 1) := by decide +kernel
theorem dX12_layPad_11 : decode cX12_layPad 11 = .ok (.aload_n 0, 1) := by decide +kernel
theorem dX12_layPad_12 : decode cX12_layPad 12 = .ok (.getfield 130, 3) := by decide +kernel
theorem dX12_layPad_15 : decode cX12_layPad 15 = .ok (.if_icmp .ge 21, 3) := by decide +kernel
theorem dX12_layPad_18 : decode cX12_layPad 18 = .ok (.aload_n 0, 1) := by decide +kernel
theorem dX12_layPad_19 : decode cX12_layPad 19 = .ok (.getfield 34, 3) := by decide +kernel
theorem dX12_layPad_22 : decode cX12_layPad 22 = .ok (.iload_n 1, 1) := by decide +kernel
theorem dX12_layPad_23 : decode cX12_layPad 23 = .ok (.aload_n 0, 1) := by decide +kernel
theorem dX12_layPad_24 : decode cX12_layPad 24 = .ok (.getfield 28, 3) := by decide +kernel
theorem dX12_layPad_27 : decode cX12_layPad 27 = .ok (.iload_n 1, 1) := by decide +kernel
theorem dX12_layPad_28 : decode cX12_layPad 28 = .ok (.iaload, 1) := by decide +kernel
theorem dX12_layPad_29 : decode cX12_layPad 29 = .ok (.iastore, 1) := by decide +kernel
theorem dX12_layPad_30 : decode cX12_layPad 30 = .ok (.iinc 1 1, 3) := by decide +kernel
theorem dX12_layPad_33 : decode cX12_layPad 33 = .ok (.goto (-23), 3) := by decide +kernel
theorem dX12_layPad_36 : decode cX12_layPad 36 = .ok (.return_, 1) := by decide +kernel
theorem dX12_layWritten_0 : decode cX12_layWritten 0 = .ok (.aload_n 0, 1) := by decide +kernel
theorem dX12_layWritten_1 : decode cX12_layWritten 1 = .ok (.iconst 0, 1) := by decide +kernel
theorem dX12_layWritten_2 : decode cX12_layWritten 2 = .ok (.putfield 178, 3) := by decide +kernel
theorem dX12_layWritten_5 : decode cX12_layWritten 5 = .ok (.iconst 0, 1) := by decide +kernel
theorem dX12_layWritten_6 : decode cX12_layWritten 6 = .ok (.istore_n 2, 1) := by decide +kernel
theorem dX12_layWritten_7 : decode cX12_layWritten 7 = .ok (.iload_n 2, 1) := by decide +kernel
theorem dX12_layWritten_8 : decode cX12_layWritten 8 = .ok (.aload_n 0, 1) := by decide +kernel
theorem dX12_layWritten_9 : decode cX12_layWritten 9 = .ok (.getfield 161, 3) := by decide +kernel
theorem dX12_layWritten_12 : decode cX12_layWritten 12 = .ok (.if_icmp .ge 69, 3) := by decide +kernel
theorem dX12_layWritten_15 : decode cX12_layWritten 15 = .ok (.aload_n 0, 1) := by decide +kernel
theorem dX12_layWritten_16 : decode cX12_layWritten 16 = .ok (.iload_n 1, 1) := by decide +kernel
theorem dX12_layWritten_17 : decode cX12_layWritten 17 = .ok (.iload_n 2, 1) := by decide +kernel
theorem dX12_layWritten_18 : decode cX12_layWritten 18 = .ok (.invokevirtual 181, 3) := by decide +kernel
theorem dX12_layWritten_21 : decode cX12_layWritten 21 = .ok (.istore_n 3, 1) := by decide +kernel
theorem dX12_layWritten_22 : decode cX12_layWritten 22 = .ok (.iconst 0, 1) := by decide +kernel
theorem dX12_layWritten_23 : decode cX12_layWritten 23 = .ok (.istore 4, 2) := by decide +kernel
theorem dX12_layWritten_25 : decode cX12_layWritten 25 = .ok (.iload 4, 2) := by decide +kernel
theorem dX12_layWritten_27 : decode cX12_layWritten 27 = .ok (.aload_n 0, 1) := by decide +kernel
theorem dX12_layWritten_28 : decode cX12_layWritten 28 = .ok (.iload_n 1, 1) := by decide +kernel
theorem dX12_layWritten_29 : decode cX12_layWritten 29 = .ok (.iload_n 3, 1) := by decide +kernel
theorem dX12_layWritten_30 : decode cX12_layWritten 30 = .ok (.invokevirtual 142, 3) := by decide +kernel
theorem dX12_layWritten_33 : decode cX12_layWritten 33 = .ok (.if_icmp .ge 36, 3) := by decide +kernel
theorem dX12_layWritten_36 : decode cX12_layWritten 36 = .ok (.aload_n 0, 1) := by decide +kernel
theorem dX12_layWritten_37 : decode cX12_layWritten 37 = .ok (.getfield 40, 3) := by decide +kernel
theorem dX12_layWritten_40 : decode cX12_layWritten 40 = .ok (.aload_n 0, 1) := by decide +kernel
theorem dX12_layWritten_41 : decode cX12_layWritten 41 = .ok (.getfield 178, 3) := by decide +kernel
theorem dX12_layWritten_44 : decode cX12_layWritten 44 = .ok (.aload_n 0, 1) := by decide +kernel
theorem dX12_layWritten_45 : decode cX12_layWritten 45 = .ok (.iload_n 1, 1) := by decide +kernel
theorem dX12_layWritten_46 : decode cX12_layWritten 46 = .ok (.iload_n 3, 1) := by decide +kernel
theorem dX12_layWritten_47 : decode cX12_layWritten 47 = .ok (.iload 4, 2) := by decide +kernel
theorem dX12_layWritten_49 : decode cX12_layWritten 49 = .ok (.invokevirtual 146, 3) := by decide +kernel
theorem dX12_layWritten_52 : decode cX12_layWritten 52 = .ok (.iastore, 1) := by decide +kernel
theorem dX12_layWritten_53 : decode cX12_layWritten 53 = .ok (.aload_n 0, 1) := by decide +kernel
theorem dX12_layWritten_54 : decode cX12_layWritten 54 = .ok (.dup, 1) := by decide +kernel
theorem dX12_layWritten_55 : decode cX12_layWritten 55 = .ok (.getfield 178, 3) := by decide +kernel
theorem dX12_layWritten_58 : decode cX12_layWritten 58 = .ok (.iconst 1, 1) := by decide +kernel
theorem dX12_layWritten_59 : decode cX12_layWritten 59 = .ok (.iadd, 1) := by decide +kernel
theorem dX12_layWritten_60 : decode cX12_layWritten 60 = .ok (.putfield 178, 3) := by decide +kernel
theorem dX12_layWritten_63 : decode cX12_layWritten 63 = .ok (.iinc 4 1, 3) := by decide +kernel
theorem dX12_layWritten_66 : decode cX12_layWritten 66 = .ok (.goto (-41), 3) := by decide +kernel
theorem dX12_layWritten_69 : decode cX12_layWritten 69 = .ok (.iload_n 2, 1) := by decide +kernel
theorem dX12_layWritten_70 : decode cX12_layWritten 70 = .ok (.aload_n 0, 1) := by decide +kernel
theorem dX12_layWritten_71 : decode cX12_layWritten 71 = .ok (.iload_n 1, 1) := by decide +kernel
theorem dX12_layWritten_72 : decode cX12_layWritten 72 = .ok (.iload_n 3, 1) := by decide +kernel
theorem dX12_layWritten_73 : decode cX12_layWritten 73 = .ok (.invokevirtual 158, 3) := by decide +kernel
theorem dX12_layWritten_76 : decode cX12_layWritten 76 = .ok (.iadd, 1) := by decide +kernel
theorem dX12_layWritten_77 : decode cX12_layWritten 77 = .ok (.istore_n 2, 1) := by decide +kernel
theorem dX12_layWritten_78 : decode cX12_layWritten 78 = .ok (.goto (-71), 3) := by decide +kernel
theorem dX12_layWritten_81 : decode cX12_layWritten 81 = .ok (.return_, 1) := by decide +kernel
theorem dX12_write_0 : decode cX12_write 0 = .ok (.iload_n 1, 1) := by decide +kernel
theorem dX12_write_1 : decode cX12_write 1 = .ok (.invokestatic 121, 3) := by decide +kernel
theorem dX12_write_4 : decode cX12_write 4 = .ok (.ifCond .ne 5, 3) := by decide +kernel
theorem dX12_write_7 : decode cX12_write 7 = .ok (.iconst (-1), 1) := by decide +kernel
theorem dX12_write_8 : decode cX12_write 8 = .ok (.ireturn, 1) := by decide +kernel
theorem dX12_write_9 : decode cX12_write 9 = .ok (.aload_n 0, 1) := by decide +kernel
theorem dX12_write_10 : decode cX12_write 10 = .ok (.invokevirtual 184, 3) := by decide +kernel
theorem dX12_write_13 : decode cX12_write 13 = .ok (.aload_n 0, 1) := by decide +kernel
theorem dX12_write_14 : decode cX12_write 14 = .ok (.iload_n 1, 1) := by decide +kernel
theorem dX12_write_15 : decode cX12_write 15 = .ok (.invokevirtual 187, 3) := by decide +kernel
theorem dX12_write_18 : decode cX12_write 18 = .ok (.ifCond .ne 6, 3) := by decide +kernel
theorem dX12_write_21 : decode cX12_write 21 = .ok (.bipush (-5), 2) := by decide +kernel
theorem dX12_write_23 : decode cX12_write 23 = .ok (.ireturn, 1) := by decide +kernel
theorem dX12_write_24 : decode cX12_write 24 = .ok (.iload_n 2, 1) := by decide +kernel
theorem dX12_write_25 : decode cX12_write 25 = .ok (.iconst (-1), 1) := by decide +kernel
theorem dX12_write_26 : decode cX12_write 26 = .ok (.if_icmp .ne 14, 3) := by decide +kernel
theorem dX12_write_29 : decode cX12_write 29 = .ok (.aload_n 0, 1) := by decide +kernel
theorem dX12_write_30 : decode cX12_write 30 = .ok (.getfield 37, 3) := by decide +kernel
theorem dX12_write_33 : decode cX12_write 33 = .ok (.iconst 0, 1) := by decide +kernel
theorem dX12_write_34 : decode cX12_write 34 = .ok (.iaload, 1) := by decide +kernel
theorem dX12_write_35 : decode cX12_write 35 = .ok (.sipush 1000, 3) := by decide +kernel
theorem dX12_write_38 : decode cX12_write 38 = .ok (.idiv, 1) := by decide +kernel
theorem dX12_write_39 : decode cX12_write 39 = .ok (.ireturn, 1) := by decide +kernel
theorem dX12_write_40 : decode cX12_write 40 = .ok (.iload_n 2, 1) := by decide +kernel
theorem dX12_write_41 : decode cX12_write 41 = .ok (.bipush (-2), 2) := by decide +kernel
theorem dX12_write_43 : decode cX12_write 43 = .ok (.if_icmp .ne 14, 3) := by decide +kernel
theorem dX12_write_46 : decode cX12_write 46 = .ok (.aload_n 0, 1) := by decide +kernel
theorem dX12_write_47 : decode cX12_write 47 = .ok (.getfield 37, 3) := by decide +kernel
theorem dX12_write_50 : decode cX12_write 50 = .ok (.iconst 0, 1) := by decide +kernel
theorem dX12_write_51 : decode cX12_write 51 = .ok (.iaload, 1) := by decide +kernel
theorem dX12_write_52 : decode cX12_write 52 = .ok (.sipush 1000, 3) := by decide +kernel
theorem dX12_write_55 : decode cX12_write 55 = .ok (.irem, 1) := by decide +kernel
theorem dX12_write_56 : decode cX12_write 56 = .ok (.ireturn, 1) := by decide +kernel
theorem dX12_write_57 : decode cX12_write 57 = .ok (.aload_n 0, 1) := by decide +kernel
theorem dX12_write_58 : decode cX12_write 58 = .ok (.iload_n 1, 1) := by decide +kernel
theorem dX12_write_59 : decode cX12_write 59 = .ok (.invokevirtual 190, 3) := by decide +kernel
theorem dX12_write_62 : decode cX12_write 62 = .ok (.iload_n 2, 1) := by decide +kernel
theorem dX12_write_63 : decode cX12_write 63 = .ok (.i2l, 1) := by decide +kernel
theorem dX12_write_64 : decode cX12_write 64 = .ok (.lconst 0, 1) := by decide +kernel
theorem dX12_write_65 : decode cX12_write 65 = .ok (.aload_n 0, 1) := by decide +kernel
theorem dX12_write_66 : decode cX12_write 66 = .ok (.getfield 178, 3) := by decide +kernel
theorem dX12_write_69 : decode cX12_write 69 = .ok (.iconst 1, 1) := by decide +kernel
theorem dX12_write_70 : decode cX12_write 70 = .ok (.isub, 1) := by decide +kernel
theorem dX12_write_71 : decode cX12_write 71 = .ok (.i2l, 1) := by decide +kernel
theorem dX12_write_72 : decode cX12_write 72 = .ok (.invokestatic 115, 3) := by decide +kernel
theorem dX12_write_75 : decode cX12_write 75 = .ok (.ifCond .eq 12, 3) := by decide +kernel
theorem dX12_write_78 : decode cX12_write 78 = .ok (.aload_n 0, 1) := by decide +kernel
theorem dX12_write_79 : decode cX12_write 79 = .ok (.getfield 40, 3) := by decide +kernel
theorem dX12_write_82 : decode cX12_write 82 = .ok (.iload_n 2, 1) := by decide +kernel
theorem dX12_write_83 : decode cX12_write 83 = .ok (.iaload, 1) := by decide +kernel
theorem dX12_write_84 : decode cX12_write 84 = .ok (.goto 5, 3) := by decide +kernel
theorem dX12_write_87 : decode cX12_write 87 = .ok (.bipush (-6), 2) := by decide +kernel
theorem dX12_write_89 : decode cX12_write 89 = .ok (.ireturn, 1) := by decide +kernel
theorem dX12_isReadBy_0 : decode cX12_isReadBy 0 = .ok (.aload_n 0, 1) := by decide +kernel
theorem dX12_isReadBy_1 : decode cX12_isReadBy 1 = .ok (.iload_n 1, 1) := by decide +kernel
theorem dX12_isReadBy_2 : decode cX12_isReadBy 2 = .ok (.iload_n 2, 1) := by decide +kernel
theorem dX12_isReadBy_3 : decode cX12_isReadBy 3 = .ok (.invokevirtual 154, 3) := by decide +kernel
theorem dX12_isReadBy_6 : decode cX12_isReadBy 6 = .ok (.ifCond .eq 22, 3) := by decide +kernel
theorem dX12_isReadBy_9 : decode cX12_isReadBy 9 = .ok (.iload_n 3, 1) := by decide +kernel
theorem dX12_isReadBy_10 : decode cX12_isReadBy 10 = .ok (.aload_n 0, 1) := by decide +kernel
theorem dX12_isReadBy_11 : decode cX12_isReadBy 11 = .ok (.iload_n 1, 1) := by decide +kernel
theorem dX12_isReadBy_12 : decode cX12_isReadBy 12 = .ok (.iload_n 2, 1) := by decide +kernel
theorem dX12_isReadBy_13 : decode cX12_isReadBy 13 = .ok (.invokevirtual 142, 3) := by decide +kernel
theorem dX12_isReadBy_16 : decode cX12_isReadBy 16 = .ok (.iadd, 1) := by decide +kernel
theorem dX12_isReadBy_17 : decode cX12_isReadBy 17 = .ok (.aload_n 0, 1) := by decide +kernel
theorem dX12_isReadBy_18 : decode cX12_isReadBy 18 = .ok (.getfield 134, 3) := by decide +kernel
theorem dX12_isReadBy_21 : decode cX12_isReadBy 21 = .ok (.if_icmp .gt 7, 3) := by decide +kernel
theorem dX12_isReadBy_24 : decode cX12_isReadBy 24 = .ok (.iconst 1, 1) := by decide +kernel
theorem dX12_isReadBy_25 : decode cX12_isReadBy 25 = .ok (.goto 4, 3) := by decide +kernel
theorem dX12_isReadBy_28 : decode cX12_isReadBy 28 = .ok (.iconst 0, 1) := by decide +kernel
theorem dX12_isReadBy_29 : decode cX12_isReadBy 29 = .ok (.istore 4, 2) := by decide +kernel
theorem dX12_isReadBy_31 : decode cX12_isReadBy 31 = .ok (.iconst 0, 1) := by decide +kernel
theorem dX12_isReadBy_32 : decode cX12_isReadBy 32 = .ok (.istore 5, 2) := by decide +kernel
theorem dX12_isReadBy_34 : decode cX12_isReadBy 34 = .ok (.iload 4, 2) := by decide +kernel
theorem dX12_isReadBy_36 : decode cX12_isReadBy 36 = .ok (.ifCond .eq 47, 3) := by decide +kernel
theorem dX12_isReadBy_39 : decode cX12_isReadBy 39 = .ok (.iload 5, 2) := by decide +kernel
theorem dX12_isReadBy_41 : decode cX12_isReadBy 41 = .ok (.aload_n 0, 1) := by decide +kernel
theorem dX12_isReadBy_42 : decode cX12_isReadBy 42 = .ok (.iload_n 1, 1) := by decide +kernel
theorem dX12_isReadBy_43 : decode cX12_isReadBy 43 = .ok (.iload_n 2, 1) := by decide +kernel
theorem dX12_isReadBy_44 : decode cX12_isReadBy 44 = .ok (.invokevirtual 142, 3) := by decide +kernel
theorem dX12_isReadBy_47 : decode cX12_isReadBy 47 = .ok (.if_icmp .ge 36, 3) := by decide +kernel
theorem dX12_isReadBy_50 : decode cX12_isReadBy 50 = .ok (.aload_n 0, 1) := by decide +kernel
theorem dX12_isReadBy_51 : decode cX12_isReadBy 51 = .ok (.iload_n 1, 1) := by decide +kernel
theorem dX12_isReadBy_52 : decode cX12_isReadBy 52 = .ok (.iload_n 2, 1) := by decide +kernel
theorem dX12_isReadBy_53 : decode cX12_isReadBy 53 = .ok (.iload 5, 2) := by decide +kernel
theorem dX12_isReadBy_55 : decode cX12_isReadBy 55 = .ok (.invokevirtual 146, 3) := by decide +kernel
theorem dX12_isReadBy_58 : decode cX12_isReadBy 58 = .ok (.aload_n 0, 1) := by decide +kernel
theorem dX12_isReadBy_59 : decode cX12_isReadBy 59 = .ok (.getfield 31, 3) := by decide +kernel
theorem dX12_isReadBy_62 : decode cX12_isReadBy 62 = .ok (.iload_n 3, 1) := by decide +kernel
theorem dX12_isReadBy_63 : decode cX12_isReadBy 63 = .ok (.iload 5, 2) := by decide +kernel
theorem dX12_isReadBy_65 : decode cX12_isReadBy 65 = .ok (.iadd, 1) := by decide +kernel
theorem dX12_isReadBy_66 : decode cX12_isReadBy 66 = .ok (.iaload, 1) := by decide +kernel
theorem dX12_isReadBy_67 : decode cX12_isReadBy 67 = .ok (.if_icmp .ne 7, 3) := by decide +kernel
theorem dX12_isReadBy_70 : decode cX12_isReadBy 70 = .ok (.iconst 1, 1) := by decide +kernel
theorem dX12_isReadBy_71 : decode cX12_isReadBy 71 = .ok (.goto 4, 3) := by decide +kernel
theorem dX12_isReadBy_74 : decode cX12_isReadBy 74 = .ok (.iconst 0, 1) := by decide +kernel
theorem dX12_isReadBy_75 : decode cX12_isReadBy 75 = .ok (.istore 4, 2) := by decide +kernel
theorem dX12_isReadBy_77 : decode cX12_isReadBy 77 = .ok (.iinc 5 1, 3) := by decide +kernel
theorem dX12_isReadBy_80 : decode cX12_isReadBy 80 = .ok (.goto (-46), 3) := by decide +kernel
theorem dX12_isReadBy_83 : decode cX12_isReadBy 83 = .ok (.iload 4, 2) := by decide +kernel
theorem dX12_isReadBy_85 : decode cX12_isReadBy 85 = .ok (.ifCond .eq 23, 3) := by decide +kernel
theorem dX12_isReadBy_88 : decode cX12_isReadBy 88 = .ok (.aload_n 0, 1) := by decide +kernel
theorem dX12_isReadBy_89 : decode cX12_isReadBy 89 = .ok (.getfield 43, 3) := by decide +kernel
theorem dX12_isReadBy_92 : decode cX12_isReadBy 92 = .ok (.iload_n 3, 1) := by decide +kernel
theorem dX12_isReadBy_93 : decode cX12_isReadBy 93 = .ok (.aload_n 0, 1) := by decide +kernel
theorem dX12_isReadBy_94 : decode cX12_isReadBy 94 = .ok (.iload_n 1, 1) := by decide +kernel
theorem dX12_isReadBy_95 : decode cX12_isReadBy 95 = .ok (.iload_n 2, 1) := by decide +kernel
theorem dX12_isReadBy_96 : decode cX12_isReadBy 96 = .ok (.invokevirtual 142, 3) := by decide +kernel
theorem dX12_isReadBy_99 : decode cX12_isReadBy 99 = .ok (.iadd, 1) := by decide +kernel
theorem dX12_isReadBy_100 : decode cX12_isReadBy 100 = .ok (.iaload, 1) := by decide +kernel
theorem dX12_isReadBy_101 : decode cX12_isReadBy 101 = .ok (.ifCond .le 7, 3) := by decide +kernel
theorem dX12_isReadBy_104 : decode cX12_isReadBy 104 = .ok (.iconst 1, 1) := by decide +kernel
theorem dX12_isReadBy_105 : decode cX12_isReadBy 105 = .ok (.goto 4, 3) := by decide +kernel
theorem dX12_isReadBy_108 : decode cX12_isReadBy 108 = .ok (.iconst 0, 1) := by decide +kernel
theorem dX12_isReadBy_109 : decode cX12_isReadBy 109 = .ok (.ireturn, 1) := by decide +kernel
theorem dX12_findWays_0 : decode cX12_findWays 0 = .ok (.aload_n 0, 1) := by decide +kernel
theorem dX12_findWays_1 : decode cX12_findWays 1 = .ok (.getfield 43, 3) := by decide +kernel
theorem dX12_findWays_4 : decode cX12_findWays 4 = .ok (.aload_n 0, 1) := by decide +kernel
theorem dX12_findWays_5 : decode cX12_findWays 5 = .ok (.getfield 134, 3) := by decide +kernel
theorem dX12_findWays_8 : decode cX12_findWays 8 = .ok (.iconst 1, 1) := by decide +kernel
theorem dX12_findWays_9 : decode cX12_findWays 9 = .ok (.iastore, 1) := by decide +kernel
theorem dX12_findWays_10 : decode cX12_findWays 10 = .ok (.aload_n 0, 1) := by decide +kernel
theorem dX12_findWays_11 : decode cX12_findWays 11 = .ok (.getfield 134, 3) := by decide +kernel
theorem dX12_findWays_14 : decode cX12_findWays 14 = .ok (.iconst 1, 1) := by decide +kernel
theorem dX12_findWays_15 : decode cX12_findWays 15 = .ok (.isub, 1) := by decide +kernel
theorem dX12_findWays_16 : decode cX12_findWays 16 = .ok (.istore_n 2, 1) := by decide +kernel
theorem dX12_findWays_17 : decode cX12_findWays 17 = .ok (.iload_n 2, 1) := by decide +kernel
theorem dX12_findWays_18 : decode cX12_findWays 18 = .ok (.ifCond .lt 79, 3) := by decide +kernel
theorem dX12_findWays_21 : decode cX12_findWays 21 = .ok (.iconst 0, 1) := by decide +kernel
theorem dX12_findWays_22 : decode cX12_findWays 22 = .ok (.istore_n 3, 1) := by decide +kernel
theorem dX12_findWays_23 : decode cX12_findWays 23 = .ok (.iconst 0, 1) := by decide +kernel
theorem dX12_findWays_24 : decode cX12_findWays 24 = .ok (.istore 4, 2) := by decide +kernel
theorem dX12_findWays_26 : decode cX12_findWays 26 = .ok (.iload 4, 2) := by decide +kernel
theorem dX12_findWays_28 : decode cX12_findWays 28 = .ok (.bipush 38, 2) := by decide +kernel
theorem dX12_findWays_30 : decode cX12_findWays 30 = .ok (.if_icmp .ge 54, 3) := by decide +kernel
theorem dX12_findWays_33 : decode cX12_findWays 33 = .ok (.iload_n 3, 1) := by decide +kernel
theorem dX12_findWays_34 : decode cX12_findWays 34 = .ok (.aload_n 0, 1) := by decide +kernel
theorem dX12_findWays_35 : decode cX12_findWays 35 = .ok (.iload_n 1, 1) := by decide +kernel
theorem dX12_findWays_36 : decode cX12_findWays 36 = .ok (.iload 4, 2) := by decide +kernel
theorem dX12_findWays_38 : decode cX12_findWays 38 = .ok (.iload_n 2, 1) := by decide +kernel
theorem dX12_findWays_39 : decode cX12_findWays 39 = .ok (.invokevirtual 194, 3) := by decide +kernel
theorem dX12_findWays_42 : decode cX12_findWays 42 = .ok (.ifCond .eq 20, 3) := by decide +kernel
theorem dX12_findWays_45 : decode cX12_findWays 45 = .ok (.aload_n 0, 1) := by decide +kernel
theorem dX12_findWays_46 : decode cX12_findWays 46 = .ok (.getfield 43, 3) := by decide +kernel
theorem dX12_findWays_49 : decode cX12_findWays 49 = .ok (.iload_n 2, 1) := by decide +kernel
theorem dX12_findWays_50 : decode cX12_findWays 50 = .ok (.aload_n 0, 1) := by decide +kernel
theorem dX12_findWays_51 : decode cX12_findWays 51 = .ok (.iload_n 1, 1) := by decide +kernel
theorem dX12_findWays_52 : decode cX12_findWays 52 = .ok (.iload 4, 2) := by decide +kernel
theorem dX12_findWays_54 : decode cX12_findWays 54 = .ok (.invokevirtual 142, 3) := by decide +kernel
theorem dX12_findWays_57 : decode cX12_findWays 57 = .ok (.iadd, 1) := by decide +kernel
theorem dX12_findWays_58 : decode cX12_findWays 58 = .ok (.iaload, 1) := by decide +kernel
theorem dX12_findWays_59 : decode cX12_findWays 59 = .ok (.goto 4, 3) := by decide +kernel
theorem dX12_findWays_62 : decode cX12_findWays 62 = .ok (.iconst 0, 1) := by decide +kernel
theorem dX12_findWays_63 : decode cX12_findWays 63 = .ok (.iadd, 1) := by decide +kernel
theorem dX12_findWays_64 : decode cX12_findWays 64 = .ok (.istore_n 3, 1) := by decide +kernel
theorem dX12_findWays_65 : decode cX12_findWays 65 = .ok (.iload_n 3, 1) := by decide +kernel
theorem dX12_findWays_66 : decode cX12_findWays 66 = .ok (.ldc 197, 2) := by decide +kernel
theorem dX12_findWays_68 : decode cX12_findWays 68 = .ok (.if_icmp .le 8, 3) := by decide +kernel
theorem dX12_findWays_71 : decode cX12_findWays 71 = .ok (.ldc 197, 2) := by decide +kernel
theorem dX12_findWays_73 : decode cX12_findWays 73 = .ok (.goto 4, 3) := by decide +kernel
theorem dX12_findWays_76 : decode cX12_findWays 76 = .ok (.iload_n 3, 1) := by decide +kernel
theorem dX12_findWays_77 : decode cX12_findWays 77 = .ok (.istore_n 3, 1) := by decide +kernel
theorem dX12_findWays_78 : decode cX12_findWays 78 = .ok (.iinc 4 1, 3) := by decide +kernel
theorem dX12_findWays_81 : decode cX12_findWays 81 = .ok (.goto (-55), 3) := by decide +kernel
theorem dX12_findWays_84 : decode cX12_findWays 84 = .ok (.aload_n 0, 1) := by decide +kernel
theorem dX12_findWays_85 : decode cX12_findWays 85 = .ok (.getfield 43, 3) := by decide +kernel
theorem dX12_findWays_88 : decode cX12_findWays 88 = .ok (.iload_n 2, 1) := by decide +kernel
theorem dX12_findWays_89 : decode cX12_findWays 89 = .ok (.iload_n 3, 1) := by decide +kernel
theorem dX12_findWays_90 : decode cX12_findWays 90 = .ok (.iastore, 1) := by decide +kernel
theorem dX12_findWays_91 : decode cX12_findWays 91 = .ok (.iinc 2 (-1), 3) := by decide +kernel
theorem dX12_findWays_94 : decode cX12_findWays 94 = .ok (.goto (-77), 3) := by decide +kernel
theorem dX12_findWays_97 : decode cX12_findWays 97 = .ok (.return_, 1) := by decide +kernel
theorem dX12_read_0 : decode cX12_read 0 = .ok (.iload_n 1, 1) := by decide +kernel
theorem dX12_read_1 : decode cX12_read 1 = .ok (.invokestatic 121, 3) := by decide +kernel
theorem dX12_read_4 : decode cX12_read 4 = .ok (.ifCond .ne 5, 3) := by decide +kernel
theorem dX12_read_7 : decode cX12_read 7 = .ok (.iconst (-1), 1) := by decide +kernel
theorem dX12_read_8 : decode cX12_read 8 = .ok (.ireturn, 1) := by decide +kernel
theorem dX12_read_9 : decode cX12_read 9 = .ok (.aload_n 0, 1) := by decide +kernel
theorem dX12_read_10 : decode cX12_read 10 = .ok (.iload_n 1, 1) := by decide +kernel
theorem dX12_read_11 : decode cX12_read 11 = .ok (.invokevirtual 198, 3) := by decide +kernel
theorem dX12_read_14 : decode cX12_read 14 = .ok (.iload_n 2, 1) := by decide +kernel
theorem dX12_read_15 : decode cX12_read 15 = .ok (.iconst (-1), 1) := by decide +kernel
theorem dX12_read_16 : decode cX12_read 16 = .ok (.if_icmp .ne 10, 3) := by decide +kernel
theorem dX12_read_19 : decode cX12_read 19 = .ok (.aload_n 0, 1) := by decide +kernel
theorem dX12_read_20 : decode cX12_read 20 = .ok (.getfield 43, 3) := by decide +kernel
theorem dX12_read_23 : decode cX12_read 23 = .ok (.iconst 0, 1) := by decide +kernel
theorem dX12_read_24 : decode cX12_read 24 = .ok (.iaload, 1) := by decide +kernel
theorem dX12_read_25 : decode cX12_read 25 = .ok (.ireturn, 1) := by decide +kernel
theorem dX12_read_26 : decode cX12_read 26 = .ok (.iconst 0, 1) := by decide +kernel
theorem dX12_read_27 : decode cX12_read 27 = .ok (.istore_n 3, 1) := by decide +kernel
theorem dX12_read_28 : decode cX12_read 28 = .ok (.iconst 0, 1) := by decide +kernel
theorem dX12_read_29 : decode cX12_read 29 = .ok (.istore 4, 2) := by decide +kernel
theorem dX12_read_31 : decode cX12_read 31 = .ok (.iload_n 3, 1) := by decide +kernel
theorem dX12_read_32 : decode cX12_read 32 = .ok (.aload_n 0, 1) := by decide +kernel
theorem dX12_read_33 : decode cX12_read 33 = .ok (.getfield 134, 3) := by decide +kernel
theorem dX12_read_36 : decode cX12_read 36 = .ok (.if_icmp .ge 85, 3) := by decide +kernel
theorem dX12_read_39 : decode cX12_read 39 = .ok (.aload_n 0, 1) := by decide +kernel
theorem dX12_read_40 : decode cX12_read 40 = .ok (.getfield 43, 3) := by decide +kernel
theorem dX12_read_43 : decode cX12_read 43 = .ok (.iconst 0, 1) := by decide +kernel
theorem dX12_read_44 : decode cX12_read 44 = .ok (.iaload, 1) := by decide +kernel
theorem dX12_read_45 : decode cX12_read 45 = .ok (.ifCond .le 76, 3) := by decide +kernel
theorem dX12_read_48 : decode cX12_read 48 = .ok (.iconst 0, 1) := by decide +kernel
theorem dX12_read_49 : decode cX12_read 49 = .ok (.istore 5, 2) := by decide +kernel
theorem dX12_read_51 : decode cX12_read 51 = .ok (.aload_n 0, 1) := by decide +kernel
theorem dX12_read_52 : decode cX12_read 52 = .ok (.iload_n 1, 1) := by decide +kernel
theorem dX12_read_53 : decode cX12_read 53 = .ok (.iload 5, 2) := by decide +kernel
theorem dX12_read_55 : decode cX12_read 55 = .ok (.iload_n 3, 1) := by decide +kernel
theorem dX12_read_56 : decode cX12_read 56 = .ok (.invokevirtual 194, 3) := by decide +kernel
theorem dX12_read_59 : decode cX12_read 59 = .ok (.ifCond .ne 9, 3) := by decide +kernel
theorem dX12_read_62 : decode cX12_read 62 = .ok (.iinc 5 1, 3) := by decide +kernel
theorem dX12_read_65 : decode cX12_read 65 = .ok (.goto (-14), 3) := by decide +kernel
theorem dX12_read_68 : decode cX12_read 68 = .ok (.iconst 0, 1) := by decide +kernel
theorem dX12_read_69 : decode cX12_read 69 = .ok (.istore 6, 2) := by decide +kernel
theorem dX12_read_71 : decode cX12_read 71 = .ok (.iload 6, 2) := by decide +kernel
theorem dX12_read_73 : decode cX12_read 73 = .ok (.aload_n 0, 1) := by decide +kernel
theorem dX12_read_74 : decode cX12_read 74 = .ok (.iload_n 1, 1) := by decide +kernel
theorem dX12_read_75 : decode cX12_read 75 = .ok (.iload 5, 2) := by decide +kernel
theorem dX12_read_77 : decode cX12_read 77 = .ok (.invokevirtual 158, 3) := by decide +kernel
theorem dX12_read_80 : decode cX12_read 80 = .ok (.if_icmp .ge 28, 3) := by decide +kernel
theorem dX12_read_83 : decode cX12_read 83 = .ok (.iload 4, 2) := by decide +kernel
theorem dX12_read_85 : decode cX12_read 85 = .ok (.iload_n 2, 1) := by decide +kernel
theorem dX12_read_86 : decode cX12_read 86 = .ok (.if_icmp .ne 13, 3) := by decide +kernel
theorem dX12_read_89 : decode cX12_read 89 = .ok (.aload_n 0, 1) := by decide +kernel
theorem dX12_read_90 : decode cX12_read 90 = .ok (.iload_n 1, 1) := by decide +kernel
theorem dX12_read_91 : decode cX12_read 91 = .ok (.iload 5, 2) := by decide +kernel
theorem dX12_read_93 : decode cX12_read 93 = .ok (.iload 6, 2) := by decide +kernel
theorem dX12_read_95 : decode cX12_read 95 = .ok (.invokevirtual 164, 3) := by decide +kernel
theorem dX12_read_98 : decode cX12_read 98 = .ok (.ireturn, 1) := by decide +kernel
theorem dX12_read_99 : decode cX12_read 99 = .ok (.iinc 4 1, 3) := by decide +kernel
theorem dX12_read_102 : decode cX12_read 102 = .ok (.iinc 6 1, 3) := by decide +kernel
theorem dX12_read_105 : decode cX12_read 105 = .ok (.goto (-34), 3) := by decide +kernel
theorem dX12_read_108 : decode cX12_read 108 = .ok (.iload_n 3, 1) := by decide +kernel
theorem dX12_read_109 : decode cX12_read 109 = .ok (.aload_n 0, 1) := by decide +kernel
theorem dX12_read_110 : decode cX12_read 110 = .ok (.iload_n 1, 1) := by decide +kernel
theorem dX12_read_111 : decode cX12_read 111 = .ok (.iload 5, 2) := by decide +kernel
theorem dX12_read_113 : decode cX12_read 113 = .ok (.invokevirtual 142, 3) := by decide +kernel
theorem dX12_read_116 : decode cX12_read 116 = .ok (.iadd, 1) := by decide +kernel
theorem dX12_read_117 : decode cX12_read 117 = .ok (.istore_n 3, 1) := by decide +kernel
theorem dX12_read_118 : decode cX12_read 118 = .ok (.goto (-87), 3) := by decide +kernel
theorem dX12_read_121 : decode cX12_read 121 = .ok (.iload_n 2, 1) := by decide +kernel
theorem dX12_read_122 : decode cX12_read 122 = .ok (.bipush (-2), 2) := by decide +kernel
theorem dX12_read_124 : decode cX12_read 124 = .ok (.if_icmp .ne 8, 3) := by decide +kernel
theorem dX12_read_127 : decode cX12_read 127 = .ok (.iload 4, 2) := by decide +kernel
theorem dX12_read_129 : decode cX12_read 129 = .ok (.goto 5, 3) := by decide +kernel
theorem dX12_read_132 : decode cX12_read 132 = .ok (.bipush (-6), 2) := by decide +kernel
theorem dX12_read_134 : decode cX12_read 134 = .ok (.ireturn, 1) := by decide +kernel
theorem dX12_countItems_0 : decode cX12_countItems 0 = .ok (.iconst 0, 1) := by decide +kernel
theorem dX12_countItems_1 : decode cX12_countItems 1 = .ok (.istore_n 2, 1) := by decide +kernel
theorem dX12_countItems_2 : decode cX12_countItems 2 = .ok (.iload_n 2, 1) := by decide +kernel
theorem dX12_countItems_3 : decode cX12_countItems 3 = .ok (.bipush 64, 2) := by decide +kernel
theorem dX12_countItems_5 : decode cX12_countItems 5 = .ok (.if_icmp .ge 16, 3) := by decide +kernel
theorem dX12_countItems_8 : decode cX12_countItems 8 = .ok (.aload_n 0, 1) := by decide +kernel
theorem dX12_countItems_9 : decode cX12_countItems 9 = .ok (.getfield 46, 3) := by decide +kernel
theorem dX12_countItems_12 : decode cX12_countItems 12 = .ok (.iload_n 2, 1) := by decide +kernel
theorem dX12_countItems_13 : decode cX12_countItems 13 = .ok (.iconst 0, 1) := by decide +kernel
theorem dX12_countItems_14 : decode cX12_countItems 14 = .ok (.iastore, 1) := by decide +kernel
theorem dX12_countItems_15 : decode cX12_countItems 15 = .ok (.iinc 2 1, 3) := by decide +kernel
theorem dX12_countItems_18 : decode cX12_countItems 18 = .ok (.goto (-16), 3) := by decide +kernel
theorem dX12_countItems_21 : decode cX12_countItems 21 = .ok (.iconst 0, 1) := by decide +kernel
theorem dX12_countItems_22 : decode cX12_countItems 22 = .ok (.istore_n 2, 1) := by decide +kernel
theorem dX12_countItems_23 : decode cX12_countItems 23 = .ok (.iload_n 2, 1) := by decide +kernel
theorem dX12_countItems_24 : decode cX12_countItems 24 = .ok (.sipush 4096, 3) := by decide +kernel
theorem dX12_countItems_27 : decode cX12_countItems 27 = .ok (.if_icmp .ge 16, 3) := by decide +kernel
theorem dX12_countItems_30 : decode cX12_countItems 30 = .ok (.aload_n 0, 1) := by decide +kernel
theorem dX12_countItems_31 : decode cX12_countItems 31 = .ok (.getfield 49, 3) := by decide +kernel
theorem dX12_countItems_34 : decode cX12_countItems 34 = .ok (.iload_n 2, 1) := by decide +kernel
theorem dX12_countItems_35 : decode cX12_countItems 35 = .ok (.iconst 0, 1) := by decide +kernel
theorem dX12_countItems_36 : decode cX12_countItems 36 = .ok (.iastore, 1) := by decide +kernel
theorem dX12_countItems_37 : decode cX12_countItems 37 = .ok (.iinc 2 1, 3) := by decide +kernel
theorem dX12_countItems_40 : decode cX12_countItems 40 = .ok (.goto (-17), 3) := by decide +kernel
theorem dX12_countItems_43 : decode cX12_countItems 43 = .ok (.iconst 0, 1) := by decide +kernel
theorem dX12_countItems_44 : decode cX12_countItems 44 = .ok (.istore_n 2, 1) := by decide +kernel
theorem dX12_countItems_45 : decode cX12_countItems 45 = .ok (.iload_n 2, 1) := by decide +kernel
theorem dX12_countItems_46 : decode cX12_countItems 46 = .ok (.bipush 38, 2) := by decide +kernel
theorem dX12_countItems_48 : decode cX12_countItems 48 = .ok (.if_icmp .ge 83, 3) := by decide +kernel
theorem dX12_countItems_51 : decode cX12_countItems 51 = .ok (.aload_n 0, 1) := by decide +kernel
theorem dX12_countItems_52 : decode cX12_countItems 52 = .ok (.iload_n 1, 1) := by decide +kernel
theorem dX12_countItems_53 : decode cX12_countItems 53 = .ok (.iload_n 2, 1) := by decide +kernel
theorem dX12_countItems_54 : decode cX12_countItems 54 = .ok (.invokevirtual 154, 3) := by decide +kernel
theorem dX12_countItems_57 : decode cX12_countItems 57 = .ok (.ifCond .eq 32, 3) := by decide +kernel
theorem dX12_countItems_60 : decode cX12_countItems 60 = .ok (.aload_n 0, 1) := by decide +kernel
theorem dX12_countItems_61 : decode cX12_countItems 61 = .ok (.iload_n 1, 1) := by decide +kernel
theorem dX12_countItems_62 : decode cX12_countItems 62 = .ok (.iload_n 2, 1) := by decide +kernel
theorem dX12_countItems_63 : decode cX12_countItems 63 = .ok (.invokevirtual 142, 3) := by decide +kernel
theorem dX12_countItems_66 : decode cX12_countItems 66 = .ok (.iconst 1, 1) := by decide +kernel
theorem dX12_countItems_67 : decode cX12_countItems 67 = .ok (.if_icmp .ne 22, 3) := by decide +kernel
theorem dX12_countItems_70 : decode cX12_countItems 70 = .ok (.aload_n 0, 1) := by decide +kernel
theorem dX12_countItems_71 : decode cX12_countItems 71 = .ok (.getfield 46, 3) := by decide +kernel
theorem dX12_countItems_74 : decode cX12_countItems 74 = .ok (.aload_n 0, 1) := by decide +kernel
theorem dX12_countItems_75 : decode cX12_countItems 75 = .ok (.iload_n 1, 1) := by decide +kernel
theorem dX12_countItems_76 : decode cX12_countItems 76 = .ok (.iload_n 2, 1) := by decide +kernel
theorem dX12_countItems_77 : decode cX12_countItems 77 = .ok (.iconst 0, 1) := by decide +kernel
theorem dX12_countItems_78 : decode cX12_countItems 78 = .ok (.invokevirtual 146, 3) := by decide +kernel
theorem dX12_countItems_81 : decode cX12_countItems 81 = .ok (.dup2, 1) := by decide +kernel
theorem dX12_countItems_82 : decode cX12_countItems 82 = .ok (.iaload, 1) := by decide +kernel
theorem dX12_countItems_83 : decode cX12_countItems 83 = .ok (.iconst 1, 1) := by decide +kernel
theorem dX12_countItems_84 : decode cX12_countItems 84 = .ok (.iadd, 1) := by decide +kernel
theorem dX12_countItems_85 : decode cX12_countItems 85 = .ok (.iastore, 1) := by decide +kernel
theorem dX12_countItems_86 : decode cX12_countItems 86 = .ok (.goto 39, 3) := by decide +kernel
theorem dX12_countItems_89 : decode cX12_countItems 89 = .ok (.aload_n 0, 1) := by decide +kernel
theorem dX12_countItems_90 : decode cX12_countItems 90 = .ok (.iload_n 1, 1) := by decide +kernel
theorem dX12_countItems_91 : decode cX12_countItems 91 = .ok (.iload_n 2, 1) := by decide +kernel
theorem dX12_countItems_92 : decode cX12_countItems 92 = .ok (.invokevirtual 154, 3) := by decide +kernel
theorem dX12_countItems_95 : decode cX12_countItems 95 = .ok (.ifCond .eq 30, 3) := by decide +kernel
theorem dX12_countItems_98 : decode cX12_countItems 98 = .ok (.aload_n 0, 1) := by decide +kernel
theorem dX12_countItems_99 : decode cX12_countItems 99 = .ok (.getfield 49, 3) := by decide +kernel
theorem dX12_countItems_102 : decode cX12_countItems 102 = .ok (.bipush 64, 2) := by decide +kernel
theorem dX12_countItems_104 : decode cX12_countItems 104 = .ok (.aload_n 0, 1) := by decide +kernel
theorem dX12_countItems_105 : decode cX12_countItems 105 = .ok (.iload_n 1, 1) := by decide +kernel
theorem dX12_countItems_106 : decode cX12_countItems 106 = .ok (.iload_n 2, 1) := by decide +kernel
theorem dX12_countItems_107 : decode cX12_countItems 107 = .ok (.iconst 0, 1) := by decide +kernel
theorem dX12_countItems_108 : decode cX12_countItems 108 = .ok (.invokevirtual 146, 3) := by decide +kernel
theorem dX12_countItems_111 : decode cX12_countItems 111 = .ok (.imul, 1) := by decide +kernel
theorem dX12_countItems_112 : decode cX12_countItems 112 = .ok (.aload_n 0, 1) := by decide +kernel
theorem dX12_countItems_113 : decode cX12_countItems 113 = .ok (.iload_n 1, 1) := by decide +kernel
theorem dX12_countItems_114 : decode cX12_countItems 114 = .ok (.iload_n 2, 1) := by decide +kernel
theorem dX12_countItems_115 : decode cX12_countItems 115 = .ok (.iconst 1, 1) := by decide +kernel
theorem dX12_countItems_116 : decode cX12_countItems 116 = .ok (.invokevirtual 146, 3) := by decide +kernel
theorem dX12_countItems_119 : decode cX12_countItems 119 = .ok (.iadd, 1) := by decide +kernel
theorem dX12_countItems_120 : decode cX12_countItems 120 = .ok (.dup2, 1) := by decide +kernel
theorem dX12_countItems_121 : decode cX12_countItems 121 = .ok (.iaload, 1) := by decide +kernel
theorem dX12_countItems_122 : decode cX12_countItems 122 = .ok (.iconst 1, 1) := by decide +kernel
theorem dX12_countItems_123 : decode cX12_countItems 123 = .ok (.iadd, 1) := by decide +kernel
theorem dX12_countItems_124 : decode cX12_countItems 124 = .ok (.iastore, 1) := by decide +kernel
theorem dX12_countItems_125 : decode cX12_countItems 125 = .ok (.iinc 2 1, 3) := by decide +kernel
theorem dX12_countItems_128 : decode cX12_countItems 128 = .ok (.goto (-83), 3) := by decide +kernel
theorem dX12_countItems_131 : decode cX12_countItems 131 = .ok (.return_, 1) := by decide +kernel
theorem dX12_findComes_0 : decode cX12_findComes 0 = .ok (.iconst 0, 1) := by decide +kernel
theorem dX12_findComes_1 : decode cX12_findComes 1 = .ok (.istore_n 1, 1) := by decide +kernel
theorem dX12_findComes_2 : decode cX12_findComes 2 = .ok (.iload_n 1, 1) := by decide +kernel
theorem dX12_findComes_3 : decode cX12_findComes 3 = .ok (.bipush 64, 2) := by decide +kernel
theorem dX12_findComes_5 : decode cX12_findComes 5 = .ok (.if_icmp .ge 29, 3) := by decide +kernel
theorem dX12_findComes_8 : decode cX12_findComes 8 = .ok (.aload_n 0, 1) := by decide +kernel
theorem dX12_findComes_9 : decode cX12_findComes 9 = .ok (.getfield 52, 3) := by decide +kernel
theorem dX12_findComes_12 : decode cX12_findComes 12 = .ok (.iload_n 1, 1) := by decide +kernel
theorem dX12_findComes_13 : decode cX12_findComes 13 = .ok (.aload_n 0, 1) := by decide +kernel
theorem dX12_findComes_14 : decode cX12_findComes 14 = .ok (.getfield 46, 3) := by decide +kernel
theorem dX12_findComes_17 : decode cX12_findComes 17 = .ok (.iload_n 1, 1) := by decide +kernel
theorem dX12_findComes_18 : decode cX12_findComes 18 = .ok (.iaload, 1) := by decide +kernel
theorem dX12_findComes_19 : decode cX12_findComes 19 = .ok (.ifCond .le 7, 3) := by decide +kernel
theorem dX12_findComes_22 : decode cX12_findComes 22 = .ok (.iconst 1, 1) := by decide +kernel
theorem dX12_findComes_23 : decode cX12_findComes 23 = .ok (.goto 4, 3) := by decide +kernel
theorem dX12_findComes_26 : decode cX12_findComes 26 = .ok (.iconst 0, 1) := by decide +kernel
theorem dX12_findComes_27 : decode cX12_findComes 27 = .ok (.bastore, 1) := by decide +kernel
theorem dX12_findComes_28 : decode cX12_findComes 28 = .ok (.iinc 1 1, 3) := by decide +kernel
theorem dX12_findComes_31 : decode cX12_findComes 31 = .ok (.goto (-29), 3) := by decide +kernel
theorem dX12_findComes_34 : decode cX12_findComes 34 = .ok (.iconst 1, 1) := by decide +kernel
theorem dX12_findComes_35 : decode cX12_findComes 35 = .ok (.istore_n 1, 1) := by decide +kernel
theorem dX12_findComes_36 : decode cX12_findComes 36 = .ok (.iload_n 1, 1) := by decide +kernel
theorem dX12_findComes_37 : decode cX12_findComes 37 = .ok (.bipush 15, 2) := by decide +kernel
theorem dX12_findComes_39 : decode cX12_findComes 39 = .ok (.if_icmp .ge 95, 3) := by decide +kernel
theorem dX12_findComes_42 : decode cX12_findComes 42 = .ok (.iconst 0, 1) := by decide +kernel
theorem dX12_findComes_43 : decode cX12_findComes 43 = .ok (.istore_n 2, 1) := by decide +kernel
theorem dX12_findComes_44 : decode cX12_findComes 44 = .ok (.iload_n 2, 1) := by decide +kernel
theorem dX12_findComes_45 : decode cX12_findComes 45 = .ok (.bipush 64, 2) := by decide +kernel
theorem dX12_findComes_47 : decode cX12_findComes 47 = .ok (.if_icmp .ge 81, 3) := by decide +kernel
theorem dX12_findComes_50 : decode cX12_findComes 50 = .ok (.iconst 0, 1) := by decide +kernel
theorem dX12_findComes_51 : decode cX12_findComes 51 = .ok (.istore_n 3, 1) := by decide +kernel
theorem dX12_findComes_52 : decode cX12_findComes 52 = .ok (.iconst 0, 1) := by decide +kernel
theorem dX12_findComes_53 : decode cX12_findComes 53 = .ok (.istore 4, 2) := by decide +kernel
theorem dX12_findComes_55 : decode cX12_findComes 55 = .ok (.iload 4, 2) := by decide +kernel
theorem dX12_findComes_57 : decode cX12_findComes 57 = .ok (.bipush 64, 2) := by decide +kernel
theorem dX12_findComes_59 : decode cX12_findComes 59 = .ok (.if_icmp .ge 51, 3) := by decide +kernel
theorem dX12_findComes_62 : decode cX12_findComes 62 = .ok (.iload_n 3, 1) := by decide +kernel
theorem dX12_findComes_63 : decode cX12_findComes 63 = .ok (.ifCond .ne 35, 3) := by decide +kernel
theorem dX12_findComes_66 : decode cX12_findComes 66 = .ok (.aload_n 0, 1) := by decide +kernel
theorem dX12_findComes_67 : decode cX12_findComes 67 = .ok (.getfield 49, 3) := by decide +kernel
theorem dX12_findComes_70 : decode cX12_findComes 70 = .ok (.bipush 64, 2) := by decide +kernel
theorem dX12_findComes_72 : decode cX12_findComes 72 = .ok (.iload_n 2, 1) := by decide +kernel
theorem dX12_findComes_73 : decode cX12_findComes 73 = .ok (.imul, 1) := by decide +kernel
theorem dX12_findComes_74 : decode cX12_findComes 74 = .ok (.iload 4, 2) := by decide +kernel
theorem dX12_findComes_76 : decode cX12_findComes 76 = .ok (.iadd, 1) := by decide +kernel
theorem dX12_findComes_77 : decode cX12_findComes 77 = .ok (.iaload, 1) := by decide +kernel
theorem dX12_findComes_78 : decode cX12_findComes 78 = .ok (.ifCond .le 24, 3) := by decide +kernel
theorem dX12_findComes_81 : decode cX12_findComes 81 = .ok (.aload_n 0, 1) := by decide +kernel
theorem dX12_findComes_82 : decode cX12_findComes 82 = .ok (.getfield 52, 3) := by decide +kernel
theorem dX12_findComes_85 : decode cX12_findComes 85 = .ok (.bipush 64, 2) := by decide +kernel
theorem dX12_findComes_87 : decode cX12_findComes 87 = .ok (.iload_n 1, 1) := by decide +kernel
theorem dX12_findComes_88 : decode cX12_findComes 88 = .ok (.iconst 1, 1) := by decide +kernel
theorem dX12_findComes_89 : decode cX12_findComes 89 = .ok (.isub, 1) := by decide +kernel
theorem dX12_findComes_90 : decode cX12_findComes 90 = .ok (.imul, 1) := by decide +kernel
theorem dX12_findComes_91 : decode cX12_findComes 91 = .ok (.iload 4, 2) := by decide +kernel
theorem dX12_findComes_93 : decode cX12_findComes 93 = .ok (.iadd, 1) := by decide +kernel
theorem dX12_findComes_94 : decode cX12_findComes 94 = .ok (.baload, 1) := by decide +kernel
theorem dX12_findComes_95 : decode cX12_findComes 95 = .ok (.ifCond .eq 7, 3) := by decide +kernel
theorem dX12_findComes_98 : decode cX12_findComes 98 = .ok (.iconst 1, 1) := by decide +kernel
theorem dX12_findComes_99 : decode cX12_findComes 99 = .ok (.goto 4, 3) := by decide +kernel
theorem dX12_findComes_102 : decode cX12_findComes 102 = .ok (.iconst 0, 1) := by decide +kernel
theorem dX12_findComes_103 : decode cX12_findComes 103 = .ok (.istore_n 3, 1) := by decide +kernel
theorem dX12_findComes_104 : decode cX12_findComes 104 = .ok (.iinc 4 1, 3) := by decide +kernel
theorem dX12_findComes_107 : decode cX12_findComes 107 = .ok (.goto (-52), 3) := by decide +kernel
theorem dX12_findComes_110 : decode cX12_findComes 110 = .ok (.aload_n 0, 1) := by decide +kernel
theorem dX12_findComes_111 : decode cX12_findComes 111 = .ok (.getfield 52, 3) := by decide +kernel
theorem dX12_findComes_114 : decode cX12_findComes 114 = .ok (.bipush 64, 2) := by decide +kernel
theorem dX12_findComes_116 : decode cX12_findComes 116 = .ok (.iload_n 1, 1) := by decide +kernel
theorem dX12_findComes_117 : decode cX12_findComes 117 = .ok (.imul, 1) := by decide +kernel
theorem dX12_findComes_118 : decode cX12_findComes 118 = .ok (.iload_n 2, 1) := by decide +kernel
theorem dX12_findComes_119 : decode cX12_findComes 119 = .ok (.iadd, 1) := by decide +kernel
theorem dX12_findComes_120 : decode cX12_findComes 120 = .ok (.iload_n 3, 1) := by decide +kernel
theorem dX12_findComes_121 : decode cX12_findComes 121 = .ok (.bastore, 1) := by decide +kernel
theorem dX12_findComes_122 : decode cX12_findComes 122 = .ok (.iinc 2 1, 3) := by decide +kernel
theorem dX12_findComes_125 : decode cX12_findComes 125 = .ok (.goto (-81), 3) := by decide +kernel
theorem dX12_findComes_128 : decode cX12_findComes 128 = .ok (.iinc 1 1, 3) := by decide +kernel
theorem dX12_findComes_131 : decode cX12_findComes 131 = .ok (.goto (-95), 3) := by decide +kernel
theorem dX12_findComes_134 : decode cX12_findComes 134 = .ok (.return_, 1) := by decide +kernel
theorem dX12_layTwoWays_0 : decode cX12_layTwoWays 0 = .ok (.iconst (-1), 1) := by decide +kernel
theorem dX12_layTwoWays_1 : decode cX12_layTwoWays 1 = .ok (.istore_n 2, 1) := by decide +kernel
theorem dX12_layTwoWays_2 : decode cX12_layTwoWays 2 = .ok (.iconst 0, 1) := by decide +kernel
theorem dX12_layTwoWays_3 : decode cX12_layTwoWays 3 = .ok (.istore_n 3, 1) := by decide +kernel
theorem dX12_layTwoWays_4 : decode cX12_layTwoWays 4 = .ok (.iload_n 3, 1) := by decide +kernel
theorem dX12_layTwoWays_5 : decode cX12_layTwoWays 5 = .ok (.bipush 64, 2) := by decide +kernel
theorem dX12_layTwoWays_7 : decode cX12_layTwoWays 7 = .ok (.if_icmp .ge 42, 3) := by decide +kernel
theorem dX12_layTwoWays_10 : decode cX12_layTwoWays 10 = .ok (.iload_n 2, 1) := by decide +kernel
theorem dX12_layTwoWays_11 : decode cX12_layTwoWays 11 = .ok (.ifCond .ge 38, 3) := by decide +kernel
theorem dX12_layTwoWays_14 : decode cX12_layTwoWays 14 = .ok (.aload_n 0, 1) := by decide +kernel
theorem dX12_layTwoWays_15 : decode cX12_layTwoWays 15 = .ok (.getfield 46, 3) := by decide +kernel
theorem dX12_layTwoWays_18 : decode cX12_layTwoWays 18 = .ok (.iload_n 3, 1) := by decide +kernel
theorem dX12_layTwoWays_19 : decode cX12_layTwoWays 19 = .ok (.iaload, 1) := by decide +kernel
theorem dX12_layTwoWays_20 : decode cX12_layTwoWays 20 = .ok (.ifCond .le 21, 3) := by decide +kernel
theorem dX12_layTwoWays_23 : decode cX12_layTwoWays 23 = .ok (.aload_n 0, 1) := by decide +kernel
theorem dX12_layTwoWays_24 : decode cX12_layTwoWays 24 = .ok (.getfield 52, 3) := by decide +kernel
theorem dX12_layTwoWays_27 : decode cX12_layTwoWays 27 = .ok (.bipush 64, 2) := by decide +kernel
theorem dX12_layTwoWays_29 : decode cX12_layTwoWays 29 = .ok (.iload_n 1, 1) := by decide +kernel
theorem dX12_layTwoWays_30 : decode cX12_layTwoWays 30 = .ok (.imul, 1) := by decide +kernel
theorem dX12_layTwoWays_31 : decode cX12_layTwoWays 31 = .ok (.iload_n 3, 1) := by decide +kernel
theorem dX12_layTwoWays_32 : decode cX12_layTwoWays 32 = .ok (.iadd, 1) := by decide +kernel
theorem dX12_layTwoWays_33 : decode cX12_layTwoWays 33 = .ok (.baload, 1) := by decide +kernel
theorem dX12_layTwoWays_34 : decode cX12_layTwoWays 34 = .ok (.ifCond .eq 7, 3) := by decide +kernel
theorem dX12_layTwoWays_37 : decode cX12_layTwoWays 37 = .ok (.iload_n 3, 1) := by decide +kernel
theorem dX12_layTwoWays_38 : decode cX12_layTwoWays 38 = .ok (.goto 4, 3) := by decide +kernel
theorem dX12_layTwoWays_41 : decode cX12_layTwoWays 41 = .ok (.iload_n 2, 1) := by decide +kernel
theorem dX12_layTwoWays_42 : decode cX12_layTwoWays 42 = .ok (.istore_n 2, 1) := by decide +kernel
theorem dX12_layTwoWays_43 : decode cX12_layTwoWays 43 = .ok (.iinc 3 1, 3) := by decide +kernel
theorem dX12_layTwoWays_46 : decode cX12_layTwoWays 46 = .ok (.goto (-42), 3) := by decide +kernel
theorem dX12_layTwoWays_49 : decode cX12_layTwoWays 49 = .ok (.iconst (-1), 1) := by decide +kernel
theorem dX12_layTwoWays_50 : decode cX12_layTwoWays 50 = .ok (.istore_n 3, 1) := by decide +kernel
theorem dX12_layTwoWays_51 : decode cX12_layTwoWays 51 = .ok (.iconst 0, 1) := by decide +kernel
theorem dX12_layTwoWays_52 : decode cX12_layTwoWays 52 = .ok (.istore 4, 2) := by decide +kernel
theorem dX12_layTwoWays_54 : decode cX12_layTwoWays 54 = .ok (.iload 4, 2) := by decide +kernel
theorem dX12_layTwoWays_56 : decode cX12_layTwoWays 56 = .ok (.sipush 4096, 3) := by decide +kernel
theorem dX12_layTwoWays_59 : decode cX12_layTwoWays 59 = .ok (.if_icmp .ge 36, 3) := by decide +kernel
theorem dX12_layTwoWays_62 : decode cX12_layTwoWays 62 = .ok (.iload_n 1, 1) := by decide +kernel
theorem dX12_layTwoWays_63 : decode cX12_layTwoWays 63 = .ok (.iconst 1, 1) := by decide +kernel
theorem dX12_layTwoWays_64 : decode cX12_layTwoWays 64 = .ok (.if_icmp .ne 31, 3) := by decide +kernel
theorem dX12_layTwoWays_67 : decode cX12_layTwoWays 67 = .ok (.iload_n 3, 1) := by decide +kernel
theorem dX12_layTwoWays_68 : decode cX12_layTwoWays 68 = .ok (.ifCond .ge 27, 3) := by decide +kernel
theorem dX12_layTwoWays_71 : decode cX12_layTwoWays 71 = .ok (.aload_n 0, 1) := by decide +kernel
theorem dX12_layTwoWays_72 : decode cX12_layTwoWays 72 = .ok (.getfield 49, 3) := by decide +kernel
theorem dX12_layTwoWays_75 : decode cX12_layTwoWays 75 = .ok (.iload 4, 2) := by decide +kernel
theorem dX12_layTwoWays_77 : decode cX12_layTwoWays 77 = .ok (.iaload, 1) := by decide +kernel
theorem dX12_layTwoWays_78 : decode cX12_layTwoWays 78 = .ok (.iconst 1, 1) := by decide +kernel
theorem dX12_layTwoWays_79 : decode cX12_layTwoWays 79 = .ok (.if_icmp .le 8, 3) := by decide +kernel
theorem dX12_layTwoWays_82 : decode cX12_layTwoWays 82 = .ok (.iload 4, 2) := by decide +kernel
theorem dX12_layTwoWays_84 : decode cX12_layTwoWays 84 = .ok (.goto 4, 3) := by decide +kernel
theorem dX12_layTwoWays_87 : decode cX12_layTwoWays 87 = .ok (.iload_n 3, 1) := by decide +kernel
theorem dX12_layTwoWays_88 : decode cX12_layTwoWays 88 = .ok (.istore_n 3, 1) := by decide +kernel
theorem dX12_layTwoWays_89 : decode cX12_layTwoWays 89 = .ok (.iinc 4 1, 3) := by decide +kernel
theorem dX12_layTwoWays_92 : decode cX12_layTwoWays 92 = .ok (.goto (-38), 3) := by decide +kernel
theorem dX12_layTwoWays_95 : decode cX12_layTwoWays 95 = .ok (.iload_n 2, 1) := by decide +kernel
theorem dX12_layTwoWays_96 : decode cX12_layTwoWays 96 = .ok (.ifCond .ge 9, 3) := by decide +kernel
theorem dX12_layTwoWays_99 : decode cX12_layTwoWays 99 = .ok (.iload_n 3, 1) := by decide +kernel
theorem dX12_layTwoWays_100 : decode cX12_layTwoWays 100 = .ok (.ifCond .ge 5, 3) := by decide +kernel
theorem dX12_layTwoWays_103 : decode cX12_layTwoWays 103 = .ok (.iconst 0, 1) := by decide +kernel
theorem dX12_layTwoWays_104 : decode cX12_layTwoWays 104 = .ok (.ireturn, 1) := by decide +kernel
theorem dX12_layTwoWays_105 : decode cX12_layTwoWays 105 = .ok (.iconst 0, 1) := by decide +kernel
theorem dX12_layTwoWays_106 : decode cX12_layTwoWays 106 = .ok (.istore 4, 2) := by decide +kernel
theorem dX12_layTwoWays_108 : decode cX12_layTwoWays 108 = .ok (.iload 4, 2) := by decide +kernel
theorem dX12_layTwoWays_110 : decode cX12_layTwoWays 110 = .ok (.iload_n 1, 1) := by decide +kernel
theorem dX12_layTwoWays_111 : decode cX12_layTwoWays 111 = .ok (.if_icmp .gt 108, 3) := by decide +kernel
theorem dX12_layTwoWays_114 : decode cX12_layTwoWays 114 = .ok (.iload_n 2, 1) := by decide +kernel
theorem dX12_layTwoWays_115 : decode cX12_layTwoWays 115 = .ok (.ifCond .lt 104, 3) := by decide +kernel
theorem dX12_layTwoWays_118 : decode cX12_layTwoWays 118 = .ok (.aload_n 0, 1) := by decide +kernel
theorem dX12_layTwoWays_119 : decode cX12_layTwoWays 119 = .ok (.getfield 56, 3) := by decide +kernel
theorem dX12_layTwoWays_122 : decode cX12_layTwoWays 122 = .ok (.iload 4, 2) := by decide +kernel
theorem dX12_layTwoWays_124 : decode cX12_layTwoWays 124 = .ok (.iload_n 2, 1) := by decide +kernel
theorem dX12_layTwoWays_125 : decode cX12_layTwoWays 125 = .ok (.iastore, 1) := by decide +kernel
theorem dX12_layTwoWays_126 : decode cX12_layTwoWays 126 = .ok (.iconst (-1), 1) := by decide +kernel
theorem dX12_layTwoWays_127 : decode cX12_layTwoWays 127 = .ok (.istore 5, 2) := by decide +kernel
theorem dX12_layTwoWays_129 : decode cX12_layTwoWays 129 = .ok (.iconst 0, 1) := by decide +kernel
theorem dX12_layTwoWays_130 : decode cX12_layTwoWays 130 = .ok (.istore 6, 2) := by decide +kernel
theorem dX12_layTwoWays_132 : decode cX12_layTwoWays 132 = .ok (.iload 6, 2) := by decide +kernel
theorem dX12_layTwoWays_134 : decode cX12_layTwoWays 134 = .ok (.bipush 64, 2) := by decide +kernel
theorem dX12_layTwoWays_136 : decode cX12_layTwoWays 136 = .ok (.if_icmp .ge 64, 3) := by decide +kernel
theorem dX12_layTwoWays_139 : decode cX12_layTwoWays 139 = .ok (.iload 4, 2) := by decide +kernel
theorem dX12_layTwoWays_141 : decode cX12_layTwoWays 141 = .ok (.iload_n 1, 1) := by decide +kernel
theorem dX12_layTwoWays_142 : decode cX12_layTwoWays 142 = .ok (.if_icmp .ge 58, 3) := by decide +kernel
theorem dX12_layTwoWays_145 : decode cX12_layTwoWays 145 = .ok (.iload 5, 2) := by decide +kernel
theorem dX12_layTwoWays_147 : decode cX12_layTwoWays 147 = .ok (.ifCond .ge 53, 3) := by decide +kernel
theorem dX12_layTwoWays_150 : decode cX12_layTwoWays 150 = .ok (.aload_n 0, 1) := by decide +kernel
theorem dX12_layTwoWays_151 : decode cX12_layTwoWays 151 = .ok (.getfield 49, 3) := by decide +kernel
theorem dX12_layTwoWays_154 : decode cX12_layTwoWays 154 = .ok (.bipush 64, 2) := by decide +kernel
theorem dX12_layTwoWays_156 : decode cX12_layTwoWays 156 = .ok (.iload_n 2, 1) := by decide +kernel
theorem dX12_layTwoWays_157 : decode cX12_layTwoWays 157 = .ok (.imul, 1) := by decide +kernel
theorem dX12_layTwoWays_158 : decode cX12_layTwoWays 158 = .ok (.iload 6, 2) := by decide +kernel
theorem dX12_layTwoWays_160 : decode cX12_layTwoWays 160 = .ok (.iadd, 1) := by decide +kernel
theorem dX12_layTwoWays_161 : decode cX12_layTwoWays 161 = .ok (.iaload, 1) := by decide +kernel
theorem dX12_layTwoWays_162 : decode cX12_layTwoWays 162 = .ok (.ifCond .le 28, 3) := by decide +kernel
theorem dX12_layTwoWays_165 : decode cX12_layTwoWays 165 = .ok (.aload_n 0, 1) := by decide +kernel
theorem dX12_layTwoWays_166 : decode cX12_layTwoWays 166 = .ok (.getfield 52, 3) := by decide +kernel
theorem dX12_layTwoWays_169 : decode cX12_layTwoWays 169 = .ok (.bipush 64, 2) := by decide +kernel
theorem dX12_layTwoWays_171 : decode cX12_layTwoWays 171 = .ok (.iload_n 1, 1) := by decide +kernel
theorem dX12_layTwoWays_172 : decode cX12_layTwoWays 172 = .ok (.iload 4, 2) := by decide +kernel
theorem dX12_layTwoWays_174 : decode cX12_layTwoWays 174 = .ok (.isub, 1) := by decide +kernel
theorem dX12_layTwoWays_175 : decode cX12_layTwoWays 175 = .ok (.iconst 1, 1) := by decide +kernel
theorem dX12_layTwoWays_176 : decode cX12_layTwoWays 176 = .ok (.isub, 1) := by decide +kernel
theorem dX12_layTwoWays_177 : decode cX12_layTwoWays 177 = .ok (.imul, 1) := by decide +kernel
theorem dX12_layTwoWays_178 : decode cX12_layTwoWays 178 = .ok (.iload 6, 2) := by decide +kernel
theorem dX12_layTwoWays_180 : decode cX12_layTwoWays 180 = .ok (.iadd, 1) := by decide +kernel
theorem dX12_layTwoWays_181 : decode cX12_layTwoWays 181 = .ok (.baload, 1) := by decide +kernel
theorem dX12_layTwoWays_182 : decode cX12_layTwoWays 182 = .ok (.ifCond .eq 8, 3) := by decide +kernel
theorem dX12_layTwoWays_185 : decode cX12_layTwoWays 185 = .ok (.iload 6, 2) := by decide +kernel
theorem dX12_layTwoWays_187 : decode cX12_layTwoWays 187 = .ok (.goto 5, 3) := by decide +kernel
theorem dX12_layTwoWays_190 : decode cX12_layTwoWays 190 = .ok (.iload 5, 2) := by decide +kernel
theorem dX12_layTwoWays_192 : decode cX12_layTwoWays 192 = .ok (.istore 5, 2) := by decide +kernel
theorem dX12_layTwoWays_194 : decode cX12_layTwoWays 194 = .ok (.iinc 6 1, 3) := by decide +kernel
theorem dX12_layTwoWays_197 : decode cX12_layTwoWays 197 = .ok (.goto (-65), 3) := by decide +kernel
theorem dX12_layTwoWays_200 : decode cX12_layTwoWays 200 = .ok (.iload 4, 2) := by decide +kernel
theorem dX12_layTwoWays_202 : decode cX12_layTwoWays 202 = .ok (.iload_n 1, 1) := by decide +kernel
theorem dX12_layTwoWays_203 : decode cX12_layTwoWays 203 = .ok (.if_icmp .ge 8, 3) := by decide +kernel
theorem dX12_layTwoWays_206 : decode cX12_layTwoWays 206 = .ok (.iload 5, 2) := by decide +kernel
theorem dX12_layTwoWays_208 : decode cX12_layTwoWays 208 = .ok (.goto 4, 3) := by decide +kernel
theorem dX12_layTwoWays_211 : decode cX12_layTwoWays 211 = .ok (.iload_n 2, 1) := by decide +kernel
theorem dX12_layTwoWays_212 : decode cX12_layTwoWays 212 = .ok (.istore_n 2, 1) := by decide +kernel
theorem dX12_layTwoWays_213 : decode cX12_layTwoWays 213 = .ok (.iinc 4 1, 3) := by decide +kernel
theorem dX12_layTwoWays_216 : decode cX12_layTwoWays 216 = .ok (.goto (-108), 3) := by decide +kernel
theorem dX12_layTwoWays_219 : decode cX12_layTwoWays 219 = .ok (.iload_n 3, 1) := by decide +kernel
theorem dX12_layTwoWays_220 : decode cX12_layTwoWays 220 = .ok (.ifCond .lt 47, 3) := by decide +kernel
theorem dX12_layTwoWays_223 : decode cX12_layTwoWays 223 = .ok (.iload_n 2, 1) := by decide +kernel
theorem dX12_layTwoWays_224 : decode cX12_layTwoWays 224 = .ok (.ifCond .lt 23, 3) := by decide +kernel
theorem dX12_layTwoWays_227 : decode cX12_layTwoWays 227 = .ok (.iload_n 3, 1) := by decide +kernel
theorem dX12_layTwoWays_228 : decode cX12_layTwoWays 228 = .ok (.bipush 64, 2) := by decide +kernel
theorem dX12_layTwoWays_230 : decode cX12_layTwoWays 230 = .ok (.aload_n 0, 1) := by decide +kernel
theorem dX12_layTwoWays_231 : decode cX12_layTwoWays 231 = .ok (.getfield 56, 3) := by decide +kernel
theorem dX12_layTwoWays_234 : decode cX12_layTwoWays 234 = .ok (.iconst 0, 1) := by decide +kernel
theorem dX12_layTwoWays_235 : decode cX12_layTwoWays 235 = .ok (.iaload, 1) := by decide +kernel
theorem dX12_layTwoWays_236 : decode cX12_layTwoWays 236 = .ok (.imul, 1) := by decide +kernel
theorem dX12_layTwoWays_237 : decode cX12_layTwoWays 237 = .ok (.aload_n 0, 1) := by decide +kernel
theorem dX12_layTwoWays_238 : decode cX12_layTwoWays 238 = .ok (.getfield 56, 3) := by decide +kernel
theorem dX12_layTwoWays_241 : decode cX12_layTwoWays 241 = .ok (.iconst 1, 1) := by decide +kernel
theorem dX12_layTwoWays_242 : decode cX12_layTwoWays 242 = .ok (.iaload, 1) := by decide +kernel
theorem dX12_layTwoWays_243 : decode cX12_layTwoWays 243 = .ok (.iadd, 1) := by decide +kernel
theorem dX12_layTwoWays_244 : decode cX12_layTwoWays 244 = .ok (.if_icmp .ge 23, 3) := by decide +kernel
theorem dX12_layTwoWays_247 : decode cX12_layTwoWays 247 = .ok (.aload_n 0, 1) := by decide +kernel
theorem dX12_layTwoWays_248 : decode cX12_layTwoWays 248 = .ok (.getfield 56, 3) := by decide +kernel
theorem dX12_layTwoWays_251 : decode cX12_layTwoWays 251 = .ok (.iconst 0, 1) := by decide +kernel
theorem dX12_layTwoWays_252 : decode cX12_layTwoWays 252 = .ok (.iload_n 3, 1) := by decide +kernel
theorem dX12_layTwoWays_253 : decode cX12_layTwoWays 253 = .ok (.bipush 64, 2) := by decide +kernel
theorem dX12_layTwoWays_255 : decode cX12_layTwoWays 255 = .ok (.idiv, 1) := by decide +kernel
theorem dX12_layTwoWays_256 : decode cX12_layTwoWays 256 = .ok (.iastore, 1) := by decide +kernel
theorem dX12_layTwoWays_257 : decode cX12_layTwoWays 257 = .ok (.aload_n 0, 1) := by decide +kernel
theorem dX12_layTwoWays_258 : decode cX12_layTwoWays 258 = .ok (.getfield 56, 3) := by decide +kernel
theorem dX12_layTwoWays_261 : decode cX12_layTwoWays 261 = .ok (.iconst 1, 1) := by decide +kernel
theorem dX12_layTwoWays_262 : decode cX12_layTwoWays 262 = .ok (.iload_n 3, 1) := by decide +kernel
theorem dX12_layTwoWays_263 : decode cX12_layTwoWays 263 = .ok (.bipush 64, 2) := by decide +kernel
theorem dX12_layTwoWays_265 : decode cX12_layTwoWays 265 = .ok (.irem, 1) := by decide +kernel
theorem dX12_layTwoWays_266 : decode cX12_layTwoWays 266 = .ok (.iastore, 1) := by decide +kernel
theorem dX12_layTwoWays_267 : decode cX12_layTwoWays 267 = .ok (.iconst 1, 1) := by decide +kernel
theorem dX12_layTwoWays_268 : decode cX12_layTwoWays 268 = .ok (.ireturn, 1) := by decide +kernel
theorem dX12_findTwoWays_0 : decode cX12_findTwoWays 0 = .ok (.aload_n 0, 1) := by decide +kernel
theorem dX12_findTwoWays_1 : decode cX12_findTwoWays 1 = .ok (.iload_n 1, 1) := by decide +kernel
theorem dX12_findTwoWays_2 : decode cX12_findTwoWays 2 = .ok (.invokevirtual 201, 3) := by decide +kernel
theorem dX12_findTwoWays_5 : decode cX12_findTwoWays 5 = .ok (.iconst 0, 1) := by decide +kernel
theorem dX12_findTwoWays_6 : decode cX12_findTwoWays 6 = .ok (.istore_n 2, 1) := by decide +kernel
theorem dX12_findTwoWays_7 : decode cX12_findTwoWays 7 = .ok (.iload_n 2, 1) := by decide +kernel
theorem dX12_findTwoWays_8 : decode cX12_findTwoWays 8 = .ok (.bipush 64, 2) := by decide +kernel
theorem dX12_findTwoWays_10 : decode cX12_findTwoWays 10 = .ok (.if_icmp .ge 28, 3) := by decide +kernel
theorem dX12_findTwoWays_13 : decode cX12_findTwoWays 13 = .ok (.aload_n 0, 1) := by decide +kernel
theorem dX12_findTwoWays_14 : decode cX12_findTwoWays 14 = .ok (.getfield 46, 3) := by decide +kernel
theorem dX12_findTwoWays_17 : decode cX12_findTwoWays 17 = .ok (.iload_n 2, 1) := by decide +kernel
theorem dX12_findTwoWays_18 : decode cX12_findTwoWays 18 = .ok (.iaload, 1) := by decide +kernel
theorem dX12_findTwoWays_19 : decode cX12_findTwoWays 19 = .ok (.iconst 1, 1) := by decide +kernel
theorem dX12_findTwoWays_20 : decode cX12_findTwoWays 20 = .ok (.if_icmp .le 12, 3) := by decide +kernel
theorem dX12_findTwoWays_23 : decode cX12_findTwoWays 23 = .ok (.aload_n 0, 1) := by decide +kernel
theorem dX12_findTwoWays_24 : decode cX12_findTwoWays 24 = .ok (.getfield 56, 3) := by decide +kernel
theorem dX12_findTwoWays_27 : decode cX12_findTwoWays 27 = .ok (.iconst 0, 1) := by decide +kernel
theorem dX12_findTwoWays_28 : decode cX12_findTwoWays 28 = .ok (.iload_n 2, 1) := by decide +kernel
theorem dX12_findTwoWays_29 : decode cX12_findTwoWays 29 = .ok (.iastore, 1) := by decide +kernel
theorem dX12_findTwoWays_30 : decode cX12_findTwoWays 30 = .ok (.iconst 1, 1) := by decide +kernel
theorem dX12_findTwoWays_31 : decode cX12_findTwoWays 31 = .ok (.ireturn, 1) := by decide +kernel
theorem dX12_findTwoWays_32 : decode cX12_findTwoWays 32 = .ok (.iinc 2 1, 3) := by decide +kernel
theorem dX12_findTwoWays_35 : decode cX12_findTwoWays 35 = .ok (.goto (-28), 3) := by decide +kernel
theorem dX12_findTwoWays_38 : decode cX12_findTwoWays 38 = .ok (.aload_n 0, 1) := by decide +kernel
theorem dX12_findTwoWays_39 : decode cX12_findTwoWays 39 = .ok (.invokevirtual 204, 3) := by decide +kernel
theorem dX12_findTwoWays_42 : decode cX12_findTwoWays 42 = .ok (.iconst 1, 1) := by decide +kernel
theorem dX12_findTwoWays_43 : decode cX12_findTwoWays 43 = .ok (.istore_n 2, 1) := by decide +kernel
theorem dX12_findTwoWays_44 : decode cX12_findTwoWays 44 = .ok (.iload_n 2, 1) := by decide +kernel
theorem dX12_findTwoWays_45 : decode cX12_findTwoWays 45 = .ok (.bipush 15, 2) := by decide +kernel
theorem dX12_findTwoWays_47 : decode cX12_findTwoWays 47 = .ok (.if_icmp .ge 21, 3) := by decide +kernel
theorem dX12_findTwoWays_50 : decode cX12_findTwoWays 50 = .ok (.aload_n 0, 1) := by decide +kernel
theorem dX12_findTwoWays_51 : decode cX12_findTwoWays 51 = .ok (.iload_n 2, 1) := by decide +kernel
theorem dX12_findTwoWays_52 : decode cX12_findTwoWays 52 = .ok (.invokevirtual 207, 3) := by decide +kernel
theorem dX12_findTwoWays_55 : decode cX12_findTwoWays 55 = .ok (.ifCond .eq 7, 3) := by decide +kernel
theorem dX12_findTwoWays_58 : decode cX12_findTwoWays 58 = .ok (.iload_n 2, 1) := by decide +kernel
theorem dX12_findTwoWays_59 : decode cX12_findTwoWays 59 = .ok (.iconst 1, 1) := by decide +kernel
theorem dX12_findTwoWays_60 : decode cX12_findTwoWays 60 = .ok (.iadd, 1) := by decide +kernel
theorem dX12_findTwoWays_61 : decode cX12_findTwoWays 61 = .ok (.ireturn, 1) := by decide +kernel
theorem dX12_findTwoWays_62 : decode cX12_findTwoWays 62 = .ok (.iinc 2 1, 3) := by decide +kernel
theorem dX12_findTwoWays_65 : decode cX12_findTwoWays 65 = .ok (.goto (-21), 3) := by decide +kernel
theorem dX12_findTwoWays_68 : decode cX12_findTwoWays 68 = .ok (.iconst 0, 1) := by decide +kernel
theorem dX12_findTwoWays_69 : decode cX12_findTwoWays 69 = .ok (.ireturn, 1) := by decide +kernel
theorem dX12_ways_0 : decode cX12_ways 0 = .ok (.iload_n 1, 1) := by decide +kernel
theorem dX12_ways_1 : decode cX12_ways 1 = .ok (.invokestatic 121, 3) := by decide +kernel
theorem dX12_ways_4 : decode cX12_ways 4 = .ok (.ifCond .ne 5, 3) := by decide +kernel
theorem dX12_ways_7 : decode cX12_ways 7 = .ok (.iconst (-1), 1) := by decide +kernel
theorem dX12_ways_8 : decode cX12_ways 8 = .ok (.ireturn, 1) := by decide +kernel
theorem dX12_ways_9 : decode cX12_ways 9 = .ok (.aload_n 0, 1) := by decide +kernel
theorem dX12_ways_10 : decode cX12_ways 10 = .ok (.iload_n 1, 1) := by decide +kernel
theorem dX12_ways_11 : decode cX12_ways 11 = .ok (.invokevirtual 210, 3) := by decide +kernel
theorem dX12_ways_14 : decode cX12_ways 14 = .ok (.istore_n 3, 1) := by decide +kernel
theorem dX12_ways_15 : decode cX12_ways 15 = .ok (.iload_n 2, 1) := by decide +kernel
theorem dX12_ways_16 : decode cX12_ways 16 = .ok (.iconst (-1), 1) := by decide +kernel
theorem dX12_ways_17 : decode cX12_ways 17 = .ok (.if_icmp .ne 7, 3) := by decide +kernel
theorem dX12_ways_20 : decode cX12_ways 20 = .ok (.iload_n 3, 1) := by decide +kernel
theorem dX12_ways_21 : decode cX12_ways 21 = .ok (.goto 27, 3) := by decide +kernel
theorem dX12_ways_24 : decode cX12_ways 24 = .ok (.iload_n 2, 1) := by decide +kernel
theorem dX12_ways_25 : decode cX12_ways 25 = .ok (.i2l, 1) := by decide +kernel
theorem dX12_ways_26 : decode cX12_ways 26 = .ok (.lconst 0, 1) := by decide +kernel
theorem dX12_ways_27 : decode cX12_ways 27 = .ok (.iload_n 3, 1) := by decide +kernel
theorem dX12_ways_28 : decode cX12_ways 28 = .ok (.iconst 1, 1) := by decide +kernel
theorem dX12_ways_29 : decode cX12_ways 29 = .ok (.isub, 1) := by decide +kernel
theorem dX12_ways_30 : decode cX12_ways 30 = .ok (.i2l, 1) := by decide +kernel
theorem dX12_ways_31 : decode cX12_ways 31 = .ok (.invokestatic 115, 3) := by decide +kernel
theorem dX12_ways_34 : decode cX12_ways 34 = .ok (.ifCond .eq 12, 3) := by decide +kernel
theorem dX12_ways_37 : decode cX12_ways 37 = .ok (.aload_n 0, 1) := by decide +kernel
theorem dX12_ways_38 : decode cX12_ways 38 = .ok (.getfield 56, 3) := by decide +kernel
theorem dX12_ways_41 : decode cX12_ways 41 = .ok (.iload_n 2, 1) := by decide +kernel
theorem dX12_ways_42 : decode cX12_ways 42 = .ok (.iaload, 1) := by decide +kernel
theorem dX12_ways_43 : decode cX12_ways 43 = .ok (.goto 5, 3) := by decide +kernel
theorem dX12_ways_46 : decode cX12_ways 46 = .ok (.bipush (-6), 2) := by decide +kernel
theorem dX12_ways_48 : decode cX12_ways 48 = .ok (.ireturn, 1) := by decide +kernel
theorem dX12_word_0 : decode cX12_word 0 = .ok (.aload_n 0, 1) := by decide +kernel
theorem dX12_word_1 : decode cX12_word 1 = .ok (.getfield 213, 3) := by decide +kernel
theorem dX12_word_4 : decode cX12_word 4 = .ok (.bipush 30, 2) := by decide +kernel
theorem dX12_word_6 : decode cX12_word 6 = .ok (.if_icmp .ne 6, 3) := by decide +kernel
theorem dX12_word_9 : decode cX12_word 9 = .ok (.bipush (-4), 2) := by decide +kernel
theorem dX12_word_11 : decode cX12_word 11 = .ok (.ireturn, 1) := by decide +kernel
theorem dX12_word_12 : decode cX12_word 12 = .ok (.aload_n 0, 1) := by decide +kernel
theorem dX12_word_13 : decode cX12_word 13 = .ok (.getfield 130, 3) := by decide +kernel
theorem dX12_word_16 : decode cX12_word 16 = .ok (.ifCond .ne 6, 3) := by decide +kernel
theorem dX12_word_19 : decode cX12_word 19 = .ok (.bipush (-5), 2) := by decide +kernel
theorem dX12_word_21 : decode cX12_word 21 = .ok (.ireturn, 1) := by decide +kernel
theorem dX12_word_22 : decode cX12_word 22 = .ok (.iconst 0, 1) := by decide +kernel
theorem dX12_word_23 : decode cX12_word 23 = .ok (.istore_n 1, 1) := by decide +kernel
theorem dX12_word_24 : decode cX12_word 24 = .ok (.iload_n 1, 1) := by decide +kernel
theorem dX12_word_25 : decode cX12_word 25 = .ok (.aload_n 0, 1) := by decide +kernel
theorem dX12_word_26 : decode cX12_word 26 = .ok (.getfield 130, 3) := by decide +kernel
theorem dX12_word_29 : decode cX12_word 29 = .ok (.if_icmp .ge 29, 3) := by decide +kernel
theorem dX12_word_32 : decode cX12_word 32 = .ok (.aload_n 0, 1) := by decide +kernel
theorem dX12_word_33 : decode cX12_word 33 = .ok (.getfield 59, 3) := by decide +kernel
theorem dX12_word_36 : decode cX12_word 36 = .ok (.bipush 10, 2) := by decide +kernel
theorem dX12_word_38 : decode cX12_word 38 = .ok (.aload_n 0, 1) := by decide +kernel
theorem dX12_word_39 : decode cX12_word 39 = .ok (.getfield 213, 3) := by decide +kernel
theorem dX12_word_42 : decode cX12_word 42 = .ok (.imul, 1) := by decide +kernel
theorem dX12_word_43 : decode cX12_word 43 = .ok (.iload_n 1, 1) := by decide +kernel
theorem dX12_word_44 : decode cX12_word 44 = .ok (.iadd, 1) := by decide +kernel
theorem dX12_word_45 : decode cX12_word 45 = .ok (.aload_n 0, 1) := by decide +kernel
theorem dX12_word_46 : decode cX12_word 46 = .ok (.getfield 28, 3) := by decide +kernel
theorem dX12_word_49 : decode cX12_word 49 = .ok (.iload_n 1, 1) := by decide +kernel
theorem dX12_word_50 : decode cX12_word 50 = .ok (.iaload, 1) := by decide +kernel
theorem dX12_word_51 : decode cX12_word 51 = .ok (.iastore, 1) := by decide +kernel
theorem dX12_word_52 : decode cX12_word 52 = .ok (.iinc 1 1, 3) := by decide +kernel
theorem dX12_word_55 : decode cX12_word 55 = .ok (.goto (-31), 3) := by decide +kernel
theorem dX12_word_58 : decode cX12_word 58 = .ok (.aload_n 0, 1) := by decide +kernel
theorem dX12_word_59 : decode cX12_word 59 = .ok (.getfield 62, 3) := by decide +kernel
theorem dX12_word_62 : decode cX12_word 62 = .ok (.aload_n 0, 1) := by decide +kernel
theorem dX12_word_63 : decode cX12_word 63 = .ok (.getfield 213, 3) := by decide +kernel
theorem dX12_word_66 : decode cX12_word 66 = .ok (.aload_n 0, 1) := by decide +kernel
theorem dX12_word_67 : decode cX12_word 67 = .ok (.getfield 130, 3) := by decide +kernel
theorem dX12_word_70 : decode cX12_word 70 = .ok (.iastore, 1) := by decide +kernel
theorem dX12_word_71 : decode cX12_word 71 = .ok (.aload_n 0, 1) := by decide +kernel
theorem dX12_word_72 : decode cX12_word 72 = .ok (.iconst 0, 1) := by decide +kernel
theorem dX12_word_73 : decode cX12_word 73 = .ok (.putfield 130, 3) := by decide +kernel
theorem dX12_word_76 : decode cX12_word 76 = .ok (.aload_n 0, 1) := by decide +kernel
theorem dX12_word_77 : decode cX12_word 77 = .ok (.dup, 1) := by decide +kernel
theorem dX12_word_78 : decode cX12_word 78 = .ok (.getfield 213, 3) := by decide +kernel
theorem dX12_word_81 : decode cX12_word 81 = .ok (.iconst 1, 1) := by decide +kernel
theorem dX12_word_82 : decode cX12_word 82 = .ok (.iadd, 1) := by decide +kernel
theorem dX12_word_83 : decode cX12_word 83 = .ok (.putfield 213, 3) := by decide +kernel
theorem dX12_word_86 : decode cX12_word 86 = .ok (.aload_n 0, 1) := by decide +kernel
theorem dX12_word_87 : decode cX12_word 87 = .ok (.getfield 213, 3) := by decide +kernel
theorem dX12_word_90 : decode cX12_word 90 = .ok (.iconst 1, 1) := by decide +kernel
theorem dX12_word_91 : decode cX12_word 91 = .ok (.isub, 1) := by decide +kernel
theorem dX12_word_92 : decode cX12_word 92 = .ok (.ireturn, 1) := by decide +kernel
theorem dX12_isBook_0 : decode cX12_isBook 0 = .ok (.iload_n 0, 1) := by decide +kernel
theorem dX12_isBook_1 : decode cX12_isBook 1 = .ok (.i2l, 1) := by decide +kernel
theorem dX12_isBook_2 : decode cX12_isBook 2 = .ok (.lconst 0, 1) := by decide +kernel
theorem dX12_isBook_3 : decode cX12_isBook 3 = .ok (.ldc2_w 216, 3) := by decide +kernel
theorem dX12_isBook_6 : decode cX12_isBook 6 = .ok (.invokestatic 115, 3) := by decide +kernel
theorem dX12_isBook_9 : decode cX12_isBook 9 = .ok (.ireturn, 1) := by decide +kernel
theorem dX12_count_0 : decode cX12_count 0 = .ok (.iload_n 1, 1) := by decide +kernel
theorem dX12_count_1 : decode cX12_count 1 = .ok (.invokestatic 218, 3) := by decide +kernel
theorem dX12_count_4 : decode cX12_count 4 = .ok (.ifCond .eq 19, 3) := by decide +kernel
theorem dX12_count_7 : decode cX12_count 7 = .ok (.iload_n 2, 1) := by decide +kernel
theorem dX12_count_8 : decode cX12_count 8 = .ok (.i2l, 1) := by decide +kernel
theorem dX12_count_9 : decode cX12_count 9 = .ok (.lconst 0, 1) := by decide +kernel
theorem dX12_count_10 : decode cX12_count 10 = .ok (.aload_n 0, 1) := by decide +kernel
theorem dX12_count_11 : decode cX12_count 11 = .ok (.getfield 213, 3) := by decide +kernel
theorem dX12_count_14 : decode cX12_count 14 = .ok (.iconst 1, 1) := by decide +kernel
theorem dX12_count_15 : decode cX12_count 15 = .ok (.isub, 1) := by decide +kernel
theorem dX12_count_16 : decode cX12_count 16 = .ok (.i2l, 1) := by decide +kernel
theorem dX12_count_17 : decode cX12_count 17 = .ok (.invokestatic 115, 3) := by decide +kernel
theorem dX12_count_20 : decode cX12_count 20 = .ok (.ifCond .ne 5, 3) := by decide +kernel
theorem dX12_count_23 : decode cX12_count 23 = .ok (.iconst (-1), 1) := by decide +kernel
theorem dX12_count_24 : decode cX12_count 24 = .ok (.ireturn, 1) := by decide +kernel
theorem dX12_count_25 : decode cX12_count 25 = .ok (.iload_n 3, 1) := by decide +kernel
theorem dX12_count_26 : decode cX12_count 26 = .ok (.i2l, 1) := by decide +kernel
theorem dX12_count_27 : decode cX12_count 27 = .ok (.lconst 0, 1) := by decide +kernel
theorem dX12_count_28 : decode cX12_count 28 = .ok (.ldc2_w 221, 3) := by decide +kernel
theorem dX12_count_31 : decode cX12_count 31 = .ok (.invokestatic 115, 3) := by decide +kernel
theorem dX12_count_34 : decode cX12_count 34 = .ok (.ifCond .ne 6, 3) := by decide +kernel
theorem dX12_count_37 : decode cX12_count 37 = .ok (.bipush (-2), 2) := by decide +kernel
theorem dX12_count_39 : decode cX12_count 39 = .ok (.ireturn, 1) := by decide +kernel
theorem dX12_count_40 : decode cX12_count 40 = .ok (.aload_n 0, 1) := by decide +kernel
theorem dX12_count_41 : decode cX12_count 41 = .ok (.getfield 65, 3) := by decide +kernel
theorem dX12_count_44 : decode cX12_count 44 = .ok (.bipush 30, 2) := by decide +kernel
theorem dX12_count_46 : decode cX12_count 46 = .ok (.iload_n 1, 1) := by decide +kernel
theorem dX12_count_47 : decode cX12_count 47 = .ok (.imul, 1) := by decide +kernel
theorem dX12_count_48 : decode cX12_count 48 = .ok (.iload_n 2, 1) := by decide +kernel
theorem dX12_count_49 : decode cX12_count 49 = .ok (.iadd, 1) := by decide +kernel
theorem dX12_count_50 : decode cX12_count 50 = .ok (.iaload, 1) := by decide +kernel
theorem dX12_count_51 : decode cX12_count 51 = .ok (.istore 4, 2) := by decide +kernel
theorem dX12_count_53 : decode cX12_count 53 = .ok (.aload_n 0, 1) := by decide +kernel
theorem dX12_count_54 : decode cX12_count 54 = .ok (.getfield 65, 3) := by decide +kernel
theorem dX12_count_57 : decode cX12_count 57 = .ok (.bipush 30, 2) := by decide +kernel
theorem dX12_count_59 : decode cX12_count 59 = .ok (.iload_n 1, 1) := by decide +kernel
theorem dX12_count_60 : decode cX12_count 60 = .ok (.imul, 1) := by decide +kernel
theorem dX12_count_61 : decode cX12_count 61 = .ok (.iload_n 2, 1) := by decide +kernel
theorem dX12_count_62 : decode cX12_count 62 = .ok (.iadd, 1) := by decide +kernel
theorem dX12_count_63 : decode cX12_count 63 = .ok (.iload_n 3, 1) := by decide +kernel
theorem dX12_count_64 : decode cX12_count 64 = .ok (.iastore, 1) := by decide +kernel
theorem dX12_count_65 : decode cX12_count 65 = .ok (.iload 4, 2) := by decide +kernel
theorem dX12_count_67 : decode cX12_count 67 = .ok (.ireturn, 1) := by decide +kernel
theorem dX12_layWord_0 : decode cX12_layWord 0 = .ok (.aload_n 0, 1) := by decide +kernel
theorem dX12_layWord_1 : decode cX12_layWord 1 = .ok (.aload_n 0, 1) := by decide +kernel
theorem dX12_layWord_2 : decode cX12_layWord 2 = .ok (.getfield 62, 3) := by decide +kernel
theorem dX12_layWord_5 : decode cX12_layWord 5 = .ok (.iload_n 1, 1) := by decide +kernel
theorem dX12_layWord_6 : decode cX12_layWord 6 = .ok (.iaload, 1) := by decide +kernel
theorem dX12_layWord_7 : decode cX12_layWord 7 = .ok (.putfield 161, 3) := by decide +kernel
theorem dX12_layWord_10 : decode cX12_layWord 10 = .ok (.iconst 0, 1) := by decide +kernel
theorem dX12_layWord_11 : decode cX12_layWord 11 = .ok (.istore_n 2, 1) := by decide +kernel
theorem dX12_layWord_12 : decode cX12_layWord 12 = .ok (.iload_n 2, 1) := by decide +kernel
theorem dX12_layWord_13 : decode cX12_layWord 13 = .ok (.aload_n 0, 1) := by decide +kernel
theorem dX12_layWord_14 : decode cX12_layWord 14 = .ok (.getfield 161, 3) := by decide +kernel
theorem dX12_layWord_17 : decode cX12_layWord 17 = .ok (.if_icmp .ge 26, 3) := by decide +kernel
theorem dX12_layWord_20 : decode cX12_layWord 20 = .ok (.aload_n 0, 1) := by decide +kernel
theorem dX12_layWord_21 : decode cX12_layWord 21 = .ok (.getfield 34, 3) := by decide +kernel
theorem dX12_layWord_24 : decode cX12_layWord 24 = .ok (.iload_n 2, 1) := by decide +kernel
theorem dX12_layWord_25 : decode cX12_layWord 25 = .ok (.aload_n 0, 1) := by decide +kernel
theorem dX12_layWord_26 : decode cX12_layWord 26 = .ok (.getfield 59, 3) := by decide +kernel
theorem dX12_layWord_29 : decode cX12_layWord 29 = .ok (.bipush 10, 2) := by decide +kernel
theorem dX12_layWord_31 : decode cX12_layWord 31 = .ok (.iload_n 1, 1) := by decide +kernel
theorem dX12_layWord_32 : decode cX12_layWord 32 = .ok (.imul, 1) := by decide +kernel
theorem dX12_layWord_33 : decode cX12_layWord 33 = .ok (.iload_n 2, 1) := by decide +kernel
theorem dX12_layWord_34 : decode cX12_layWord 34 = .ok (.iadd, 1) := by decide +kernel
theorem dX12_layWord_35 : decode cX12_layWord 35 = .ok (.iaload, 1) := by decide +kernel
theorem dX12_layWord_36 : decode cX12_layWord 36 = .ok (.iastore, 1) := by decide +kernel
theorem dX12_layWord_37 : decode cX12_layWord 37 = .ok (.iinc 2 1, 3) := by decide +kernel
theorem dX12_layWord_40 : decode cX12_layWord 40 = .ok (.goto (-28), 3) := by decide +kernel
theorem dX12_layWord_43 : decode cX12_layWord 43 = .ok (.return_, 1) := by decide +kernel
theorem dX12_findRoom_0 : decode cX12_findRoom 0 = .ok (.aload_n 0, 1) := by decide +kernel
theorem dX12_findRoom_1 : decode cX12_findRoom 1 = .ok (.iconst 0, 1) := by decide +kernel
theorem dX12_findRoom_2 : decode cX12_findRoom 2 = .ok (.putfield 223, 3) := by decide +kernel
theorem dX12_findRoom_5 : decode cX12_findRoom 5 = .ok (.aload_n 0, 1) := by decide +kernel
theorem dX12_findRoom_6 : decode cX12_findRoom 6 = .ok (.iconst 0, 1) := by decide +kernel
theorem dX12_findRoom_7 : decode cX12_findRoom 7 = .ok (.putfield 226, 3) := by decide +kernel
theorem dX12_findRoom_10 : decode cX12_findRoom 10 = .ok (.iconst 0, 1) := by decide +kernel
theorem dX12_findRoom_11 : decode cX12_findRoom 11 = .ok (.istore_n 3, 1) := by decide +kernel
theorem dX12_findRoom_12 : decode cX12_findRoom 12 = .ok (.iload_n 3, 1) := by decide +kernel
theorem dX12_findRoom_13 : decode cX12_findRoom 13 = .ok (.aload_n 0, 1) := by decide +kernel
theorem dX12_findRoom_14 : decode cX12_findRoom 14 = .ok (.getfield 213, 3) := by decide +kernel
theorem dX12_findRoom_17 : decode cX12_findRoom 17 = .ok (.if_icmp .ge 86, 3) := by decide +kernel
theorem dX12_findRoom_20 : decode cX12_findRoom 20 = .ok (.aload_n 0, 1) := by decide +kernel
theorem dX12_findRoom_21 : decode cX12_findRoom 21 = .ok (.getfield 65, 3) := by decide +kernel
theorem dX12_findRoom_24 : decode cX12_findRoom 24 = .ok (.bipush 30, 2) := by decide +kernel
theorem dX12_findRoom_26 : decode cX12_findRoom 26 = .ok (.iload_n 1, 1) := by decide +kernel
theorem dX12_findRoom_27 : decode cX12_findRoom 27 = .ok (.imul, 1) := by decide +kernel
theorem dX12_findRoom_28 : decode cX12_findRoom 28 = .ok (.iload_n 3, 1) := by decide +kernel
theorem dX12_findRoom_29 : decode cX12_findRoom 29 = .ok (.iadd, 1) := by decide +kernel
theorem dX12_findRoom_30 : decode cX12_findRoom 30 = .ok (.iaload, 1) := by decide +kernel
theorem dX12_findRoom_31 : decode cX12_findRoom 31 = .ok (.istore 4, 2) := by decide +kernel
theorem dX12_findRoom_33 : decode cX12_findRoom 33 = .ok (.iload 4, 2) := by decide +kernel
theorem dX12_findRoom_35 : decode cX12_findRoom 35 = .ok (.ifCond .le 62, 3) := by decide +kernel
theorem dX12_findRoom_38 : decode cX12_findRoom 38 = .ok (.aload_n 0, 1) := by decide +kernel
theorem dX12_findRoom_39 : decode cX12_findRoom 39 = .ok (.iload_n 3, 1) := by decide +kernel
theorem dX12_findRoom_40 : decode cX12_findRoom 40 = .ok (.invokevirtual 229, 3) := by decide +kernel
theorem dX12_findRoom_43 : decode cX12_findRoom 43 = .ok (.aload_n 0, 1) := by decide +kernel
theorem dX12_findRoom_44 : decode cX12_findRoom 44 = .ok (.iload_n 2, 1) := by decide +kernel
theorem dX12_findRoom_45 : decode cX12_findRoom 45 = .ok (.invokevirtual 187, 3) := by decide +kernel
theorem dX12_findRoom_48 : decode cX12_findRoom 48 = .ok (.ifCond .ne 5, 3) := by decide +kernel
theorem dX12_findRoom_51 : decode cX12_findRoom 51 = .ok (.iconst 0, 1) := by decide +kernel
theorem dX12_findRoom_52 : decode cX12_findRoom 52 = .ok (.ireturn, 1) := by decide +kernel
theorem dX12_findRoom_53 : decode cX12_findRoom 53 = .ok (.aload_n 0, 1) := by decide +kernel
theorem dX12_findRoom_54 : decode cX12_findRoom 54 = .ok (.dup, 1) := by decide +kernel
theorem dX12_findRoom_55 : decode cX12_findRoom 55 = .ok (.getfield 223, 3) := by decide +kernel
theorem dX12_findRoom_58 : decode cX12_findRoom 58 = .ok (.iload 4, 2) := by decide +kernel
theorem dX12_findRoom_60 : decode cX12_findRoom 60 = .ok (.aload_n 0, 1) := by decide +kernel
theorem dX12_findRoom_61 : decode cX12_findRoom 61 = .ok (.getfield 37, 3) := by decide +kernel
theorem dX12_findRoom_64 : decode cX12_findRoom 64 = .ok (.iconst 0, 1) := by decide +kernel
theorem dX12_findRoom_65 : decode cX12_findRoom 65 = .ok (.iaload, 1) := by decide +kernel
theorem dX12_findRoom_66 : decode cX12_findRoom 66 = .ok (.sipush 1000, 3) := by decide +kernel
theorem dX12_findRoom_69 : decode cX12_findRoom 69 = .ok (.idiv, 1) := by decide +kernel
theorem dX12_findRoom_70 : decode cX12_findRoom 70 = .ok (.imul, 1) := by decide +kernel
theorem dX12_findRoom_71 : decode cX12_findRoom 71 = .ok (.iadd, 1) := by decide +kernel
theorem dX12_findRoom_72 : decode cX12_findRoom 72 = .ok (.putfield 223, 3) := by decide +kernel
theorem dX12_findRoom_75 : decode cX12_findRoom 75 = .ok (.aload_n 0, 1) := by decide +kernel
theorem dX12_findRoom_76 : decode cX12_findRoom 76 = .ok (.dup, 1) := by decide +kernel
theorem dX12_findRoom_77 : decode cX12_findRoom 77 = .ok (.getfield 226, 3) := by decide +kernel
theorem dX12_findRoom_80 : decode cX12_findRoom 80 = .ok (.iload 4, 2) := by decide +kernel
theorem dX12_findRoom_82 : decode cX12_findRoom 82 = .ok (.aload_n 0, 1) := by decide +kernel
theorem dX12_findRoom_83 : decode cX12_findRoom 83 = .ok (.getfield 37, 3) := by decide +kernel
theorem dX12_findRoom_86 : decode cX12_findRoom 86 = .ok (.iconst 0, 1) := by decide +kernel
theorem dX12_findRoom_87 : decode cX12_findRoom 87 = .ok (.iaload, 1) := by decide +kernel
theorem dX12_findRoom_88 : decode cX12_findRoom 88 = .ok (.sipush 1000, 3) := by decide +kernel
theorem dX12_findRoom_91 : decode cX12_findRoom 91 = .ok (.irem, 1) := by decide +kernel
theorem dX12_findRoom_92 : decode cX12_findRoom 92 = .ok (.imul, 1) := by decide +kernel
theorem dX12_findRoom_93 : decode cX12_findRoom 93 = .ok (.iadd, 1) := by decide +kernel
theorem dX12_findRoom_94 : decode cX12_findRoom 94 = .ok (.putfield 226, 3) := by decide +kernel
theorem dX12_findRoom_97 : decode cX12_findRoom 97 = .ok (.iinc 3 1, 3) := by decide +kernel
theorem dX12_findRoom_100 : decode cX12_findRoom 100 = .ok (.goto (-88), 3) := by decide +kernel
theorem dX12_findRoom_103 : decode cX12_findRoom 103 = .ok (.iconst 1, 1) := by decide +kernel
theorem dX12_findRoom_104 : decode cX12_findRoom 104 = .ok (.ireturn, 1) := by decide +kernel
theorem dX12_room_0 : decode cX12_room 0 = .ok (.iload_n 1, 1) := by decide +kernel
theorem dX12_room_1 : decode cX12_room 1 = .ok (.invokestatic 218, 3) := by decide +kernel
theorem dX12_room_4 : decode cX12_room 4 = .ok (.ifCond .eq 10, 3) := by decide +kernel
theorem dX12_room_7 : decode cX12_room 7 = .ok (.iload_n 2, 1) := by decide +kernel
theorem dX12_room_8 : decode cX12_room 8 = .ok (.invokestatic 121, 3) := by decide +kernel
theorem dX12_room_11 : decode cX12_room 11 = .ok (.ifCond .ne 5, 3) := by decide +kernel
theorem dX12_room_14 : decode cX12_room 14 = .ok (.iconst (-1), 1) := by decide +kernel
theorem dX12_room_15 : decode cX12_room 15 = .ok (.ireturn, 1) := by decide +kernel
theorem dX12_room_16 : decode cX12_room 16 = .ok (.iload_n 3, 1) := by decide +kernel
theorem dX12_room_17 : decode cX12_room 17 = .ok (.i2l, 1) := by decide +kernel
theorem dX12_room_18 : decode cX12_room 18 = .ok (.lconst 0, 1) := by decide +kernel
theorem dX12_room_19 : decode cX12_room 19 = .ok (.ldc2_w 140, 3) := by decide +kernel
theorem dX12_room_22 : decode cX12_room 22 = .ok (.invokestatic 115, 3) := by decide +kernel
theorem dX12_room_25 : decode cX12_room 25 = .ok (.ifCond .ne 6, 3) := by decide +kernel
theorem dX12_room_28 : decode cX12_room 28 = .ok (.bipush (-2), 2) := by decide +kernel
theorem dX12_room_30 : decode cX12_room 30 = .ok (.ireturn, 1) := by decide +kernel
theorem dX12_room_31 : decode cX12_room 31 = .ok (.aload_n 0, 1) := by decide +kernel
theorem dX12_room_32 : decode cX12_room 32 = .ok (.iload_n 1, 1) := by decide +kernel
theorem dX12_room_33 : decode cX12_room 33 = .ok (.iload_n 2, 1) := by decide +kernel
theorem dX12_room_34 : decode cX12_room 34 = .ok (.invokevirtual 232, 3) := by decide +kernel
theorem dX12_room_37 : decode cX12_room 37 = .ok (.ifCond .ne 6, 3) := by decide +kernel
theorem dX12_room_40 : decode cX12_room 40 = .ok (.bipush (-5), 2) := by decide +kernel
theorem dX12_room_42 : decode cX12_room 42 = .ok (.ireturn, 1) := by decide +kernel
theorem dX12_room_43 : decode cX12_room 43 = .ok (.iload_n 3, 1) := by decide +kernel
theorem dX12_room_44 : decode cX12_room 44 = .ok (.ifCond .ne 10, 3) := by decide +kernel
theorem dX12_room_47 : decode cX12_room 47 = .ok (.aload_n 0, 1) := by decide +kernel
theorem dX12_room_48 : decode cX12_room 48 = .ok (.getfield 223, 3) := by decide +kernel
theorem dX12_room_51 : decode cX12_room 51 = .ok (.goto 27, 3) := by decide +kernel
theorem dX12_room_54 : decode cX12_room 54 = .ok (.iload_n 3, 1) := by decide +kernel
theorem dX12_room_55 : decode cX12_room 55 = .ok (.iconst 1, 1) := by decide +kernel
theorem dX12_room_56 : decode cX12_room 56 = .ok (.if_icmp .ne 10, 3) := by decide +kernel
theorem dX12_room_59 : decode cX12_room 59 = .ok (.aload_n 0, 1) := by decide +kernel
theorem dX12_room_60 : decode cX12_room 60 = .ok (.getfield 226, 3) := by decide +kernel
theorem dX12_room_63 : decode cX12_room 63 = .ok (.goto 15, 3) := by decide +kernel
theorem dX12_room_66 : decode cX12_room 66 = .ok (.aload_n 0, 1) := by decide +kernel
theorem dX12_room_67 : decode cX12_room 67 = .ok (.getfield 223, 3) := by decide +kernel
theorem dX12_room_70 : decode cX12_room 70 = .ok (.sipush 199, 3) := by decide +kernel
theorem dX12_room_73 : decode cX12_room 73 = .ok (.iadd, 1) := by decide +kernel
theorem dX12_room_74 : decode cX12_room 74 = .ok (.sipush 200, 3) := by decide +kernel
theorem dX12_room_77 : decode cX12_room 77 = .ok (.idiv, 1) := by decide +kernel
theorem dX12_room_78 : decode cX12_room 78 = .ok (.ireturn, 1) := by decide +kernel
theorem dX12_row_0 : decode cX12_row 0 = .ok (.aload_n 0, 1) := by decide +kernel
theorem dX12_row_1 : decode cX12_row 1 = .ok (.getfield 235, 3) := by decide +kernel
theorem dX12_row_4 : decode cX12_row 4 = .ok (.bipush 12, 2) := by decide +kernel
theorem dX12_row_6 : decode cX12_row 6 = .ok (.if_icmp .ne 6, 3) := by decide +kernel
theorem dX12_row_9 : decode cX12_row 9 = .ok (.bipush (-4), 2) := by decide +kernel
theorem dX12_row_11 : decode cX12_row 11 = .ok (.ireturn, 1) := by decide +kernel
theorem dX12_row_12 : decode cX12_row 12 = .ok (.aload_n 0, 1) := by decide +kernel
theorem dX12_row_13 : decode cX12_row 13 = .ok (.getfield 130, 3) := by decide +kernel
theorem dX12_row_16 : decode cX12_row 16 = .ok (.i2l, 1) := by decide +kernel
theorem dX12_row_17 : decode cX12_row 17 = .ok (.ldc2_w 140, 3) := by decide +kernel
theorem dX12_row_20 : decode cX12_row 20 = .ok (.ldc2_w 113, 3) := by decide +kernel
theorem dX12_row_23 : decode cX12_row 23 = .ok (.invokestatic 115, 3) := by decide +kernel
theorem dX12_row_26 : decode cX12_row 26 = .ok (.ifCond .ne 6, 3) := by decide +kernel
theorem dX12_row_29 : decode cX12_row 29 = .ok (.bipush (-5), 2) := by decide +kernel
theorem dX12_row_31 : decode cX12_row 31 = .ok (.ireturn, 1) := by decide +kernel
theorem dX12_row_32 : decode cX12_row 32 = .ok (.iconst 0, 1) := by decide +kernel
theorem dX12_row_33 : decode cX12_row 33 = .ok (.istore_n 1, 1) := by decide +kernel
theorem dX12_row_34 : decode cX12_row 34 = .ok (.iload_n 1, 1) := by decide +kernel
theorem dX12_row_35 : decode cX12_row 35 = .ok (.aload_n 0, 1) := by decide +kernel
theorem dX12_row_36 : decode cX12_row 36 = .ok (.getfield 130, 3) := by decide +kernel
theorem dX12_row_39 : decode cX12_row 39 = .ok (.if_icmp .ge 28, 3) := by decide +kernel
theorem dX12_row_42 : decode cX12_row 42 = .ok (.aload_n 0, 1) := by decide +kernel
theorem dX12_row_43 : decode cX12_row 43 = .ok (.getfield 68, 3) := by decide +kernel
theorem dX12_row_46 : decode cX12_row 46 = .ok (.iconst 4, 1) := by decide +kernel
theorem dX12_row_47 : decode cX12_row 47 = .ok (.aload_n 0, 1) := by decide +kernel
theorem dX12_row_48 : decode cX12_row 48 = .ok (.getfield 235, 3) := by decide +kernel
theorem dX12_row_51 : decode cX12_row 51 = .ok (.imul, 1) := by decide +kernel
theorem dX12_row_52 : decode cX12_row 52 = .ok (.iload_n 1, 1) := by decide +kernel
theorem dX12_row_53 : decode cX12_row 53 = .ok (.iadd, 1) := by decide +kernel
theorem dX12_row_54 : decode cX12_row 54 = .ok (.aload_n 0, 1) := by decide +kernel
theorem dX12_row_55 : decode cX12_row 55 = .ok (.getfield 28, 3) := by decide +kernel
theorem dX12_row_58 : decode cX12_row 58 = .ok (.iload_n 1, 1) := by decide +kernel
theorem dX12_row_59 : decode cX12_row 59 = .ok (.iaload, 1) := by decide +kernel
theorem dX12_row_60 : decode cX12_row 60 = .ok (.iastore, 1) := by decide +kernel
theorem dX12_row_61 : decode cX12_row 61 = .ok (.iinc 1 1, 3) := by decide +kernel
theorem dX12_row_64 : decode cX12_row 64 = .ok (.goto (-30), 3) := by decide +kernel
theorem dX12_row_67 : decode cX12_row 67 = .ok (.aload_n 0, 1) := by decide +kernel
theorem dX12_row_68 : decode cX12_row 68 = .ok (.getfield 71, 3) := by decide +kernel
theorem dX12_row_71 : decode cX12_row 71 = .ok (.aload_n 0, 1) := by decide +kernel
theorem dX12_row_72 : decode cX12_row 72 = .ok (.getfield 235, 3) := by decide +kernel
theorem dX12_row_75 : decode cX12_row 75 = .ok (.aload_n 0, 1) := by decide +kernel
theorem dX12_row_76 : decode cX12_row 76 = .ok (.getfield 130, 3) := by decide +kernel
theorem dX12_row_79 : decode cX12_row 79 = .ok (.iastore, 1) := by decide +kernel
theorem dX12_row_80 : decode cX12_row 80 = .ok (.aload_n 0, 1) := by decide +kernel
theorem dX12_row_81 : decode cX12_row 81 = .ok (.iconst 0, 1) := by decide +kernel
theorem dX12_row_82 : decode cX12_row 82 = .ok (.putfield 130, 3) := by decide +kernel
theorem dX12_row_85 : decode cX12_row 85 = .ok (.aload_n 0, 1) := by decide +kernel
theorem dX12_row_86 : decode cX12_row 86 = .ok (.dup, 1) := by decide +kernel
theorem dX12_row_87 : decode cX12_row 87 = .ok (.getfield 235, 3) := by decide +kernel
theorem dX12_row_90 : decode cX12_row 90 = .ok (.iconst 1, 1) := by decide +kernel
theorem dX12_row_91 : decode cX12_row 91 = .ok (.iadd, 1) := by decide +kernel
theorem dX12_row_92 : decode cX12_row 92 = .ok (.putfield 235, 3) := by decide +kernel
theorem dX12_row_95 : decode cX12_row 95 = .ok (.aload_n 0, 1) := by decide +kernel
theorem dX12_row_96 : decode cX12_row 96 = .ok (.getfield 235, 3) := by decide +kernel
theorem dX12_row_99 : decode cX12_row 99 = .ok (.iconst 1, 1) := by decide +kernel
theorem dX12_row_100 : decode cX12_row 100 = .ok (.isub, 1) := by decide +kernel
theorem dX12_row_101 : decode cX12_row 101 = .ok (.ireturn, 1) := by decide +kernel
theorem dX12_rowFits_0 : decode cX12_rowFits 0 = .ok (.iload_n 2, 1) := by decide +kernel
theorem dX12_rowFits_1 : decode cX12_rowFits 1 = .ok (.aload_n 0, 1) := by decide +kernel
theorem dX12_rowFits_2 : decode cX12_rowFits 2 = .ok (.getfield 71, 3) := by decide +kernel
theorem dX12_rowFits_5 : decode cX12_rowFits 5 = .ok (.iload_n 1, 1) := by decide +kernel
theorem dX12_rowFits_6 : decode cX12_rowFits 6 = .ok (.iaload, 1) := by decide +kernel
theorem dX12_rowFits_7 : decode cX12_rowFits 7 = .ok (.iadd, 1) := by decide +kernel
theorem dX12_rowFits_8 : decode cX12_rowFits 8 = .ok (.aload_n 0, 1) := by decide +kernel
theorem dX12_rowFits_9 : decode cX12_rowFits 9 = .ok (.getfield 161, 3) := by decide +kernel
theorem dX12_rowFits_12 : decode cX12_rowFits 12 = .ok (.if_icmp .gt 7, 3) := by decide +kernel
theorem dX12_rowFits_15 : decode cX12_rowFits 15 = .ok (.iconst 1, 1) := by decide +kernel
theorem dX12_rowFits_16 : decode cX12_rowFits 16 = .ok (.goto 4, 3) := by decide +kernel
theorem dX12_rowFits_19 : decode cX12_rowFits 19 = .ok (.iconst 0, 1) := by decide +kernel
theorem dX12_rowFits_20 : decode cX12_rowFits 20 = .ok (.istore_n 3, 1) := by decide +kernel
theorem dX12_rowFits_21 : decode cX12_rowFits 21 = .ok (.iconst 0, 1) := by decide +kernel
theorem dX12_rowFits_22 : decode cX12_rowFits 22 = .ok (.istore 4, 2) := by decide +kernel
theorem dX12_rowFits_24 : decode cX12_rowFits 24 = .ok (.iload_n 3, 1) := by decide +kernel
theorem dX12_rowFits_25 : decode cX12_rowFits 25 = .ok (.ifCond .eq 49, 3) := by decide +kernel
theorem dX12_rowFits_28 : decode cX12_rowFits 28 = .ok (.iload 4, 2) := by decide +kernel
theorem dX12_rowFits_30 : decode cX12_rowFits 30 = .ok (.aload_n 0, 1) := by decide +kernel
theorem dX12_rowFits_31 : decode cX12_rowFits 31 = .ok (.getfield 71, 3) := by decide +kernel
theorem dX12_rowFits_34 : decode cX12_rowFits 34 = .ok (.iload_n 1, 1) := by decide +kernel
theorem dX12_rowFits_35 : decode cX12_rowFits 35 = .ok (.iaload, 1) := by decide +kernel
theorem dX12_rowFits_36 : decode cX12_rowFits 36 = .ok (.if_icmp .ge 38, 3) := by decide +kernel
theorem dX12_rowFits_39 : decode cX12_rowFits 39 = .ok (.aload_n 0, 1) := by decide +kernel
theorem dX12_rowFits_40 : decode cX12_rowFits 40 = .ok (.getfield 68, 3) := by decide +kernel
theorem dX12_rowFits_43 : decode cX12_rowFits 43 = .ok (.iconst 4, 1) := by decide +kernel
theorem dX12_rowFits_44 : decode cX12_rowFits 44 = .ok (.iload_n 1, 1) := by decide +kernel
theorem dX12_rowFits_45 : decode cX12_rowFits 45 = .ok (.imul, 1) := by decide +kernel
theorem dX12_rowFits_46 : decode cX12_rowFits 46 = .ok (.iload 4, 2) := by decide +kernel
theorem dX12_rowFits_48 : decode cX12_rowFits 48 = .ok (.iadd, 1) := by decide +kernel
theorem dX12_rowFits_49 : decode cX12_rowFits 49 = .ok (.iaload, 1) := by decide +kernel
theorem dX12_rowFits_50 : decode cX12_rowFits 50 = .ok (.aload_n 0, 1) := by decide +kernel
theorem dX12_rowFits_51 : decode cX12_rowFits 51 = .ok (.getfield 34, 3) := by decide +kernel
theorem dX12_rowFits_54 : decode cX12_rowFits 54 = .ok (.iload_n 2, 1) := by decide +kernel
theorem dX12_rowFits_55 : decode cX12_rowFits 55 = .ok (.iload 4, 2) := by decide +kernel
theorem dX12_rowFits_57 : decode cX12_rowFits 57 = .ok (.iadd, 1) := by decide +kernel
theorem dX12_rowFits_58 : decode cX12_rowFits 58 = .ok (.iaload, 1) := by decide +kernel
theorem dX12_rowFits_59 : decode cX12_rowFits 59 = .ok (.if_icmp .ne 7, 3) := by decide +kernel
theorem dX12_rowFits_62 : decode cX12_rowFits 62 = .ok (.iconst 1, 1) := by decide +kernel
theorem dX12_rowFits_63 : decode cX12_rowFits 63 = .ok (.goto 4, 3) := by decide +kernel
theorem dX12_rowFits_66 : decode cX12_rowFits 66 = .ok (.iconst 0, 1) := by decide +kernel
theorem dX12_rowFits_67 : decode cX12_rowFits 67 = .ok (.istore_n 3, 1) := by decide +kernel
theorem dX12_rowFits_68 : decode cX12_rowFits 68 = .ok (.iinc 4 1, 3) := by decide +kernel
theorem dX12_rowFits_71 : decode cX12_rowFits 71 = .ok (.goto (-47), 3) := by decide +kernel
theorem dX12_rowFits_74 : decode cX12_rowFits 74 = .ok (.iload_n 3, 1) := by decide +kernel
theorem dX12_rowFits_75 : decode cX12_rowFits 75 = .ok (.ireturn, 1) := by decide +kernel
theorem dX12_cellsWith_0 : decode cX12_cellsWith 0 = .ok (.aload_n 0, 1) := by decide +kernel
theorem dX12_cellsWith_1 : decode cX12_cellsWith 1 = .ok (.getfield 37, 3) := by decide +kernel
theorem dX12_cellsWith_4 : decode cX12_cellsWith 4 = .ok (.aload_n 0, 1) := by decide +kernel
theorem dX12_cellsWith_5 : decode cX12_cellsWith 5 = .ok (.getfield 161, 3) := by decide +kernel
theorem dX12_cellsWith_8 : decode cX12_cellsWith 8 = .ok (.iconst 0, 1) := by decide +kernel
theorem dX12_cellsWith_9 : decode cX12_cellsWith 9 = .ok (.iastore, 1) := by decide +kernel
theorem dX12_cellsWith_10 : decode cX12_cellsWith 10 = .ok (.aload_n 0, 1) := by decide +kernel
theorem dX12_cellsWith_11 : decode cX12_cellsWith 11 = .ok (.getfield 161, 3) := by decide +kernel
theorem dX12_cellsWith_14 : decode cX12_cellsWith 14 = .ok (.iconst 1, 1) := by decide +kernel
theorem dX12_cellsWith_15 : decode cX12_cellsWith 15 = .ok (.isub, 1) := by decide +kernel
theorem dX12_cellsWith_16 : decode cX12_cellsWith 16 = .ok (.istore_n 3, 1) := by decide +kernel
theorem dX12_cellsWith_17 : decode cX12_cellsWith 17 = .ok (.iload_n 3, 1) := by decide +kernel
theorem dX12_cellsWith_18 : decode cX12_cellsWith 18 = .ok (.ifCond .lt 140, 3) := by decide +kernel
theorem dX12_cellsWith_21 : decode cX12_cellsWith 21 = .ok (.aload_n 0, 1) := by decide +kernel
theorem dX12_cellsWith_22 : decode cX12_cellsWith 22 = .ok (.getfield 7, 3) := by decide +kernel
theorem dX12_cellsWith_25 : decode cX12_cellsWith 25 = .ok (.bipush 26, 2) := by decide +kernel
theorem dX12_cellsWith_27 : decode cX12_cellsWith 27 = .ok (.iload_n 1, 1) := by decide +kernel
theorem dX12_cellsWith_28 : decode cX12_cellsWith 28 = .ok (.imul, 1) := by decide +kernel
theorem dX12_cellsWith_29 : decode cX12_cellsWith 29 = .ok (.aload_n 0, 1) := by decide +kernel
theorem dX12_cellsWith_30 : decode cX12_cellsWith 30 = .ok (.getfield 34, 3) := by decide +kernel
theorem dX12_cellsWith_33 : decode cX12_cellsWith 33 = .ok (.iload_n 3, 1) := by decide +kernel
theorem dX12_cellsWith_34 : decode cX12_cellsWith 34 = .ok (.iaload, 1) := by decide +kernel
theorem dX12_cellsWith_35 : decode cX12_cellsWith 35 = .ok (.iadd, 1) := by decide +kernel
theorem dX12_cellsWith_36 : decode cX12_cellsWith 36 = .ok (.iaload, 1) := by decide +kernel
theorem dX12_cellsWith_37 : decode cX12_cellsWith 37 = .ok (.ifCond .le 14, 3) := by decide +kernel
theorem dX12_cellsWith_40 : decode cX12_cellsWith 40 = .ok (.aload_n 0, 1) := by decide +kernel
theorem dX12_cellsWith_41 : decode cX12_cellsWith 41 = .ok (.getfield 37, 3) := by decide +kernel
theorem dX12_cellsWith_44 : decode cX12_cellsWith 44 = .ok (.iload_n 3, 1) := by decide +kernel
theorem dX12_cellsWith_45 : decode cX12_cellsWith 45 = .ok (.iconst 1, 1) := by decide +kernel
theorem dX12_cellsWith_46 : decode cX12_cellsWith 46 = .ok (.iadd, 1) := by decide +kernel
theorem dX12_cellsWith_47 : decode cX12_cellsWith 47 = .ok (.iaload, 1) := by decide +kernel
theorem dX12_cellsWith_48 : decode cX12_cellsWith 48 = .ok (.goto 5, 3) := by decide +kernel
theorem dX12_cellsWith_51 : decode cX12_cellsWith 51 = .ok (.ldc 167, 2) := by decide +kernel
theorem dX12_cellsWith_53 : decode cX12_cellsWith 53 = .ok (.istore 4, 2) := by decide +kernel
theorem dX12_cellsWith_55 : decode cX12_cellsWith 55 = .ok (.iconst 0, 1) := by decide +kernel
theorem dX12_cellsWith_56 : decode cX12_cellsWith 56 = .ok (.istore 5, 2) := by decide +kernel
theorem dX12_cellsWith_58 : decode cX12_cellsWith 58 = .ok (.iload 5, 2) := by decide +kernel
theorem dX12_cellsWith_60 : decode cX12_cellsWith 60 = .ok (.aload_n 0, 1) := by decide +kernel
theorem dX12_cellsWith_61 : decode cX12_cellsWith 61 = .ok (.getfield 235, 3) := by decide +kernel
theorem dX12_cellsWith_64 : decode cX12_cellsWith 64 = .ok (.if_icmp .ge 66, 3) := by decide +kernel
theorem dX12_cellsWith_67 : decode cX12_cellsWith 67 = .ok (.iload_n 2, 1) := by decide +kernel
theorem dX12_cellsWith_68 : decode cX12_cellsWith 68 = .ok (.iload 5, 2) := by decide +kernel
theorem dX12_cellsWith_70 : decode cX12_cellsWith 70 = .ok (.ishr, 1) := by decide +kernel
theorem dX12_cellsWith_71 : decode cX12_cellsWith 71 = .ok (.iconst 1, 1) := by decide +kernel
theorem dX12_cellsWith_72 : decode cX12_cellsWith 72 = .ok (.iand, 1) := by decide +kernel
theorem dX12_cellsWith_73 : decode cX12_cellsWith 73 = .ok (.iconst 1, 1) := by decide +kernel
theorem dX12_cellsWith_74 : decode cX12_cellsWith 74 = .ok (.if_icmp .ne 30, 3) := by decide +kernel
theorem dX12_cellsWith_77 : decode cX12_cellsWith 77 = .ok (.aload_n 0, 1) := by decide +kernel
theorem dX12_cellsWith_78 : decode cX12_cellsWith 78 = .ok (.iload 5, 2) := by decide +kernel
theorem dX12_cellsWith_80 : decode cX12_cellsWith 80 = .ok (.iload_n 3, 1) := by decide +kernel
theorem dX12_cellsWith_81 : decode cX12_cellsWith 81 = .ok (.invokevirtual 238, 3) := by decide +kernel
theorem dX12_cellsWith_84 : decode cX12_cellsWith 84 = .ok (.ifCond .eq 20, 3) := by decide +kernel
theorem dX12_cellsWith_87 : decode cX12_cellsWith 87 = .ok (.aload_n 0, 1) := by decide +kernel
theorem dX12_cellsWith_88 : decode cX12_cellsWith 88 = .ok (.getfield 37, 3) := by decide +kernel
theorem dX12_cellsWith_91 : decode cX12_cellsWith 91 = .ok (.iload_n 3, 1) := by decide +kernel
theorem dX12_cellsWith_92 : decode cX12_cellsWith 92 = .ok (.aload_n 0, 1) := by decide +kernel
theorem dX12_cellsWith_93 : decode cX12_cellsWith 93 = .ok (.getfield 71, 3) := by decide +kernel
theorem dX12_cellsWith_96 : decode cX12_cellsWith 96 = .ok (.iload 5, 2) := by decide +kernel
theorem dX12_cellsWith_98 : decode cX12_cellsWith 98 = .ok (.iaload, 1) := by decide +kernel
theorem dX12_cellsWith_99 : decode cX12_cellsWith 99 = .ok (.iadd, 1) := by decide +kernel
theorem dX12_cellsWith_100 : decode cX12_cellsWith 100 = .ok (.iaload, 1) := by decide +kernel
theorem dX12_cellsWith_101 : decode cX12_cellsWith 101 = .ok (.goto 5, 3) := by decide +kernel
theorem dX12_cellsWith_104 : decode cX12_cellsWith 104 = .ok (.ldc 167, 2) := by decide +kernel
theorem dX12_cellsWith_106 : decode cX12_cellsWith 106 = .ok (.istore 6, 2) := by decide +kernel
theorem dX12_cellsWith_108 : decode cX12_cellsWith 108 = .ok (.iload 6, 2) := by decide +kernel
theorem dX12_cellsWith_110 : decode cX12_cellsWith 110 = .ok (.iload 4, 2) := by decide +kernel
theorem dX12_cellsWith_112 : decode cX12_cellsWith 112 = .ok (.if_icmp .ge 8, 3) := by decide +kernel
theorem dX12_cellsWith_115 : decode cX12_cellsWith 115 = .ok (.iload 6, 2) := by decide +kernel
theorem dX12_cellsWith_117 : decode cX12_cellsWith 117 = .ok (.goto 5, 3) := by decide +kernel
theorem dX12_cellsWith_120 : decode cX12_cellsWith 120 = .ok (.iload 4, 2) := by decide +kernel
theorem dX12_cellsWith_122 : decode cX12_cellsWith 122 = .ok (.istore 4, 2) := by decide +kernel
theorem dX12_cellsWith_124 : decode cX12_cellsWith 124 = .ok (.iinc 5 1, 3) := by decide +kernel
theorem dX12_cellsWith_127 : decode cX12_cellsWith 127 = .ok (.goto (-69), 3) := by decide +kernel
theorem dX12_cellsWith_130 : decode cX12_cellsWith 130 = .ok (.aload_n 0, 1) := by decide +kernel
theorem dX12_cellsWith_131 : decode cX12_cellsWith 131 = .ok (.getfield 37, 3) := by decide +kernel
theorem dX12_cellsWith_134 : decode cX12_cellsWith 134 = .ok (.iload_n 3, 1) := by decide +kernel
theorem dX12_cellsWith_135 : decode cX12_cellsWith 135 = .ok (.iload 4, 2) := by decide +kernel
theorem dX12_cellsWith_137 : decode cX12_cellsWith 137 = .ok (.ldc 167, 2) := by decide +kernel
theorem dX12_cellsWith_139 : decode cX12_cellsWith 139 = .ok (.if_icmp .ne 8, 3) := by decide +kernel
theorem dX12_cellsWith_142 : decode cX12_cellsWith 142 = .ok (.ldc 167, 2) := by decide +kernel
theorem dX12_cellsWith_144 : decode cX12_cellsWith 144 = .ok (.goto 7, 3) := by decide +kernel
theorem dX12_cellsWith_147 : decode cX12_cellsWith 147 = .ok (.iload 4, 2) := by decide +kernel
theorem dX12_cellsWith_149 : decode cX12_cellsWith 149 = .ok (.iconst 1, 1) := by decide +kernel
theorem dX12_cellsWith_150 : decode cX12_cellsWith 150 = .ok (.iadd, 1) := by decide +kernel
theorem dX12_cellsWith_151 : decode cX12_cellsWith 151 = .ok (.iastore, 1) := by decide +kernel
theorem dX12_cellsWith_152 : decode cX12_cellsWith 152 = .ok (.iinc 3 (-1), 3) := by decide +kernel
theorem dX12_cellsWith_155 : decode cX12_cellsWith 155 = .ok (.goto (-138), 3) := by decide +kernel
theorem dX12_cellsWith_158 : decode cX12_cellsWith 158 = .ok (.aload_n 0, 1) := by decide +kernel
theorem dX12_cellsWith_159 : decode cX12_cellsWith 159 = .ok (.getfield 37, 3) := by decide +kernel
theorem dX12_cellsWith_162 : decode cX12_cellsWith 162 = .ok (.iconst 0, 1) := by decide +kernel
theorem dX12_cellsWith_163 : decode cX12_cellsWith 163 = .ok (.iaload, 1) := by decide +kernel
theorem dX12_cellsWith_164 : decode cX12_cellsWith 164 = .ok (.ireturn, 1) := by decide +kernel
theorem dX12_bookWith_0 : decode cX12_bookWith 0 = .ok (.iconst 0, 1) := by decide +kernel
theorem dX12_bookWith_1 : decode cX12_bookWith 1 = .ok (.istore 4, 2) := by decide +kernel
theorem dX12_bookWith_3 : decode cX12_bookWith 3 = .ok (.iconst 0, 1) := by decide +kernel
theorem dX12_bookWith_4 : decode cX12_bookWith 4 = .ok (.istore 5, 2) := by decide +kernel
theorem dX12_bookWith_6 : decode cX12_bookWith 6 = .ok (.iload 5, 2) := by decide +kernel
theorem dX12_bookWith_8 : decode cX12_bookWith 8 = .ok (.aload_n 0, 1) := by decide +kernel
theorem dX12_bookWith_9 : decode cX12_bookWith 9 = .ok (.getfield 213, 3) := by decide +kernel
theorem dX12_bookWith_12 : decode cX12_bookWith 12 = .ok (.if_icmp .ge 71, 3) := by decide +kernel
theorem dX12_bookWith_15 : decode cX12_bookWith 15 = .ok (.iload 4, 2) := by decide +kernel
theorem dX12_bookWith_17 : decode cX12_bookWith 17 = .ok (.ldc 167, 2) := by decide +kernel
theorem dX12_bookWith_19 : decode cX12_bookWith 19 = .ok (.if_icmp .ge 64, 3) := by decide +kernel
theorem dX12_bookWith_22 : decode cX12_bookWith 22 = .ok (.aload_n 0, 1) := by decide +kernel
theorem dX12_bookWith_23 : decode cX12_bookWith 23 = .ok (.getfield 65, 3) := by decide +kernel
theorem dX12_bookWith_26 : decode cX12_bookWith 26 = .ok (.bipush 30, 2) := by decide +kernel
theorem dX12_bookWith_28 : decode cX12_bookWith 28 = .ok (.iload_n 1, 1) := by decide +kernel
theorem dX12_bookWith_29 : decode cX12_bookWith 29 = .ok (.imul, 1) := by decide +kernel
theorem dX12_bookWith_30 : decode cX12_bookWith 30 = .ok (.iload 5, 2) := by decide +kernel
theorem dX12_bookWith_32 : decode cX12_bookWith 32 = .ok (.iadd, 1) := by decide +kernel
theorem dX12_bookWith_33 : decode cX12_bookWith 33 = .ok (.iaload, 1) := by decide +kernel
theorem dX12_bookWith_34 : decode cX12_bookWith 34 = .ok (.istore 6, 2) := by decide +kernel
theorem dX12_bookWith_36 : decode cX12_bookWith 36 = .ok (.iload 6, 2) := by decide +kernel
theorem dX12_bookWith_38 : decode cX12_bookWith 38 = .ok (.ifCond .le 39, 3) := by decide +kernel
theorem dX12_bookWith_41 : decode cX12_bookWith 41 = .ok (.aload_n 0, 1) := by decide +kernel
theorem dX12_bookWith_42 : decode cX12_bookWith 42 = .ok (.iload 5, 2) := by decide +kernel
theorem dX12_bookWith_44 : decode cX12_bookWith 44 = .ok (.invokevirtual 229, 3) := by decide +kernel
theorem dX12_bookWith_47 : decode cX12_bookWith 47 = .ok (.aload_n 0, 1) := by decide +kernel
theorem dX12_bookWith_48 : decode cX12_bookWith 48 = .ok (.iload_n 2, 1) := by decide +kernel
theorem dX12_bookWith_49 : decode cX12_bookWith 49 = .ok (.iload_n 3, 1) := by decide +kernel
theorem dX12_bookWith_50 : decode cX12_bookWith 50 = .ok (.invokevirtual 241, 3) := by decide +kernel
theorem dX12_bookWith_53 : decode cX12_bookWith 53 = .ok (.istore 7, 2) := by decide +kernel
theorem dX12_bookWith_55 : decode cX12_bookWith 55 = .ok (.iload 7, 2) := by decide +kernel
theorem dX12_bookWith_57 : decode cX12_bookWith 57 = .ok (.ldc 167, 2) := by decide +kernel
theorem dX12_bookWith_59 : decode cX12_bookWith 59 = .ok (.if_icmp .ne 8, 3) := by decide +kernel
theorem dX12_bookWith_62 : decode cX12_bookWith 62 = .ok (.ldc 167, 2) := by decide +kernel
theorem dX12_bookWith_64 : decode cX12_bookWith 64 = .ok (.goto 11, 3) := by decide +kernel
theorem dX12_bookWith_67 : decode cX12_bookWith 67 = .ok (.iload 4, 2) := by decide +kernel
theorem dX12_bookWith_69 : decode cX12_bookWith 69 = .ok (.iload 6, 2) := by decide +kernel
theorem dX12_bookWith_71 : decode cX12_bookWith 71 = .ok (.iload 7, 2) := by decide +kernel
theorem dX12_bookWith_73 : decode cX12_bookWith 73 = .ok (.imul, 1) := by decide +kernel
theorem dX12_bookWith_74 : decode cX12_bookWith 74 = .ok (.iadd, 1) := by decide +kernel
theorem dX12_bookWith_75 : decode cX12_bookWith 75 = .ok (.istore 4, 2) := by decide +kernel
theorem dX12_bookWith_77 : decode cX12_bookWith 77 = .ok (.iinc 5 1, 3) := by decide +kernel
theorem dX12_bookWith_80 : decode cX12_bookWith 80 = .ok (.goto (-74), 3) := by decide +kernel
theorem dX12_bookWith_83 : decode cX12_bookWith 83 = .ok (.iload 4, 2) := by decide +kernel
theorem dX12_bookWith_85 : decode cX12_bookWith 85 = .ok (.ireturn, 1) := by decide +kernel
theorem dX12_chosen_0 : decode cX12_chosen 0 = .ok (.iload_n 1, 1) := by decide +kernel
theorem dX12_chosen_1 : decode cX12_chosen 1 = .ok (.invokestatic 218, 3) := by decide +kernel
theorem dX12_chosen_4 : decode cX12_chosen 4 = .ok (.ifCond .eq 10, 3) := by decide +kernel
theorem dX12_chosen_7 : decode cX12_chosen 7 = .ok (.iload_n 2, 1) := by decide +kernel
theorem dX12_chosen_8 : decode cX12_chosen 8 = .ok (.invokestatic 121, 3) := by decide +kernel
theorem dX12_chosen_11 : decode cX12_chosen 11 = .ok (.ifCond .ne 5, 3) := by decide +kernel
theorem dX12_chosen_14 : decode cX12_chosen 14 = .ok (.iconst (-1), 1) := by decide +kernel
theorem dX12_chosen_15 : decode cX12_chosen 15 = .ok (.ireturn, 1) := by decide +kernel
theorem dX12_chosen_16 : decode cX12_chosen 16 = .ok (.iload_n 3, 1) := by decide +kernel
theorem dX12_chosen_17 : decode cX12_chosen 17 = .ok (.i2l, 1) := by decide +kernel
theorem dX12_chosen_18 : decode cX12_chosen 18 = .ok (.lconst 0, 1) := by decide +kernel
theorem dX12_chosen_19 : decode cX12_chosen 19 = .ok (.ldc2_w 244, 3) := by decide +kernel
theorem dX12_chosen_22 : decode cX12_chosen 22 = .ok (.invokestatic 115, 3) := by decide +kernel
theorem dX12_chosen_25 : decode cX12_chosen 25 = .ok (.ifCond .eq 14, 3) := by decide +kernel
theorem dX12_chosen_28 : decode cX12_chosen 28 = .ok (.iload 4, 2) := by decide +kernel
theorem dX12_chosen_30 : decode cX12_chosen 30 = .ok (.i2l, 1) := by decide +kernel
theorem dX12_chosen_31 : decode cX12_chosen 31 = .ok (.lconst 0, 1) := by decide +kernel
theorem dX12_chosen_32 : decode cX12_chosen 32 = .ok (.lconst 1, 1) := by decide +kernel
theorem dX12_chosen_33 : decode cX12_chosen 33 = .ok (.invokestatic 115, 3) := by decide +kernel
theorem dX12_chosen_36 : decode cX12_chosen 36 = .ok (.ifCond .ne 6, 3) := by decide +kernel
theorem dX12_chosen_39 : decode cX12_chosen 39 = .ok (.bipush (-2), 2) := by decide +kernel
theorem dX12_chosen_41 : decode cX12_chosen 41 = .ok (.ireturn, 1) := by decide +kernel
theorem dX12_chosen_42 : decode cX12_chosen 42 = .ok (.iconst 0, 1) := by decide +kernel
theorem dX12_chosen_43 : decode cX12_chosen 43 = .ok (.istore 5, 2) := by decide +kernel
theorem dX12_chosen_45 : decode cX12_chosen 45 = .ok (.ldc 167, 2) := by decide +kernel
theorem dX12_chosen_47 : decode cX12_chosen 47 = .ok (.istore 6, 2) := by decide +kernel
theorem dX12_chosen_49 : decode cX12_chosen 49 = .ok (.iconst 0, 1) := by decide +kernel
theorem dX12_chosen_50 : decode cX12_chosen 50 = .ok (.istore 7, 2) := by decide +kernel
theorem dX12_chosen_52 : decode cX12_chosen 52 = .ok (.iload 7, 2) := by decide +kernel
theorem dX12_chosen_54 : decode cX12_chosen 54 = .ok (.iconst 1, 1) := by decide +kernel
theorem dX12_chosen_55 : decode cX12_chosen 55 = .ok (.aload_n 0, 1) := by decide +kernel
theorem dX12_chosen_56 : decode cX12_chosen 56 = .ok (.getfield 235, 3) := by decide +kernel
theorem dX12_chosen_59 : decode cX12_chosen 59 = .ok (.ishl, 1) := by decide +kernel
theorem dX12_chosen_60 : decode cX12_chosen 60 = .ok (.if_icmp .ge 63, 3) := by decide +kernel
theorem dX12_chosen_63 : decode cX12_chosen 63 = .ok (.iload 7, 2) := by decide +kernel
theorem dX12_chosen_65 : decode cX12_chosen 65 = .ok (.invokestatic 150, 3) := by decide +kernel
theorem dX12_chosen_68 : decode cX12_chosen 68 = .ok (.iload_n 3, 1) := by decide +kernel
theorem dX12_chosen_69 : decode cX12_chosen 69 = .ok (.if_icmp .gt 48, 3) := by decide +kernel
theorem dX12_chosen_72 : decode cX12_chosen 72 = .ok (.aload_n 0, 1) := by decide +kernel
theorem dX12_chosen_73 : decode cX12_chosen 73 = .ok (.iload_n 1, 1) := by decide +kernel
theorem dX12_chosen_74 : decode cX12_chosen 74 = .ok (.iload_n 2, 1) := by decide +kernel
theorem dX12_chosen_75 : decode cX12_chosen 75 = .ok (.iload 7, 2) := by decide +kernel
theorem dX12_chosen_77 : decode cX12_chosen 77 = .ok (.invokevirtual 246, 3) := by decide +kernel
theorem dX12_chosen_80 : decode cX12_chosen 80 = .ok (.istore 8, 2) := by decide +kernel
theorem dX12_chosen_82 : decode cX12_chosen 82 = .ok (.iload 8, 2) := by decide +kernel
theorem dX12_chosen_84 : decode cX12_chosen 84 = .ok (.iload 6, 2) := by decide +kernel
theorem dX12_chosen_86 : decode cX12_chosen 86 = .ok (.if_icmp .lt 23, 3) := by decide +kernel
theorem dX12_chosen_89 : decode cX12_chosen 89 = .ok (.iload 8, 2) := by decide +kernel
theorem dX12_chosen_91 : decode cX12_chosen 91 = .ok (.iload 6, 2) := by decide +kernel
theorem dX12_chosen_93 : decode cX12_chosen 93 = .ok (.if_icmp .ne 24, 3) := by decide +kernel
theorem dX12_chosen_96 : decode cX12_chosen 96 = .ok (.iload 7, 2) := by decide +kernel
theorem dX12_chosen_98 : decode cX12_chosen 98 = .ok (.invokestatic 150, 3) := by decide +kernel
theorem dX12_chosen_101 : decode cX12_chosen 101 = .ok (.iload 5, 2) := by decide +kernel
theorem dX12_chosen_103 : decode cX12_chosen 103 = .ok (.invokestatic 150, 3) := by decide +kernel
theorem dX12_chosen_106 : decode cX12_chosen 106 = .ok (.if_icmp .ge 11, 3) := by decide +kernel
theorem dX12_chosen_109 : decode cX12_chosen 109 = .ok (.iload 8, 2) := by decide +kernel
theorem dX12_chosen_111 : decode cX12_chosen 111 = .ok (.istore 6, 2) := by decide +kernel
theorem dX12_chosen_113 : decode cX12_chosen 113 = .ok (.iload 7, 2) := by decide +kernel
theorem dX12_chosen_115 : decode cX12_chosen 115 = .ok (.istore 5, 2) := by decide +kernel
theorem dX12_chosen_117 : decode cX12_chosen 117 = .ok (.iinc 7 1, 3) := by decide +kernel
theorem dX12_chosen_120 : decode cX12_chosen 120 = .ok (.goto (-68), 3) := by decide +kernel
theorem dX12_chosen_123 : decode cX12_chosen 123 = .ok (.iload 6, 2) := by decide +kernel
theorem dX12_chosen_125 : decode cX12_chosen 125 = .ok (.ldc 167, 2) := by decide +kernel
theorem dX12_chosen_127 : decode cX12_chosen 127 = .ok (.if_icmp .ne 8, 3) := by decide +kernel
theorem dX12_chosen_130 : decode cX12_chosen 130 = .ok (.bipush (-5), 2) := by decide +kernel
theorem dX12_chosen_132 : decode cX12_chosen 132 = .ok (.goto 15, 3) := by decide +kernel
theorem dX12_chosen_135 : decode cX12_chosen 135 = .ok (.iload 4, 2) := by decide +kernel
theorem dX12_chosen_137 : decode cX12_chosen 137 = .ok (.ifCond .ne 8, 3) := by decide +kernel
theorem dX12_chosen_140 : decode cX12_chosen 140 = .ok (.iload 5, 2) := by decide +kernel
theorem dX12_chosen_142 : decode cX12_chosen 142 = .ok (.goto 5, 3) := by decide +kernel
theorem dX12_chosen_145 : decode cX12_chosen 145 = .ok (.iload 6, 2) := by decide +kernel
theorem dX12_chosen_147 : decode cX12_chosen 147 = .ok (.ireturn, 1) := by decide +kernel
theorem dX12_isReader_0 : decode cX12_isReader 0 = .ok (.iload_n 1, 1) := by decide +kernel
theorem dX12_isReader_1 : decode cX12_isReader 1 = .ok (.i2l, 1) := by decide +kernel
theorem dX12_isReader_2 : decode cX12_isReader 2 = .ok (.lconst 0, 1) := by decide +kernel
theorem dX12_isReader_3 : decode cX12_isReader 3 = .ok (.aload_n 0, 1) := by decide +kernel
theorem dX12_isReader_4 : decode cX12_isReader 4 = .ok (.getfield 249, 3) := by decide +kernel
theorem dX12_isReader_7 : decode cX12_isReader 7 = .ok (.iconst 1, 1) := by decide +kernel
theorem dX12_isReader_8 : decode cX12_isReader 8 = .ok (.isub, 1) := by decide +kernel
theorem dX12_isReader_9 : decode cX12_isReader 9 = .ok (.i2l, 1) := by decide +kernel
theorem dX12_isReader_10 : decode cX12_isReader 10 = .ok (.invokestatic 115, 3) := by decide +kernel
theorem dX12_isReader_13 : decode cX12_isReader 13 = .ok (.ireturn, 1) := by decide +kernel
theorem dX12_isSchool_0 : decode cX12_isSchool 0 = .ok (.iload_n 0, 1) := by decide +kernel
theorem dX12_isSchool_1 : decode cX12_isSchool 1 = .ok (.i2l, 1) := by decide +kernel
theorem dX12_isSchool_2 : decode cX12_isSchool 2 = .ok (.lconst 0, 1) := by decide +kernel
theorem dX12_isSchool_3 : decode cX12_isSchool 3 = .ok (.ldc2_w 252, 3) := by decide +kernel
theorem dX12_isSchool_6 : decode cX12_isSchool 6 = .ok (.invokestatic 115, 3) := by decide +kernel
theorem dX12_isSchool_9 : decode cX12_isSchool 9 = .ok (.ireturn, 1) := by decide +kernel
theorem dX12_reader_0 : decode cX12_reader 0 = .ok (.iload_n 2, 1) := by decide +kernel
theorem dX12_reader_1 : decode cX12_reader 1 = .ok (.invokestatic 254, 3) := by decide +kernel
theorem dX12_reader_4 : decode cX12_reader 4 = .ok (.ifCond .ne 5, 3) := by decide +kernel
theorem dX12_reader_7 : decode cX12_reader 7 = .ok (.iconst (-1), 1) := by decide +kernel
theorem dX12_reader_8 : decode cX12_reader 8 = .ok (.ireturn, 1) := by decide +kernel
theorem dX12_reader_9 : decode cX12_reader 9 = .ok (.iload_n 1, 1) := by decide +kernel
theorem dX12_reader_10 : decode cX12_reader 10 = .ok (.i2l, 1) := by decide +kernel
theorem dX12_reader_11 : decode cX12_reader 11 = .ok (.ldc2_w 252, 3) := by decide +kernel
theorem dX12_reader_14 : decode cX12_reader 14 = .ok (.ldc2_w 257, 3) := by decide +kernel
theorem dX12_reader_17 : decode cX12_reader 17 = .ok (.invokestatic 115, 3) := by decide +kernel
theorem dX12_reader_20 : decode cX12_reader 20 = .ok (.ifCond .ne 6, 3) := by decide +kernel
theorem dX12_reader_23 : decode cX12_reader 23 = .ok (.bipush (-2), 2) := by decide +kernel
theorem dX12_reader_25 : decode cX12_reader 25 = .ok (.ireturn, 1) := by decide +kernel
theorem dX12_reader_26 : decode cX12_reader 26 = .ok (.aload_n 0, 1) := by decide +kernel
theorem dX12_reader_27 : decode cX12_reader 27 = .ok (.getfield 249, 3) := by decide +kernel
theorem dX12_reader_30 : decode cX12_reader 30 = .ok (.bipush 20, 2) := by decide +kernel
theorem dX12_reader_32 : decode cX12_reader 32 = .ok (.if_icmp .ne 6, 3) := by decide +kernel
theorem dX12_reader_35 : decode cX12_reader 35 = .ok (.bipush (-4), 2) := by decide +kernel
theorem dX12_reader_37 : decode cX12_reader 37 = .ok (.ireturn, 1) := by decide +kernel
theorem dX12_reader_38 : decode cX12_reader 38 = .ok (.aload_n 0, 1) := by decide +kernel
theorem dX12_reader_39 : decode cX12_reader 39 = .ok (.getfield 74, 3) := by decide +kernel
theorem dX12_reader_42 : decode cX12_reader 42 = .ok (.aload_n 0, 1) := by decide +kernel
theorem dX12_reader_43 : decode cX12_reader 43 = .ok (.getfield 249, 3) := by decide +kernel
theorem dX12_reader_46 : decode cX12_reader 46 = .ok (.iload_n 1, 1) := by decide +kernel
theorem dX12_reader_47 : decode cX12_reader 47 = .ok (.iastore, 1) := by decide +kernel
theorem dX12_reader_48 : decode cX12_reader 48 = .ok (.aload_n 0, 1) := by decide +kernel
theorem dX12_reader_49 : decode cX12_reader 49 = .ok (.getfield 77, 3) := by decide +kernel
theorem dX12_reader_52 : decode cX12_reader 52 = .ok (.aload_n 0, 1) := by decide +kernel
theorem dX12_reader_53 : decode cX12_reader 53 = .ok (.getfield 249, 3) := by decide +kernel
theorem dX12_reader_56 : decode cX12_reader 56 = .ok (.iload_n 2, 1) := by decide +kernel
theorem dX12_reader_57 : decode cX12_reader 57 = .ok (.iastore, 1) := by decide +kernel
theorem dX12_reader_58 : decode cX12_reader 58 = .ok (.aload_n 0, 1) := by decide +kernel
theorem dX12_reader_59 : decode cX12_reader 59 = .ok (.getfield 80, 3) := by decide +kernel
theorem dX12_reader_62 : decode cX12_reader 62 = .ok (.aload_n 0, 1) := by decide +kernel
theorem dX12_reader_63 : decode cX12_reader 63 = .ok (.getfield 249, 3) := by decide +kernel
theorem dX12_reader_66 : decode cX12_reader 66 = .ok (.iload_n 3, 1) := by decide +kernel
theorem dX12_reader_67 : decode cX12_reader 67 = .ok (.bastore, 1) := by decide +kernel
theorem dX12_reader_68 : decode cX12_reader 68 = .ok (.aload_n 0, 1) := by decide +kernel
theorem dX12_reader_69 : decode cX12_reader 69 = .ok (.dup, 1) := by decide +kernel
theorem dX12_reader_70 : decode cX12_reader 70 = .ok (.getfield 249, 3) := by decide +kernel
theorem dX12_reader_73 : decode cX12_reader 73 = .ok (.iconst 1, 1) := by decide +kernel
theorem dX12_reader_74 : decode cX12_reader 74 = .ok (.iadd, 1) := by decide +kernel
theorem dX12_reader_75 : decode cX12_reader 75 = .ok (.putfield 249, 3) := by decide +kernel
theorem dX12_reader_78 : decode cX12_reader 78 = .ok (.aload_n 0, 1) := by decide +kernel
theorem dX12_reader_79 : decode cX12_reader 79 = .ok (.getfield 249, 3) := by decide +kernel
theorem dX12_reader_82 : decode cX12_reader 82 = .ok (.iconst 1, 1) := by decide +kernel
theorem dX12_reader_83 : decode cX12_reader 83 = .ok (.isub, 1) := by decide +kernel
theorem dX12_reader_84 : decode cX12_reader 84 = .ok (.ireturn, 1) := by decide +kernel
theorem dX12_know_0 : decode cX12_know 0 = .ok (.aload_n 0, 1) := by decide +kernel
theorem dX12_know_1 : decode cX12_know 1 = .ok (.iload_n 1, 1) := by decide +kernel
theorem dX12_know_2 : decode cX12_know 2 = .ok (.invokevirtual 259, 3) := by decide +kernel
theorem dX12_know_5 : decode cX12_know 5 = .ok (.ifCond .eq 10, 3) := by decide +kernel
theorem dX12_know_8 : decode cX12_know 8 = .ok (.iload_n 2, 1) := by decide +kernel
theorem dX12_know_9 : decode cX12_know 9 = .ok (.invokestatic 121, 3) := by decide +kernel
theorem dX12_know_12 : decode cX12_know 12 = .ok (.ifCond .ne 5, 3) := by decide +kernel
theorem dX12_know_15 : decode cX12_know 15 = .ok (.iconst (-1), 1) := by decide +kernel
theorem dX12_know_16 : decode cX12_know 16 = .ok (.ireturn, 1) := by decide +kernel
theorem dX12_know_17 : decode cX12_know 17 = .ok (.iload_n 3, 1) := by decide +kernel
theorem dX12_know_18 : decode cX12_know 18 = .ok (.i2l, 1) := by decide +kernel
theorem dX12_know_19 : decode cX12_know 19 = .ok (.lconst 0, 1) := by decide +kernel
theorem dX12_know_20 : decode cX12_know 20 = .ok (.ldc2_w 262, 3) := by decide +kernel
theorem dX12_know_23 : decode cX12_know 23 = .ok (.invokestatic 115, 3) := by decide +kernel
theorem dX12_know_26 : decode cX12_know 26 = .ok (.ifCond .ne 6, 3) := by decide +kernel
theorem dX12_know_29 : decode cX12_know 29 = .ok (.bipush (-2), 2) := by decide +kernel
theorem dX12_know_31 : decode cX12_know 31 = .ok (.ireturn, 1) := by decide +kernel
theorem dX12_know_32 : decode cX12_know 32 = .ok (.aload_n 0, 1) := by decide +kernel
theorem dX12_know_33 : decode cX12_know 33 = .ok (.getfield 83, 3) := by decide +kernel
theorem dX12_know_36 : decode cX12_know 36 = .ok (.iconst 5, 1) := by decide +kernel
theorem dX12_know_37 : decode cX12_know 37 = .ok (.iload_n 1, 1) := by decide +kernel
theorem dX12_know_38 : decode cX12_know 38 = .ok (.imul, 1) := by decide +kernel
theorem dX12_know_39 : decode cX12_know 39 = .ok (.iload_n 2, 1) := by decide +kernel
theorem dX12_know_40 : decode cX12_know 40 = .ok (.iadd, 1) := by decide +kernel
theorem dX12_know_41 : decode cX12_know 41 = .ok (.iaload, 1) := by decide +kernel
theorem dX12_know_42 : decode cX12_know 42 = .ok (.istore 4, 2) := by decide +kernel
theorem dX12_know_44 : decode cX12_know 44 = .ok (.aload_n 0, 1) := by decide +kernel
theorem dX12_know_45 : decode cX12_know 45 = .ok (.getfield 83, 3) := by decide +kernel
theorem dX12_know_48 : decode cX12_know 48 = .ok (.iconst 5, 1) := by decide +kernel
theorem dX12_know_49 : decode cX12_know 49 = .ok (.iload_n 1, 1) := by decide +kernel
theorem dX12_know_50 : decode cX12_know 50 = .ok (.imul, 1) := by decide +kernel
theorem dX12_know_51 : decode cX12_know 51 = .ok (.iload_n 2, 1) := by decide +kernel
theorem dX12_know_52 : decode cX12_know 52 = .ok (.iadd, 1) := by decide +kernel
theorem dX12_know_53 : decode cX12_know 53 = .ok (.iload_n 3, 1) := by decide +kernel
theorem dX12_know_54 : decode cX12_know 54 = .ok (.iastore, 1) := by decide +kernel
theorem dX12_know_55 : decode cX12_know 55 = .ok (.iload 4, 2) := by decide +kernel
theorem dX12_know_57 : decode cX12_know 57 = .ok (.ireturn, 1) := by decide +kernel
theorem dX12_move_0 : decode cX12_move 0 = .ok (.aload_n 0, 1) := by decide +kernel
theorem dX12_move_1 : decode cX12_move 1 = .ok (.iload_n 1, 1) := by decide +kernel
theorem dX12_move_2 : decode cX12_move 2 = .ok (.invokevirtual 259, 3) := by decide +kernel
theorem dX12_move_5 : decode cX12_move 5 = .ok (.ifCond .eq 10, 3) := by decide +kernel
theorem dX12_move_8 : decode cX12_move 8 = .ok (.iload_n 2, 1) := by decide +kernel
theorem dX12_move_9 : decode cX12_move 9 = .ok (.invokestatic 254, 3) := by decide +kernel
theorem dX12_move_12 : decode cX12_move 12 = .ok (.ifCond .ne 5, 3) := by decide +kernel
theorem dX12_move_15 : decode cX12_move 15 = .ok (.iconst (-1), 1) := by decide +kernel
theorem dX12_move_16 : decode cX12_move 16 = .ok (.ireturn, 1) := by decide +kernel
theorem dX12_move_17 : decode cX12_move 17 = .ok (.aload_n 0, 1) := by decide +kernel
theorem dX12_move_18 : decode cX12_move 18 = .ok (.getfield 77, 3) := by decide +kernel
theorem dX12_move_21 : decode cX12_move 21 = .ok (.iload_n 1, 1) := by decide +kernel
theorem dX12_move_22 : decode cX12_move 22 = .ok (.iaload, 1) := by decide +kernel
theorem dX12_move_23 : decode cX12_move 23 = .ok (.istore_n 3, 1) := by decide +kernel
theorem dX12_move_24 : decode cX12_move 24 = .ok (.aload_n 0, 1) := by decide +kernel
theorem dX12_move_25 : decode cX12_move 25 = .ok (.getfield 77, 3) := by decide +kernel
theorem dX12_move_28 : decode cX12_move 28 = .ok (.iload_n 1, 1) := by decide +kernel
theorem dX12_move_29 : decode cX12_move 29 = .ok (.iload_n 2, 1) := by decide +kernel
theorem dX12_move_30 : decode cX12_move 30 = .ok (.iastore, 1) := by decide +kernel
theorem dX12_move_31 : decode cX12_move 31 = .ok (.iload_n 3, 1) := by decide +kernel
theorem dX12_move_32 : decode cX12_move 32 = .ok (.ireturn, 1) := by decide +kernel
theorem dX12_ownCode_0 : decode cX12_ownCode 0 = .ok (.bipush (-6), 2) := by decide +kernel
theorem dX12_ownCode_2 : decode cX12_ownCode 2 = .ok (.istore_n 2, 1) := by decide +kernel
theorem dX12_ownCode_3 : decode cX12_ownCode 3 = .ok (.iconst 0, 1) := by decide +kernel
theorem dX12_ownCode_4 : decode cX12_ownCode 4 = .ok (.istore_n 3, 1) := by decide +kernel
theorem dX12_ownCode_5 : decode cX12_ownCode 5 = .ok (.iconst 0, 1) := by decide +kernel
theorem dX12_ownCode_6 : decode cX12_ownCode 6 = .ok (.istore 4, 2) := by decide +kernel
theorem dX12_ownCode_8 : decode cX12_ownCode 8 = .ok (.iload 4, 2) := by decide +kernel
theorem dX12_ownCode_10 : decode cX12_ownCode 10 = .ok (.iconst 5, 1) := by decide +kernel
theorem dX12_ownCode_11 : decode cX12_ownCode 11 = .ok (.if_icmp .ge 39, 3) := by decide +kernel
theorem dX12_ownCode_14 : decode cX12_ownCode 14 = .ok (.aload_n 0, 1) := by decide +kernel
theorem dX12_ownCode_15 : decode cX12_ownCode 15 = .ok (.getfield 83, 3) := by decide +kernel
theorem dX12_ownCode_18 : decode cX12_ownCode 18 = .ok (.iconst 5, 1) := by decide +kernel
theorem dX12_ownCode_19 : decode cX12_ownCode 19 = .ok (.iload_n 1, 1) := by decide +kernel
theorem dX12_ownCode_20 : decode cX12_ownCode 20 = .ok (.imul, 1) := by decide +kernel
theorem dX12_ownCode_21 : decode cX12_ownCode 21 = .ok (.iload 4, 2) := by decide +kernel
theorem dX12_ownCode_23 : decode cX12_ownCode 23 = .ok (.iadd, 1) := by decide +kernel
theorem dX12_ownCode_24 : decode cX12_ownCode 24 = .ok (.iaload, 1) := by decide +kernel
theorem dX12_ownCode_25 : decode cX12_ownCode 25 = .ok (.iload_n 3, 1) := by decide +kernel
theorem dX12_ownCode_26 : decode cX12_ownCode 26 = .ok (.if_icmp .le 18, 3) := by decide +kernel
theorem dX12_ownCode_29 : decode cX12_ownCode 29 = .ok (.aload_n 0, 1) := by decide +kernel
theorem dX12_ownCode_30 : decode cX12_ownCode 30 = .ok (.getfield 83, 3) := by decide +kernel
theorem dX12_ownCode_33 : decode cX12_ownCode 33 = .ok (.iconst 5, 1) := by decide +kernel
theorem dX12_ownCode_34 : decode cX12_ownCode 34 = .ok (.iload_n 1, 1) := by decide +kernel
theorem dX12_ownCode_35 : decode cX12_ownCode 35 = .ok (.imul, 1) := by decide +kernel
theorem dX12_ownCode_36 : decode cX12_ownCode 36 = .ok (.iload 4, 2) := by decide +kernel
theorem dX12_ownCode_38 : decode cX12_ownCode 38 = .ok (.iadd, 1) := by decide +kernel
theorem dX12_ownCode_39 : decode cX12_ownCode 39 = .ok (.iaload, 1) := by decide +kernel
theorem dX12_ownCode_40 : decode cX12_ownCode 40 = .ok (.istore_n 3, 1) := by decide +kernel
theorem dX12_ownCode_41 : decode cX12_ownCode 41 = .ok (.iload 4, 2) := by decide +kernel
theorem dX12_ownCode_43 : decode cX12_ownCode 43 = .ok (.istore_n 2, 1) := by decide +kernel
theorem dX12_ownCode_44 : decode cX12_ownCode 44 = .ok (.iinc 4 1, 3) := by decide +kernel
theorem dX12_ownCode_47 : decode cX12_ownCode 47 = .ok (.goto (-39), 3) := by decide +kernel
theorem dX12_ownCode_50 : decode cX12_ownCode 50 = .ok (.iload_n 2, 1) := by decide +kernel
theorem dX12_ownCode_51 : decode cX12_ownCode 51 = .ok (.ireturn, 1) := by decide +kernel
theorem dX12_knows_0 : decode cX12_knows 0 = .ok (.aload_n 0, 1) := by decide +kernel
theorem dX12_knows_1 : decode cX12_knows 1 = .ok (.getfield 83, 3) := by decide +kernel
theorem dX12_knows_4 : decode cX12_knows 4 = .ok (.iconst 5, 1) := by decide +kernel
theorem dX12_knows_5 : decode cX12_knows 5 = .ok (.iload_n 1, 1) := by decide +kernel
theorem dX12_knows_6 : decode cX12_knows 6 = .ok (.imul, 1) := by decide +kernel
theorem dX12_knows_7 : decode cX12_knows 7 = .ok (.iload_n 2, 1) := by decide +kernel
theorem dX12_knows_8 : decode cX12_knows 8 = .ok (.iadd, 1) := by decide +kernel
theorem dX12_knows_9 : decode cX12_knows 9 = .ok (.iaload, 1) := by decide +kernel
theorem dX12_knows_10 : decode cX12_knows 10 = .ok (.ifCond .le 7, 3) := by decide +kernel
theorem dX12_knows_13 : decode cX12_knows 13 = .ok (.iconst 1, 1) := by decide +kernel
theorem dX12_knows_14 : decode cX12_knows 14 = .ok (.goto 4, 3) := by decide +kernel
theorem dX12_knows_17 : decode cX12_knows 17 = .ok (.iconst 0, 1) := by decide +kernel
theorem dX12_knows_18 : decode cX12_knows 18 = .ok (.ireturn, 1) := by decide +kernel
theorem dX12_known_0 : decode cX12_known 0 = .ok (.iconst 0, 1) := by decide +kernel
theorem dX12_known_1 : decode cX12_known 1 = .ok (.istore_n 2, 1) := by decide +kernel
theorem dX12_known_2 : decode cX12_known 2 = .ok (.iconst 0, 1) := by decide +kernel
theorem dX12_known_3 : decode cX12_known 3 = .ok (.istore_n 3, 1) := by decide +kernel
theorem dX12_known_4 : decode cX12_known 4 = .ok (.iload_n 3, 1) := by decide +kernel
theorem dX12_known_5 : decode cX12_known 5 = .ok (.iconst 5, 1) := by decide +kernel
theorem dX12_known_6 : decode cX12_known 6 = .ok (.if_icmp .ge 28, 3) := by decide +kernel
theorem dX12_known_9 : decode cX12_known 9 = .ok (.iload_n 2, 1) := by decide +kernel
theorem dX12_known_10 : decode cX12_known 10 = .ok (.aload_n 0, 1) := by decide +kernel
theorem dX12_known_11 : decode cX12_known 11 = .ok (.iload_n 1, 1) := by decide +kernel
theorem dX12_known_12 : decode cX12_known 12 = .ok (.iload_n 3, 1) := by decide +kernel
theorem dX12_known_13 : decode cX12_known 13 = .ok (.invokevirtual 264, 3) := by decide +kernel
theorem dX12_known_16 : decode cX12_known 16 = .ok (.ifCond .eq 9, 3) := by decide +kernel
theorem dX12_known_19 : decode cX12_known 19 = .ok (.iconst 1, 1) := by decide +kernel
theorem dX12_known_20 : decode cX12_known 20 = .ok (.iload_n 3, 1) := by decide +kernel
theorem dX12_known_21 : decode cX12_known 21 = .ok (.ishl, 1) := by decide +kernel
theorem dX12_known_22 : decode cX12_known 22 = .ok (.goto 4, 3) := by decide +kernel
theorem dX12_known_25 : decode cX12_known 25 = .ok (.iconst 0, 1) := by decide +kernel
theorem dX12_known_26 : decode cX12_known 26 = .ok (.ior, 1) := by decide +kernel
theorem dX12_known_27 : decode cX12_known 27 = .ok (.istore_n 2, 1) := by decide +kernel
theorem dX12_known_28 : decode cX12_known 28 = .ok (.iinc 3 1, 3) := by decide +kernel
theorem dX12_known_31 : decode cX12_known 31 = .ok (.goto (-27), 3) := by decide +kernel
theorem dX12_known_34 : decode cX12_known 34 = .ok (.iload_n 2, 1) := by decide +kernel
theorem dX12_known_35 : decode cX12_known 35 = .ok (.ireturn, 1) := by decide +kernel
theorem dX12_about_0 : decode cX12_about 0 = .ok (.aload_n 0, 1) := by decide +kernel
theorem dX12_about_1 : decode cX12_about 1 = .ok (.iload_n 1, 1) := by decide +kernel
theorem dX12_about_2 : decode cX12_about 2 = .ok (.invokevirtual 259, 3) := by decide +kernel
theorem dX12_about_5 : decode cX12_about 5 = .ok (.ifCond .ne 5, 3) := by decide +kernel
theorem dX12_about_8 : decode cX12_about 8 = .ok (.iconst (-1), 1) := by decide +kernel
theorem dX12_about_9 : decode cX12_about 9 = .ok (.ireturn, 1) := by decide +kernel
theorem dX12_about_10 : decode cX12_about 10 = .ok (.iload_n 2, 1) := by decide +kernel
theorem dX12_about_11 : decode cX12_about 11 = .ok (.tableswitch 74 0 4 #[33, 40, 47, 62, 68], 33) := by decide +kernel
theorem dX12_about_44 : decode cX12_about 44 = .ok (.aload_n 0, 1) := by decide +kernel
theorem dX12_about_45 : decode cX12_about 45 = .ok (.getfield 74, 3) := by decide +kernel
theorem dX12_about_48 : decode cX12_about 48 = .ok (.iload_n 1, 1) := by decide +kernel
theorem dX12_about_49 : decode cX12_about 49 = .ok (.iaload, 1) := by decide +kernel
theorem dX12_about_50 : decode cX12_about 50 = .ok (.ireturn, 1) := by decide +kernel
theorem dX12_about_51 : decode cX12_about 51 = .ok (.aload_n 0, 1) := by decide +kernel
theorem dX12_about_52 : decode cX12_about 52 = .ok (.getfield 77, 3) := by decide +kernel
theorem dX12_about_55 : decode cX12_about 55 = .ok (.iload_n 1, 1) := by decide +kernel
theorem dX12_about_56 : decode cX12_about 56 = .ok (.iaload, 1) := by decide +kernel
theorem dX12_about_57 : decode cX12_about 57 = .ok (.ireturn, 1) := by decide +kernel
theorem dX12_about_58 : decode cX12_about 58 = .ok (.aload_n 0, 1) := by decide +kernel
theorem dX12_about_59 : decode cX12_about 59 = .ok (.getfield 80, 3) := by decide +kernel
theorem dX12_about_62 : decode cX12_about 62 = .ok (.iload_n 1, 1) := by decide +kernel
theorem dX12_about_63 : decode cX12_about 63 = .ok (.baload, 1) := by decide +kernel
theorem dX12_about_64 : decode cX12_about 64 = .ok (.ifCond .eq 7, 3) := by decide +kernel
theorem dX12_about_67 : decode cX12_about 67 = .ok (.iconst 1, 1) := by decide +kernel
theorem dX12_about_68 : decode cX12_about 68 = .ok (.goto 4, 3) := by decide +kernel
theorem dX12_about_71 : decode cX12_about 71 = .ok (.iconst 0, 1) := by decide +kernel
theorem dX12_about_72 : decode cX12_about 72 = .ok (.ireturn, 1) := by decide +kernel
theorem dX12_about_73 : decode cX12_about 73 = .ok (.aload_n 0, 1) := by decide +kernel
theorem dX12_about_74 : decode cX12_about 74 = .ok (.iload_n 1, 1) := by decide +kernel
theorem dX12_about_75 : decode cX12_about 75 = .ok (.invokevirtual 267, 3) := by decide +kernel
theorem dX12_about_78 : decode cX12_about 78 = .ok (.ireturn, 1) := by decide +kernel
theorem dX12_about_79 : decode cX12_about 79 = .ok (.aload_n 0, 1) := by decide +kernel
theorem dX12_about_80 : decode cX12_about 80 = .ok (.iload_n 1, 1) := by decide +kernel
theorem dX12_about_81 : decode cX12_about 81 = .ok (.invokevirtual 270, 3) := by decide +kernel
theorem dX12_about_84 : decode cX12_about 84 = .ok (.ireturn, 1) := by decide +kernel
theorem dX12_about_85 : decode cX12_about 85 = .ok (.iload_n 2, 1) := by decide +kernel
theorem dX12_about_86 : decode cX12_about 86 = .ok (.i2l, 1) := by decide +kernel
theorem dX12_about_87 : decode cX12_about 87 = .ok (.ldc2_w 273, 3) := by decide +kernel
theorem dX12_about_90 : decode cX12_about 90 = .ok (.ldc2_w 275, 3) := by decide +kernel
theorem dX12_about_93 : decode cX12_about 93 = .ok (.invokestatic 115, 3) := by decide +kernel
theorem dX12_about_96 : decode cX12_about 96 = .ok (.ifCond .eq 19, 3) := by decide +kernel
theorem dX12_about_99 : decode cX12_about 99 = .ok (.aload_n 0, 1) := by decide +kernel
theorem dX12_about_100 : decode cX12_about 100 = .ok (.getfield 83, 3) := by decide +kernel
theorem dX12_about_103 : decode cX12_about 103 = .ok (.iconst 5, 1) := by decide +kernel
theorem dX12_about_104 : decode cX12_about 104 = .ok (.iload_n 1, 1) := by decide +kernel
theorem dX12_about_105 : decode cX12_about 105 = .ok (.imul, 1) := by decide +kernel
theorem dX12_about_106 : decode cX12_about 106 = .ok (.iload_n 2, 1) := by decide +kernel
theorem dX12_about_107 : decode cX12_about 107 = .ok (.iadd, 1) := by decide +kernel
theorem dX12_about_108 : decode cX12_about 108 = .ok (.bipush 10, 2) := by decide +kernel
theorem dX12_about_110 : decode cX12_about 110 = .ok (.isub, 1) := by decide +kernel
theorem dX12_about_111 : decode cX12_about 111 = .ok (.iaload, 1) := by decide +kernel
theorem dX12_about_112 : decode cX12_about 112 = .ok (.goto 5, 3) := by decide +kernel
theorem dX12_about_115 : decode cX12_about 115 = .ok (.bipush (-2), 2) := by decide +kernel
theorem dX12_about_117 : decode cX12_about 117 = .ok (.ireturn, 1) := by decide +kernel
theorem dX12_nearOf_0 : decode cX12_nearOf 0 = .ok (.iconst 0, 1) := by decide +kernel
theorem dX12_nearOf_1 : decode cX12_nearOf 1 = .ok (.istore_n 3, 1) := by decide +kernel
theorem dX12_nearOf_2 : decode cX12_nearOf 2 = .ok (.iconst 1, 1) := by decide +kernel
theorem dX12_nearOf_3 : decode cX12_nearOf 3 = .ok (.istore 4, 2) := by decide +kernel
theorem dX12_nearOf_5 : decode cX12_nearOf 5 = .ok (.iload 4, 2) := by decide +kernel
theorem dX12_nearOf_7 : decode cX12_nearOf 7 = .ok (.bipush 64, 2) := by decide +kernel
theorem dX12_nearOf_9 : decode cX12_nearOf 9 = .ok (.if_icmp .ge 81, 3) := by decide +kernel
theorem dX12_nearOf_12 : decode cX12_nearOf 12 = .ok (.iconst 0, 1) := by decide +kernel
theorem dX12_nearOf_13 : decode cX12_nearOf 13 = .ok (.istore 5, 2) := by decide +kernel
theorem dX12_nearOf_15 : decode cX12_nearOf 15 = .ok (.iconst 0, 1) := by decide +kernel
theorem dX12_nearOf_16 : decode cX12_nearOf 16 = .ok (.istore 6, 2) := by decide +kernel
theorem dX12_nearOf_18 : decode cX12_nearOf 18 = .ok (.iload 6, 2) := by decide +kernel
theorem dX12_nearOf_20 : decode cX12_nearOf 20 = .ok (.bipush 26, 2) := by decide +kernel
theorem dX12_nearOf_22 : decode cX12_nearOf 22 = .ok (.if_icmp .ge 38, 3) := by decide +kernel
theorem dX12_nearOf_25 : decode cX12_nearOf 25 = .ok (.iload 5, 2) := by decide +kernel
theorem dX12_nearOf_27 : decode cX12_nearOf 27 = .ok (.ifCond .ne 20, 3) := by decide +kernel
theorem dX12_nearOf_30 : decode cX12_nearOf 30 = .ok (.aload_n 0, 1) := by decide +kernel
theorem dX12_nearOf_31 : decode cX12_nearOf 31 = .ok (.getfield 7, 3) := by decide +kernel
theorem dX12_nearOf_34 : decode cX12_nearOf 34 = .ok (.bipush 26, 2) := by decide +kernel
theorem dX12_nearOf_36 : decode cX12_nearOf 36 = .ok (.iload_n 1, 1) := by decide +kernel
theorem dX12_nearOf_37 : decode cX12_nearOf 37 = .ok (.imul, 1) := by decide +kernel
theorem dX12_nearOf_38 : decode cX12_nearOf 38 = .ok (.iload 6, 2) := by decide +kernel
theorem dX12_nearOf_40 : decode cX12_nearOf 40 = .ok (.iadd, 1) := by decide +kernel
theorem dX12_nearOf_41 : decode cX12_nearOf 41 = .ok (.iaload, 1) := by decide +kernel
theorem dX12_nearOf_42 : decode cX12_nearOf 42 = .ok (.iload 4, 2) := by decide +kernel
theorem dX12_nearOf_44 : decode cX12_nearOf 44 = .ok (.if_icmp .ne 7, 3) := by decide +kernel
theorem dX12_nearOf_47 : decode cX12_nearOf 47 = .ok (.iconst 1, 1) := by decide +kernel
theorem dX12_nearOf_48 : decode cX12_nearOf 48 = .ok (.goto 4, 3) := by decide +kernel
theorem dX12_nearOf_51 : decode cX12_nearOf 51 = .ok (.iconst 0, 1) := by decide +kernel
theorem dX12_nearOf_52 : decode cX12_nearOf 52 = .ok (.istore 5, 2) := by decide +kernel
theorem dX12_nearOf_54 : decode cX12_nearOf 54 = .ok (.iinc 6 1, 3) := by decide +kernel
theorem dX12_nearOf_57 : decode cX12_nearOf 57 = .ok (.goto (-39), 3) := by decide +kernel
theorem dX12_nearOf_60 : decode cX12_nearOf 60 = .ok (.iload_n 3, 1) := by decide +kernel
theorem dX12_nearOf_61 : decode cX12_nearOf 61 = .ok (.iload 5, 2) := by decide +kernel
theorem dX12_nearOf_63 : decode cX12_nearOf 63 = .ok (.ifCond .eq 18, 3) := by decide +kernel
theorem dX12_nearOf_66 : decode cX12_nearOf 66 = .ok (.iload 4, 2) := by decide +kernel
theorem dX12_nearOf_68 : decode cX12_nearOf 68 = .ok (.iload_n 2, 1) := by decide +kernel
theorem dX12_nearOf_69 : decode cX12_nearOf 69 = .ok (.ixor, 1) := by decide +kernel
theorem dX12_nearOf_70 : decode cX12_nearOf 70 = .ok (.invokestatic 150, 3) := by decide +kernel
theorem dX12_nearOf_73 : decode cX12_nearOf 73 = .ok (.iconst 1, 1) := by decide +kernel
theorem dX12_nearOf_74 : decode cX12_nearOf 74 = .ok (.if_icmp .ne 7, 3) := by decide +kernel
theorem dX12_nearOf_77 : decode cX12_nearOf 77 = .ok (.iconst 1, 1) := by decide +kernel
theorem dX12_nearOf_78 : decode cX12_nearOf 78 = .ok (.goto 4, 3) := by decide +kernel
theorem dX12_nearOf_81 : decode cX12_nearOf 81 = .ok (.iconst 0, 1) := by decide +kernel
theorem dX12_nearOf_82 : decode cX12_nearOf 82 = .ok (.iadd, 1) := by decide +kernel
theorem dX12_nearOf_83 : decode cX12_nearOf 83 = .ok (.istore_n 3, 1) := by decide +kernel
theorem dX12_nearOf_84 : decode cX12_nearOf 84 = .ok (.iinc 4 1, 3) := by decide +kernel
theorem dX12_nearOf_87 : decode cX12_nearOf 87 = .ok (.goto (-82), 3) := by decide +kernel
theorem dX12_nearOf_90 : decode cX12_nearOf 90 = .ok (.iload_n 3, 1) := by decide +kernel
theorem dX12_nearOf_91 : decode cX12_nearOf 91 = .ok (.ireturn, 1) := by decide +kernel
theorem dX12_near_0 : decode cX12_near 0 = .ok (.iload_n 1, 1) := by decide +kernel
theorem dX12_near_1 : decode cX12_near 1 = .ok (.invokestatic 121, 3) := by decide +kernel
theorem dX12_near_4 : decode cX12_near 4 = .ok (.ifCond .ne 5, 3) := by decide +kernel
theorem dX12_near_7 : decode cX12_near 7 = .ok (.iconst (-1), 1) := by decide +kernel
theorem dX12_near_8 : decode cX12_near 8 = .ok (.ireturn, 1) := by decide +kernel
theorem dX12_near_9 : decode cX12_near 9 = .ok (.iload_n 2, 1) := by decide +kernel
theorem dX12_near_10 : decode cX12_near 10 = .ok (.i2l, 1) := by decide +kernel
theorem dX12_near_11 : decode cX12_near 11 = .ok (.lconst 1, 1) := by decide +kernel
theorem dX12_near_12 : decode cX12_near 12 = .ok (.ldc2_w 128, 3) := by decide +kernel
theorem dX12_near_15 : decode cX12_near 15 = .ok (.invokestatic 115, 3) := by decide +kernel
theorem dX12_near_18 : decode cX12_near 18 = .ok (.ifCond .eq 12, 3) := by decide +kernel
theorem dX12_near_21 : decode cX12_near 21 = .ok (.aload_n 0, 1) := by decide +kernel
theorem dX12_near_22 : decode cX12_near 22 = .ok (.iload_n 1, 1) := by decide +kernel
theorem dX12_near_23 : decode cX12_near 23 = .ok (.iload_n 2, 1) := by decide +kernel
theorem dX12_near_24 : decode cX12_near 24 = .ok (.invokevirtual 277, 3) := by decide +kernel
theorem dX12_near_27 : decode cX12_near 27 = .ok (.goto 5, 3) := by decide +kernel
theorem dX12_near_30 : decode cX12_near 30 = .ok (.bipush (-2), 2) := by decide +kernel
theorem dX12_near_32 : decode cX12_near 32 = .ok (.ireturn, 1) := by decide +kernel
theorem dX12_pace_0 : decode cX12_pace 0 = .ok (.aload_n 0, 1) := by decide +kernel
theorem dX12_pace_1 : decode cX12_pace 1 = .ok (.iload_n 1, 1) := by decide +kernel
theorem dX12_pace_2 : decode cX12_pace 2 = .ok (.invokevirtual 259, 3) := by decide +kernel
theorem dX12_pace_5 : decode cX12_pace 5 = .ok (.ifCond .eq 10, 3) := by decide +kernel
theorem dX12_pace_8 : decode cX12_pace 8 = .ok (.iload_n 2, 1) := by decide +kernel
theorem dX12_pace_9 : decode cX12_pace 9 = .ok (.invokestatic 121, 3) := by decide +kernel
theorem dX12_pace_12 : decode cX12_pace 12 = .ok (.ifCond .ne 5, 3) := by decide +kernel
theorem dX12_pace_15 : decode cX12_pace 15 = .ok (.iconst (-1), 1) := by decide +kernel
theorem dX12_pace_16 : decode cX12_pace 16 = .ok (.ireturn, 1) := by decide +kernel
theorem dX12_pace_17 : decode cX12_pace 17 = .ok (.aload_n 0, 1) := by decide +kernel
theorem dX12_pace_18 : decode cX12_pace 18 = .ok (.iload_n 1, 1) := by decide +kernel
theorem dX12_pace_19 : decode cX12_pace 19 = .ok (.iload_n 2, 1) := by decide +kernel
theorem dX12_pace_20 : decode cX12_pace 20 = .ok (.invokevirtual 264, 3) := by decide +kernel
theorem dX12_pace_23 : decode cX12_pace 23 = .ok (.ifCond .ne 6, 3) := by decide +kernel
theorem dX12_pace_26 : decode cX12_pace 26 = .ok (.bipush (-3), 2) := by decide +kernel
theorem dX12_pace_28 : decode cX12_pace 28 = .ok (.ireturn, 1) := by decide +kernel
theorem dX12_pace_29 : decode cX12_pace 29 = .ok (.aload_n 0, 1) := by decide +kernel
theorem dX12_pace_30 : decode cX12_pace 30 = .ok (.invokevirtual 184, 3) := by decide +kernel
theorem dX12_pace_33 : decode cX12_pace 33 = .ok (.aload_n 0, 1) := by decide +kernel
theorem dX12_pace_34 : decode cX12_pace 34 = .ok (.iload_n 2, 1) := by decide +kernel
theorem dX12_pace_35 : decode cX12_pace 35 = .ok (.invokevirtual 187, 3) := by decide +kernel
theorem dX12_pace_38 : decode cX12_pace 38 = .ok (.ifCond .ne 6, 3) := by decide +kernel
theorem dX12_pace_41 : decode cX12_pace 41 = .ok (.bipush (-5), 2) := by decide +kernel
theorem dX12_pace_43 : decode cX12_pace 43 = .ok (.ireturn, 1) := by decide +kernel
theorem dX12_pace_44 : decode cX12_pace 44 = .ok (.aload_n 0, 1) := by decide +kernel
theorem dX12_pace_45 : decode cX12_pace 45 = .ok (.iload_n 2, 1) := by decide +kernel
theorem dX12_pace_46 : decode cX12_pace 46 = .ok (.invokevirtual 190, 3) := by decide +kernel
theorem dX12_pace_49 : decode cX12_pace 49 = .ok (.iconst 0, 1) := by decide +kernel
theorem dX12_pace_50 : decode cX12_pace 50 = .ok (.istore_n 3, 1) := by decide +kernel
theorem dX12_pace_51 : decode cX12_pace 51 = .ok (.iconst 0, 1) := by decide +kernel
theorem dX12_pace_52 : decode cX12_pace 52 = .ok (.istore 4, 2) := by decide +kernel
theorem dX12_pace_54 : decode cX12_pace 54 = .ok (.iload 4, 2) := by decide +kernel
theorem dX12_pace_56 : decode cX12_pace 56 = .ok (.aload_n 0, 1) := by decide +kernel
theorem dX12_pace_57 : decode cX12_pace 57 = .ok (.getfield 178, 3) := by decide +kernel
theorem dX12_pace_60 : decode cX12_pace 60 = .ok (.if_icmp .ge 42, 3) := by decide +kernel
theorem dX12_pace_63 : decode cX12_pace 63 = .ok (.iload_n 3, 1) := by decide +kernel
theorem dX12_pace_64 : decode cX12_pace 64 = .ok (.bipush 10, 2) := by decide +kernel
theorem dX12_pace_66 : decode cX12_pace 66 = .ok (.iconst 2, 1) := by decide +kernel
theorem dX12_pace_67 : decode cX12_pace 67 = .ok (.aload_n 0, 1) := by decide +kernel
theorem dX12_pace_68 : decode cX12_pace 68 = .ok (.getfield 40, 3) := by decide +kernel
theorem dX12_pace_71 : decode cX12_pace 71 = .ok (.iload 4, 2) := by decide +kernel
theorem dX12_pace_73 : decode cX12_pace 73 = .ok (.iaload, 1) := by decide +kernel
theorem dX12_pace_74 : decode cX12_pace 74 = .ok (.invokestatic 150, 3) := by decide +kernel
theorem dX12_pace_77 : decode cX12_pace 77 = .ok (.imul, 1) := by decide +kernel
theorem dX12_pace_78 : decode cX12_pace 78 = .ok (.iadd, 1) := by decide +kernel
theorem dX12_pace_79 : decode cX12_pace 79 = .ok (.iconst 3, 1) := by decide +kernel
theorem dX12_pace_80 : decode cX12_pace 80 = .ok (.aload_n 0, 1) := by decide +kernel
theorem dX12_pace_81 : decode cX12_pace 81 = .ok (.iload_n 2, 1) := by decide +kernel
theorem dX12_pace_82 : decode cX12_pace 82 = .ok (.aload_n 0, 1) := by decide +kernel
theorem dX12_pace_83 : decode cX12_pace 83 = .ok (.getfield 40, 3) := by decide +kernel
theorem dX12_pace_86 : decode cX12_pace 86 = .ok (.iload 4, 2) := by decide +kernel
theorem dX12_pace_88 : decode cX12_pace 88 = .ok (.iaload, 1) := by decide +kernel
theorem dX12_pace_89 : decode cX12_pace 89 = .ok (.invokevirtual 277, 3) := by decide +kernel
theorem dX12_pace_92 : decode cX12_pace 92 = .ok (.imul, 1) := by decide +kernel
theorem dX12_pace_93 : decode cX12_pace 93 = .ok (.iadd, 1) := by decide +kernel
theorem dX12_pace_94 : decode cX12_pace 94 = .ok (.iadd, 1) := by decide +kernel
theorem dX12_pace_95 : decode cX12_pace 95 = .ok (.istore_n 3, 1) := by decide +kernel
theorem dX12_pace_96 : decode cX12_pace 96 = .ok (.iinc 4 1, 3) := by decide +kernel
theorem dX12_pace_99 : decode cX12_pace 99 = .ok (.goto (-45), 3) := by decide +kernel
theorem dX12_pace_102 : decode cX12_pace 102 = .ok (.aload_n 0, 1) := by decide +kernel
theorem dX12_pace_103 : decode cX12_pace 103 = .ok (.getfield 74, 3) := by decide +kernel
theorem dX12_pace_106 : decode cX12_pace 106 = .ok (.iload_n 1, 1) := by decide +kernel
theorem dX12_pace_107 : decode cX12_pace 107 = .ok (.iaload, 1) := by decide +kernel
theorem dX12_pace_108 : decode cX12_pace 108 = .ok (.bipush 60, 2) := by decide +kernel
theorem dX12_pace_110 : decode cX12_pace 110 = .ok (.if_icmp .le 15, 3) := by decide +kernel
theorem dX12_pace_113 : decode cX12_pace 113 = .ok (.aload_n 0, 1) := by decide +kernel
theorem dX12_pace_114 : decode cX12_pace 114 = .ok (.getfield 74, 3) := by decide +kernel
theorem dX12_pace_117 : decode cX12_pace 117 = .ok (.iload_n 1, 1) := by decide +kernel
theorem dX12_pace_118 : decode cX12_pace 118 = .ok (.iaload, 1) := by decide +kernel
theorem dX12_pace_119 : decode cX12_pace 119 = .ok (.bipush 60, 2) := by decide +kernel
theorem dX12_pace_121 : decode cX12_pace 121 = .ok (.isub, 1) := by decide +kernel
theorem dX12_pace_122 : decode cX12_pace 122 = .ok (.goto 4, 3) := by decide +kernel
theorem dX12_pace_125 : decode cX12_pace 125 = .ok (.iconst 0, 1) := by decide +kernel
theorem dX12_pace_126 : decode cX12_pace 126 = .ok (.istore 4, 2) := by decide +kernel
theorem dX12_pace_128 : decode cX12_pace 128 = .ok (.iload_n 3, 1) := by decide +kernel
theorem dX12_pace_129 : decode cX12_pace 129 = .ok (.bipush 100, 2) := by decide +kernel
theorem dX12_pace_131 : decode cX12_pace 131 = .ok (.sipush 300, 3) := by decide +kernel
theorem dX12_pace_134 : decode cX12_pace 134 = .ok (.aload_n 0, 1) := by decide +kernel
theorem dX12_pace_135 : decode cX12_pace 135 = .ok (.getfield 83, 3) := by decide +kernel
theorem dX12_pace_138 : decode cX12_pace 138 = .ok (.iconst 5, 1) := by decide +kernel
theorem dX12_pace_139 : decode cX12_pace 139 = .ok (.iload_n 1, 1) := by decide +kernel
theorem dX12_pace_140 : decode cX12_pace 140 = .ok (.imul, 1) := by decide +kernel
theorem dX12_pace_141 : decode cX12_pace 141 = .ok (.iload_n 2, 1) := by decide +kernel
theorem dX12_pace_142 : decode cX12_pace 142 = .ok (.iadd, 1) := by decide +kernel
theorem dX12_pace_143 : decode cX12_pace 143 = .ok (.iaload, 1) := by decide +kernel
theorem dX12_pace_144 : decode cX12_pace 144 = .ok (.iconst 1, 1) := by decide +kernel
theorem dX12_pace_145 : decode cX12_pace 145 = .ok (.iadd, 1) := by decide +kernel
theorem dX12_pace_146 : decode cX12_pace 146 = .ok (.idiv, 1) := by decide +kernel
theorem dX12_pace_147 : decode cX12_pace 147 = .ok (.iadd, 1) := by decide +kernel
theorem dX12_pace_148 : decode cX12_pace 148 = .ok (.iload 4, 2) := by decide +kernel
theorem dX12_pace_150 : decode cX12_pace 150 = .ok (.iadd, 1) := by decide +kernel
theorem dX12_pace_151 : decode cX12_pace 151 = .ok (.imul, 1) := by decide +kernel
theorem dX12_pace_152 : decode cX12_pace 152 = .ok (.bipush 100, 2) := by decide +kernel
theorem dX12_pace_154 : decode cX12_pace 154 = .ok (.idiv, 1) := by decide +kernel
theorem dX12_pace_155 : decode cX12_pace 155 = .ok (.ireturn, 1) := by decide +kernel
theorem dX12_learn_0 : decode cX12_learn 0 = .ok (.aload_n 0, 1) := by decide +kernel
theorem dX12_learn_1 : decode cX12_learn 1 = .ok (.iload_n 1, 1) := by decide +kernel
theorem dX12_learn_2 : decode cX12_learn 2 = .ok (.invokevirtual 259, 3) := by decide +kernel
theorem dX12_learn_5 : decode cX12_learn 5 = .ok (.ifCond .eq 10, 3) := by decide +kernel
theorem dX12_learn_8 : decode cX12_learn 8 = .ok (.iload_n 2, 1) := by decide +kernel
theorem dX12_learn_9 : decode cX12_learn 9 = .ok (.invokestatic 121, 3) := by decide +kernel
theorem dX12_learn_12 : decode cX12_learn 12 = .ok (.ifCond .ne 5, 3) := by decide +kernel
theorem dX12_learn_15 : decode cX12_learn 15 = .ok (.iconst (-1), 1) := by decide +kernel
theorem dX12_learn_16 : decode cX12_learn 16 = .ok (.ireturn, 1) := by decide +kernel
theorem dX12_learn_17 : decode cX12_learn 17 = .ok (.aload_n 0, 1) := by decide +kernel
theorem dX12_learn_18 : decode cX12_learn 18 = .ok (.iload_n 1, 1) := by decide +kernel
theorem dX12_learn_19 : decode cX12_learn 19 = .ok (.iload_n 2, 1) := by decide +kernel
theorem dX12_learn_20 : decode cX12_learn 20 = .ok (.invokevirtual 264, 3) := by decide +kernel
theorem dX12_learn_23 : decode cX12_learn 23 = .ok (.ifCond .eq 5, 3) := by decide +kernel
theorem dX12_learn_26 : decode cX12_learn 26 = .ok (.iconst 0, 1) := by decide +kernel
theorem dX12_learn_27 : decode cX12_learn 27 = .ok (.ireturn, 1) := by decide +kernel
theorem dX12_learn_28 : decode cX12_learn 28 = .ok (.aload_n 0, 1) := by decide +kernel
theorem dX12_learn_29 : decode cX12_learn 29 = .ok (.iload_n 1, 1) := by decide +kernel
theorem dX12_learn_30 : decode cX12_learn 30 = .ok (.invokevirtual 267, 3) := by decide +kernel
theorem dX12_learn_33 : decode cX12_learn 33 = .ok (.istore_n 3, 1) := by decide +kernel
theorem dX12_learn_34 : decode cX12_learn 34 = .ok (.iconst 0, 1) := by decide +kernel
theorem dX12_learn_35 : decode cX12_learn 35 = .ok (.istore 4, 2) := by decide +kernel
theorem dX12_learn_37 : decode cX12_learn 37 = .ok (.iconst 0, 1) := by decide +kernel
theorem dX12_learn_38 : decode cX12_learn 38 = .ok (.istore 5, 2) := by decide +kernel
theorem dX12_learn_40 : decode cX12_learn 40 = .ok (.iload 5, 2) := by decide +kernel
theorem dX12_learn_42 : decode cX12_learn 42 = .ok (.bipush 26, 2) := by decide +kernel
theorem dX12_learn_44 : decode cX12_learn 44 = .ok (.if_icmp .ge 59, 3) := by decide +kernel
theorem dX12_learn_47 : decode cX12_learn 47 = .ok (.aload_n 0, 1) := by decide +kernel
theorem dX12_learn_48 : decode cX12_learn 48 = .ok (.getfield 7, 3) := by decide +kernel
theorem dX12_learn_51 : decode cX12_learn 51 = .ok (.bipush 26, 2) := by decide +kernel
theorem dX12_learn_53 : decode cX12_learn 53 = .ok (.iload_n 2, 1) := by decide +kernel
theorem dX12_learn_54 : decode cX12_learn 54 = .ok (.imul, 1) := by decide +kernel
theorem dX12_learn_55 : decode cX12_learn 55 = .ok (.iload 5, 2) := by decide +kernel
theorem dX12_learn_57 : decode cX12_learn 57 = .ok (.iadd, 1) := by decide +kernel
theorem dX12_learn_58 : decode cX12_learn 58 = .ok (.iaload, 1) := by decide +kernel
theorem dX12_learn_59 : decode cX12_learn 59 = .ok (.istore 6, 2) := by decide +kernel
theorem dX12_learn_61 : decode cX12_learn 61 = .ok (.iload 4, 2) := by decide +kernel
theorem dX12_learn_63 : decode cX12_learn 63 = .ok (.iload 6, 2) := by decide +kernel
theorem dX12_learn_65 : decode cX12_learn 65 = .ok (.ifCond .le 28, 3) := by decide +kernel
theorem dX12_learn_68 : decode cX12_learn 68 = .ok (.iload_n 3, 1) := by decide +kernel
theorem dX12_learn_69 : decode cX12_learn 69 = .ok (.ifCond .lt 20, 3) := by decide +kernel
theorem dX12_learn_72 : decode cX12_learn 72 = .ok (.aload_n 0, 1) := by decide +kernel
theorem dX12_learn_73 : decode cX12_learn 73 = .ok (.getfield 7, 3) := by decide +kernel
theorem dX12_learn_76 : decode cX12_learn 76 = .ok (.bipush 26, 2) := by decide +kernel
theorem dX12_learn_78 : decode cX12_learn 78 = .ok (.iload_n 3, 1) := by decide +kernel
theorem dX12_learn_79 : decode cX12_learn 79 = .ok (.imul, 1) := by decide +kernel
theorem dX12_learn_80 : decode cX12_learn 80 = .ok (.iload 5, 2) := by decide +kernel
theorem dX12_learn_82 : decode cX12_learn 82 = .ok (.iadd, 1) := by decide +kernel
theorem dX12_learn_83 : decode cX12_learn 83 = .ok (.iaload, 1) := by decide +kernel
theorem dX12_learn_84 : decode cX12_learn 84 = .ok (.iload 6, 2) := by decide +kernel
theorem dX12_learn_86 : decode cX12_learn 86 = .ok (.if_icmp .eq 7, 3) := by decide +kernel
theorem dX12_learn_89 : decode cX12_learn 89 = .ok (.iconst 1, 1) := by decide +kernel
theorem dX12_learn_90 : decode cX12_learn 90 = .ok (.goto 4, 3) := by decide +kernel
theorem dX12_learn_93 : decode cX12_learn 93 = .ok (.iconst 0, 1) := by decide +kernel
theorem dX12_learn_94 : decode cX12_learn 94 = .ok (.iadd, 1) := by decide +kernel
theorem dX12_learn_95 : decode cX12_learn 95 = .ok (.istore 4, 2) := by decide +kernel
theorem dX12_learn_97 : decode cX12_learn 97 = .ok (.iinc 5 1, 3) := by decide +kernel
theorem dX12_learn_100 : decode cX12_learn 100 = .ok (.goto (-60), 3) := by decide +kernel
theorem dX12_learn_103 : decode cX12_learn 103 = .ok (.aload_n 0, 1) := by decide +kernel
theorem dX12_learn_104 : decode cX12_learn 104 = .ok (.getfield 74, 3) := by decide +kernel
theorem dX12_learn_107 : decode cX12_learn 107 = .ok (.iload_n 1, 1) := by decide +kernel
theorem dX12_learn_108 : decode cX12_learn 108 = .ok (.iaload, 1) := by decide +kernel
theorem dX12_learn_109 : decode cX12_learn 109 = .ok (.bipush 70, 2) := by decide +kernel
theorem dX12_learn_111 : decode cX12_learn 111 = .ok (.if_icmp .le 13, 3) := by decide +kernel
theorem dX12_learn_114 : decode cX12_learn 114 = .ok (.iload 4, 2) := by decide +kernel
theorem dX12_learn_116 : decode cX12_learn 116 = .ok (.bipush 14, 2) := by decide +kernel
theorem dX12_learn_118 : decode cX12_learn 118 = .ok (.if_icmp .lt 6, 3) := by decide +kernel
theorem dX12_learn_121 : decode cX12_learn 121 = .ok (.bipush (-6), 2) := by decide +kernel
theorem dX12_learn_123 : decode cX12_learn 123 = .ok (.ireturn, 1) := by decide +kernel
theorem dX12_learn_124 : decode cX12_learn 124 = .ok (.iconst 2, 1) := by decide +kernel
theorem dX12_learn_125 : decode cX12_learn 125 = .ok (.iload 4, 2) := by decide +kernel
theorem dX12_learn_127 : decode cX12_learn 127 = .ok (.imul, 1) := by decide +kernel
theorem dX12_learn_128 : decode cX12_learn 128 = .ok (.iconst 3, 1) := by decide +kernel
theorem dX12_learn_129 : decode cX12_learn 129 = .ok (.aload_n 0, 1) := by decide +kernel
theorem dX12_learn_130 : decode cX12_learn 130 = .ok (.getfield 25, 3) := by decide +kernel
theorem dX12_learn_133 : decode cX12_learn 133 = .ok (.iload_n 2, 1) := by decide +kernel
theorem dX12_learn_134 : decode cX12_learn 134 = .ok (.iaload, 1) := by decide +kernel
theorem dX12_learn_135 : decode cX12_learn 135 = .ok (.imul, 1) := by decide +kernel
theorem dX12_learn_136 : decode cX12_learn 136 = .ok (.iadd, 1) := by decide +kernel
theorem dX12_learn_137 : decode cX12_learn 137 = .ok (.bipush 100, 2) := by decide +kernel
theorem dX12_learn_139 : decode cX12_learn 139 = .ok (.aload_n 0, 1) := by decide +kernel
theorem dX12_learn_140 : decode cX12_learn 140 = .ok (.getfield 74, 3) := by decide +kernel
theorem dX12_learn_143 : decode cX12_learn 143 = .ok (.iload_n 1, 1) := by decide +kernel
theorem dX12_learn_144 : decode cX12_learn 144 = .ok (.iaload, 1) := by decide +kernel
theorem dX12_learn_145 : decode cX12_learn 145 = .ok (.iadd, 1) := by decide +kernel
theorem dX12_learn_146 : decode cX12_learn 146 = .ok (.imul, 1) := by decide +kernel
theorem dX12_learn_147 : decode cX12_learn 147 = .ok (.bipush 100, 2) := by decide +kernel
theorem dX12_learn_149 : decode cX12_learn 149 = .ok (.idiv, 1) := by decide +kernel
theorem dX12_learn_150 : decode cX12_learn 150 = .ok (.ireturn, 1) := by decide +kernel
theorem dX12_shelf_0 : decode cX12_shelf 0 = .ok (.iload_n 1, 1) := by decide +kernel
theorem dX12_shelf_1 : decode cX12_shelf 1 = .ok (.invokestatic 254, 3) := by decide +kernel
theorem dX12_shelf_4 : decode cX12_shelf 4 = .ok (.ifCond .eq 17, 3) := by decide +kernel
theorem dX12_shelf_7 : decode cX12_shelf 7 = .ok (.iload_n 2, 1) := by decide +kernel
theorem dX12_shelf_8 : decode cX12_shelf 8 = .ok (.invokestatic 218, 3) := by decide +kernel
theorem dX12_shelf_11 : decode cX12_shelf 11 = .ok (.ifCond .eq 10, 3) := by decide +kernel
theorem dX12_shelf_14 : decode cX12_shelf 14 = .ok (.iload_n 3, 1) := by decide +kernel
theorem dX12_shelf_15 : decode cX12_shelf 15 = .ok (.invokestatic 121, 3) := by decide +kernel
theorem dX12_shelf_18 : decode cX12_shelf 18 = .ok (.ifCond .ne 5, 3) := by decide +kernel
theorem dX12_shelf_21 : decode cX12_shelf 21 = .ok (.iconst (-1), 1) := by decide +kernel
theorem dX12_shelf_22 : decode cX12_shelf 22 = .ok (.ireturn, 1) := by decide +kernel
theorem dX12_shelf_23 : decode cX12_shelf 23 = .ok (.iload 4, 2) := by decide +kernel
theorem dX12_shelf_25 : decode cX12_shelf 25 = .ok (.i2l, 1) := by decide +kernel
theorem dX12_shelf_26 : decode cX12_shelf 26 = .ok (.lconst 0, 1) := by decide +kernel
theorem dX12_shelf_27 : decode cX12_shelf 27 = .ok (.ldc2_w 280, 3) := by decide +kernel
theorem dX12_shelf_30 : decode cX12_shelf 30 = .ok (.invokestatic 115, 3) := by decide +kernel
theorem dX12_shelf_33 : decode cX12_shelf 33 = .ok (.ifCond .ne 6, 3) := by decide +kernel
theorem dX12_shelf_36 : decode cX12_shelf 36 = .ok (.bipush (-2), 2) := by decide +kernel
theorem dX12_shelf_38 : decode cX12_shelf 38 = .ok (.ireturn, 1) := by decide +kernel
theorem dX12_shelf_39 : decode cX12_shelf 39 = .ok (.bipush 40, 2) := by decide +kernel
theorem dX12_shelf_41 : decode cX12_shelf 41 = .ok (.iload_n 1, 1) := by decide +kernel
theorem dX12_shelf_42 : decode cX12_shelf 42 = .ok (.imul, 1) := by decide +kernel
theorem dX12_shelf_43 : decode cX12_shelf 43 = .ok (.iconst 5, 1) := by decide +kernel
theorem dX12_shelf_44 : decode cX12_shelf 44 = .ok (.iload_n 2, 1) := by decide +kernel
theorem dX12_shelf_45 : decode cX12_shelf 45 = .ok (.imul, 1) := by decide +kernel
theorem dX12_shelf_46 : decode cX12_shelf 46 = .ok (.iadd, 1) := by decide +kernel
theorem dX12_shelf_47 : decode cX12_shelf 47 = .ok (.iload_n 3, 1) := by decide +kernel
theorem dX12_shelf_48 : decode cX12_shelf 48 = .ok (.iadd, 1) := by decide +kernel
theorem dX12_shelf_49 : decode cX12_shelf 49 = .ok (.istore 5, 2) := by decide +kernel
theorem dX12_shelf_51 : decode cX12_shelf 51 = .ok (.aload_n 0, 1) := by decide +kernel
theorem dX12_shelf_52 : decode cX12_shelf 52 = .ok (.getfield 86, 3) := by decide +kernel
theorem dX12_shelf_55 : decode cX12_shelf 55 = .ok (.iload 5, 2) := by decide +kernel
theorem dX12_shelf_57 : decode cX12_shelf 57 = .ok (.iaload, 1) := by decide +kernel
theorem dX12_shelf_58 : decode cX12_shelf 58 = .ok (.istore 6, 2) := by decide +kernel
theorem dX12_shelf_60 : decode cX12_shelf 60 = .ok (.aload_n 0, 1) := by decide +kernel
theorem dX12_shelf_61 : decode cX12_shelf 61 = .ok (.getfield 86, 3) := by decide +kernel
theorem dX12_shelf_64 : decode cX12_shelf 64 = .ok (.iload 5, 2) := by decide +kernel
theorem dX12_shelf_66 : decode cX12_shelf 66 = .ok (.iload 4, 2) := by decide +kernel
theorem dX12_shelf_68 : decode cX12_shelf 68 = .ok (.iastore, 1) := by decide +kernel
theorem dX12_shelf_69 : decode cX12_shelf 69 = .ok (.iload 6, 2) := by decide +kernel
theorem dX12_shelf_71 : decode cX12_shelf 71 = .ok (.ireturn, 1) := by decide +kernel
theorem dX12_canRead_0 : decode cX12_canRead 0 = .ok (.iconst 0, 1) := by decide +kernel
theorem dX12_canRead_1 : decode cX12_canRead 1 = .ok (.istore_n 3, 1) := by decide +kernel
theorem dX12_canRead_2 : decode cX12_canRead 2 = .ok (.iconst 0, 1) := by decide +kernel
theorem dX12_canRead_3 : decode cX12_canRead 3 = .ok (.istore 4, 2) := by decide +kernel
theorem dX12_canRead_5 : decode cX12_canRead 5 = .ok (.iload 4, 2) := by decide +kernel
theorem dX12_canRead_7 : decode cX12_canRead 7 = .ok (.iconst 5, 1) := by decide +kernel
theorem dX12_canRead_8 : decode cX12_canRead 8 = .ok (.if_icmp .ge 53, 3) := by decide +kernel
theorem dX12_canRead_11 : decode cX12_canRead 11 = .ok (.iload_n 3, 1) := by decide +kernel
theorem dX12_canRead_12 : decode cX12_canRead 12 = .ok (.ifCond .ne 37, 3) := by decide +kernel
theorem dX12_canRead_15 : decode cX12_canRead 15 = .ok (.aload_n 0, 1) := by decide +kernel
theorem dX12_canRead_16 : decode cX12_canRead 16 = .ok (.iload_n 1, 1) := by decide +kernel
theorem dX12_canRead_17 : decode cX12_canRead 17 = .ok (.iload 4, 2) := by decide +kernel
theorem dX12_canRead_19 : decode cX12_canRead 19 = .ok (.invokevirtual 264, 3) := by decide +kernel
theorem dX12_canRead_22 : decode cX12_canRead 22 = .ok (.ifCond .eq 31, 3) := by decide +kernel
theorem dX12_canRead_25 : decode cX12_canRead 25 = .ok (.aload_n 0, 1) := by decide +kernel
theorem dX12_canRead_26 : decode cX12_canRead 26 = .ok (.getfield 86, 3) := by decide +kernel
theorem dX12_canRead_29 : decode cX12_canRead 29 = .ok (.bipush 40, 2) := by decide +kernel
theorem dX12_canRead_31 : decode cX12_canRead 31 = .ok (.aload_n 0, 1) := by decide +kernel
theorem dX12_canRead_32 : decode cX12_canRead 32 = .ok (.getfield 77, 3) := by decide +kernel
theorem dX12_canRead_35 : decode cX12_canRead 35 = .ok (.iload_n 1, 1) := by decide +kernel
theorem dX12_canRead_36 : decode cX12_canRead 36 = .ok (.iaload, 1) := by decide +kernel
theorem dX12_canRead_37 : decode cX12_canRead 37 = .ok (.imul, 1) := by decide +kernel
theorem dX12_canRead_38 : decode cX12_canRead 38 = .ok (.iconst 5, 1) := by decide +kernel
theorem dX12_canRead_39 : decode cX12_canRead 39 = .ok (.iload_n 2, 1) := by decide +kernel
theorem dX12_canRead_40 : decode cX12_canRead 40 = .ok (.imul, 1) := by decide +kernel
theorem dX12_canRead_41 : decode cX12_canRead 41 = .ok (.iadd, 1) := by decide +kernel
theorem dX12_canRead_42 : decode cX12_canRead 42 = .ok (.iload 4, 2) := by decide +kernel
theorem dX12_canRead_44 : decode cX12_canRead 44 = .ok (.iadd, 1) := by decide +kernel
theorem dX12_canRead_45 : decode cX12_canRead 45 = .ok (.iaload, 1) := by decide +kernel
theorem dX12_canRead_46 : decode cX12_canRead 46 = .ok (.ifCond .le 7, 3) := by decide +kernel
theorem dX12_canRead_49 : decode cX12_canRead 49 = .ok (.iconst 1, 1) := by decide +kernel
theorem dX12_canRead_50 : decode cX12_canRead 50 = .ok (.goto 4, 3) := by decide +kernel
theorem dX12_canRead_53 : decode cX12_canRead 53 = .ok (.iconst 0, 1) := by decide +kernel
theorem dX12_canRead_54 : decode cX12_canRead 54 = .ok (.istore_n 3, 1) := by decide +kernel
theorem dX12_canRead_55 : decode cX12_canRead 55 = .ok (.iinc 4 1, 3) := by decide +kernel
theorem dX12_canRead_58 : decode cX12_canRead 58 = .ok (.goto (-53), 3) := by decide +kernel
theorem dX12_canRead_61 : decode cX12_canRead 61 = .ok (.iload_n 3, 1) := by decide +kernel
theorem dX12_canRead_62 : decode cX12_canRead 62 = .ok (.ireturn, 1) := by decide +kernel
theorem dX12_readBy_0 : decode cX12_readBy 0 = .ok (.iconst 0, 1) := by decide +kernel
theorem dX12_readBy_1 : decode cX12_readBy 1 = .ok (.istore_n 2, 1) := by decide +kernel
theorem dX12_readBy_2 : decode cX12_readBy 2 = .ok (.iconst 0, 1) := by decide +kernel
theorem dX12_readBy_3 : decode cX12_readBy 3 = .ok (.istore_n 3, 1) := by decide +kernel
theorem dX12_readBy_4 : decode cX12_readBy 4 = .ok (.iload_n 3, 1) := by decide +kernel
theorem dX12_readBy_5 : decode cX12_readBy 5 = .ok (.bipush 8, 2) := by decide +kernel
theorem dX12_readBy_7 : decode cX12_readBy 7 = .ok (.if_icmp .ge 28, 3) := by decide +kernel
theorem dX12_readBy_10 : decode cX12_readBy 10 = .ok (.iload_n 2, 1) := by decide +kernel
theorem dX12_readBy_11 : decode cX12_readBy 11 = .ok (.aload_n 0, 1) := by decide +kernel
theorem dX12_readBy_12 : decode cX12_readBy 12 = .ok (.iload_n 1, 1) := by decide +kernel
theorem dX12_readBy_13 : decode cX12_readBy 13 = .ok (.iload_n 3, 1) := by decide +kernel
theorem dX12_readBy_14 : decode cX12_readBy 14 = .ok (.invokevirtual 282, 3) := by decide +kernel
theorem dX12_readBy_17 : decode cX12_readBy 17 = .ok (.ifCond .eq 9, 3) := by decide +kernel
theorem dX12_readBy_20 : decode cX12_readBy 20 = .ok (.iconst 1, 1) := by decide +kernel
theorem dX12_readBy_21 : decode cX12_readBy 21 = .ok (.iload_n 3, 1) := by decide +kernel
theorem dX12_readBy_22 : decode cX12_readBy 22 = .ok (.ishl, 1) := by decide +kernel
theorem dX12_readBy_23 : decode cX12_readBy 23 = .ok (.goto 4, 3) := by decide +kernel
theorem dX12_readBy_26 : decode cX12_readBy 26 = .ok (.iconst 0, 1) := by decide +kernel
theorem dX12_readBy_27 : decode cX12_readBy 27 = .ok (.ior, 1) := by decide +kernel
theorem dX12_readBy_28 : decode cX12_readBy 28 = .ok (.istore_n 2, 1) := by decide +kernel
theorem dX12_readBy_29 : decode cX12_readBy 29 = .ok (.iinc 3 1, 3) := by decide +kernel
theorem dX12_readBy_32 : decode cX12_readBy 32 = .ok (.goto (-28), 3) := by decide +kernel
theorem dX12_readBy_35 : decode cX12_readBy 35 = .ok (.iload_n 2, 1) := by decide +kernel
theorem dX12_readBy_36 : decode cX12_readBy 36 = .ok (.ireturn, 1) := by decide +kernel
theorem dX12_reads_0 : decode cX12_reads 0 = .ok (.aload_n 0, 1) := by decide +kernel
theorem dX12_reads_1 : decode cX12_reads 1 = .ok (.iload_n 1, 1) := by decide +kernel
theorem dX12_reads_2 : decode cX12_reads 2 = .ok (.invokevirtual 259, 3) := by decide +kernel
theorem dX12_reads_5 : decode cX12_reads 5 = .ok (.ifCond .eq 11, 3) := by decide +kernel
theorem dX12_reads_8 : decode cX12_reads 8 = .ok (.aload_n 0, 1) := by decide +kernel
theorem dX12_reads_9 : decode cX12_reads 9 = .ok (.iload_n 1, 1) := by decide +kernel
theorem dX12_reads_10 : decode cX12_reads 10 = .ok (.invokevirtual 285, 3) := by decide +kernel
theorem dX12_reads_13 : decode cX12_reads 13 = .ok (.goto 4, 3) := by decide +kernel
theorem dX12_reads_16 : decode cX12_reads 16 = .ok (.iconst (-1), 1) := by decide +kernel
theorem dX12_reads_17 : decode cX12_reads 17 = .ok (.ireturn, 1) := by decide +kernel
theorem dX12_school_0 : decode cX12_school 0 = .ok (.iload_n 1, 1) := by decide +kernel
theorem dX12_school_1 : decode cX12_school 1 = .ok (.invokestatic 254, 3) := by decide +kernel
theorem dX12_school_4 : decode cX12_school 4 = .ok (.ifCond .ne 5, 3) := by decide +kernel
theorem dX12_school_7 : decode cX12_school 7 = .ok (.iconst (-1), 1) := by decide +kernel
theorem dX12_school_8 : decode cX12_school 8 = .ok (.ireturn, 1) := by decide +kernel
theorem dX12_school_9 : decode cX12_school 9 = .ok (.iload_n 2, 1) := by decide +kernel
theorem dX12_school_10 : decode cX12_school 10 = .ok (.i2l, 1) := by decide +kernel
theorem dX12_school_11 : decode cX12_school 11 = .ok (.lconst 0, 1) := by decide +kernel
theorem dX12_school_12 : decode cX12_school 12 = .ok (.ldc2_w 288, 3) := by decide +kernel
theorem dX12_school_15 : decode cX12_school 15 = .ok (.invokestatic 115, 3) := by decide +kernel
theorem dX12_school_18 : decode cX12_school 18 = .ok (.ifCond .ne 6, 3) := by decide +kernel
theorem dX12_school_21 : decode cX12_school 21 = .ok (.bipush (-2), 2) := by decide +kernel
theorem dX12_school_23 : decode cX12_school 23 = .ok (.ireturn, 1) := by decide +kernel
theorem dX12_school_24 : decode cX12_school 24 = .ok (.iconst 0, 1) := by decide +kernel
theorem dX12_school_25 : decode cX12_school 25 = .ok (.istore_n 3, 1) := by decide +kernel
theorem dX12_school_26 : decode cX12_school 26 = .ok (.iconst 0, 1) := by decide +kernel
theorem dX12_school_27 : decode cX12_school 27 = .ok (.istore 4, 2) := by decide +kernel
theorem dX12_school_29 : decode cX12_school 29 = .ok (.iconst 0, 1) := by decide +kernel
theorem dX12_school_30 : decode cX12_school 30 = .ok (.istore 5, 2) := by decide +kernel
theorem dX12_school_32 : decode cX12_school 32 = .ok (.iconst 0, 1) := by decide +kernel
theorem dX12_school_33 : decode cX12_school 33 = .ok (.istore 6, 2) := by decide +kernel
theorem dX12_school_35 : decode cX12_school 35 = .ok (.iconst 0, 1) := by decide +kernel
theorem dX12_school_36 : decode cX12_school 36 = .ok (.istore 7, 2) := by decide +kernel
theorem dX12_school_38 : decode cX12_school 38 = .ok (.iload 7, 2) := by decide +kernel
theorem dX12_school_40 : decode cX12_school 40 = .ok (.aload_n 0, 1) := by decide +kernel
theorem dX12_school_41 : decode cX12_school 41 = .ok (.getfield 249, 3) := by decide +kernel
theorem dX12_school_44 : decode cX12_school 44 = .ok (.if_icmp .ge 64, 3) := by decide +kernel
theorem dX12_school_47 : decode cX12_school 47 = .ok (.aload_n 0, 1) := by decide +kernel
theorem dX12_school_48 : decode cX12_school 48 = .ok (.getfield 77, 3) := by decide +kernel
theorem dX12_school_51 : decode cX12_school 51 = .ok (.iload 7, 2) := by decide +kernel
theorem dX12_school_53 : decode cX12_school 53 = .ok (.iaload, 1) := by decide +kernel
theorem dX12_school_54 : decode cX12_school 54 = .ok (.iload_n 1, 1) := by decide +kernel
theorem dX12_school_55 : decode cX12_school 55 = .ok (.if_icmp .ne 47, 3) := by decide +kernel
theorem dX12_school_58 : decode cX12_school 58 = .ok (.iinc 3 1, 3) := by decide +kernel
theorem dX12_school_61 : decode cX12_school 61 = .ok (.iload 4, 2) := by decide +kernel
theorem dX12_school_63 : decode cX12_school 63 = .ok (.aload_n 0, 1) := by decide +kernel
theorem dX12_school_64 : decode cX12_school 64 = .ok (.iload 7, 2) := by decide +kernel
theorem dX12_school_66 : decode cX12_school 66 = .ok (.invokevirtual 285, 3) := by decide +kernel
theorem dX12_school_69 : decode cX12_school 69 = .ok (.ifCond .ne 7, 3) := by decide +kernel
theorem dX12_school_72 : decode cX12_school 72 = .ok (.iconst 1, 1) := by decide +kernel
theorem dX12_school_73 : decode cX12_school 73 = .ok (.goto 4, 3) := by decide +kernel
theorem dX12_school_76 : decode cX12_school 76 = .ok (.iconst 0, 1) := by decide +kernel
theorem dX12_school_77 : decode cX12_school 77 = .ok (.iadd, 1) := by decide +kernel
theorem dX12_school_78 : decode cX12_school 78 = .ok (.istore 4, 2) := by decide +kernel
theorem dX12_school_80 : decode cX12_school 80 = .ok (.iload 5, 2) := by decide +kernel
theorem dX12_school_82 : decode cX12_school 82 = .ok (.aload_n 0, 1) := by decide +kernel
theorem dX12_school_83 : decode cX12_school 83 = .ok (.iload 7, 2) := by decide +kernel
theorem dX12_school_85 : decode cX12_school 85 = .ok (.invokevirtual 270, 3) := by decide +kernel
theorem dX12_school_88 : decode cX12_school 88 = .ok (.ior, 1) := by decide +kernel
theorem dX12_school_89 : decode cX12_school 89 = .ok (.istore 5, 2) := by decide +kernel
theorem dX12_school_91 : decode cX12_school 91 = .ok (.iload 6, 2) := by decide +kernel
theorem dX12_school_93 : decode cX12_school 93 = .ok (.aload_n 0, 1) := by decide +kernel
theorem dX12_school_94 : decode cX12_school 94 = .ok (.iload 7, 2) := by decide +kernel
theorem dX12_school_96 : decode cX12_school 96 = .ok (.invokevirtual 285, 3) := by decide +kernel
theorem dX12_school_99 : decode cX12_school 99 = .ok (.ior, 1) := by decide +kernel
theorem dX12_school_100 : decode cX12_school 100 = .ok (.istore 6, 2) := by decide +kernel
theorem dX12_school_102 : decode cX12_school 102 = .ok (.iinc 7 1, 3) := by decide +kernel
theorem dX12_school_105 : decode cX12_school 105 = .ok (.goto (-67), 3) := by decide +kernel
theorem dX12_school_108 : decode cX12_school 108 = .ok (.iconst 0, 1) := by decide +kernel
theorem dX12_school_109 : decode cX12_school 109 = .ok (.istore 7, 2) := by decide +kernel
theorem dX12_school_111 : decode cX12_school 111 = .ok (.iconst 0, 1) := by decide +kernel
theorem dX12_school_112 : decode cX12_school 112 = .ok (.istore 8, 2) := by decide +kernel
theorem dX12_school_114 : decode cX12_school 114 = .ok (.iconst 0, 1) := by decide +kernel
theorem dX12_school_115 : decode cX12_school 115 = .ok (.istore 9, 2) := by decide +kernel
theorem dX12_school_117 : decode cX12_school 117 = .ok (.iload 9, 2) := by decide +kernel
theorem dX12_school_119 : decode cX12_school 119 = .ok (.bipush 40, 2) := by decide +kernel
theorem dX12_school_121 : decode cX12_school 121 = .ok (.if_icmp .ge 72, 3) := by decide +kernel
theorem dX12_school_124 : decode cX12_school 124 = .ok (.iload 7, 2) := by decide +kernel
theorem dX12_school_126 : decode cX12_school 126 = .ok (.iload 5, 2) := by decide +kernel
theorem dX12_school_128 : decode cX12_school 128 = .ok (.iload 9, 2) := by decide +kernel
theorem dX12_school_130 : decode cX12_school 130 = .ok (.iconst 5, 1) := by decide +kernel
theorem dX12_school_131 : decode cX12_school 131 = .ok (.irem, 1) := by decide +kernel
theorem dX12_school_132 : decode cX12_school 132 = .ok (.ishr, 1) := by decide +kernel
theorem dX12_school_133 : decode cX12_school 133 = .ok (.iconst 1, 1) := by decide +kernel
theorem dX12_school_134 : decode cX12_school 134 = .ok (.iand, 1) := by decide +kernel
theorem dX12_school_135 : decode cX12_school 135 = .ok (.ifCond .ne 18, 3) := by decide +kernel
theorem dX12_school_138 : decode cX12_school 138 = .ok (.aload_n 0, 1) := by decide +kernel
theorem dX12_school_139 : decode cX12_school 139 = .ok (.getfield 86, 3) := by decide +kernel
theorem dX12_school_142 : decode cX12_school 142 = .ok (.bipush 40, 2) := by decide +kernel
theorem dX12_school_144 : decode cX12_school 144 = .ok (.iload_n 1, 1) := by decide +kernel
theorem dX12_school_145 : decode cX12_school 145 = .ok (.imul, 1) := by decide +kernel
theorem dX12_school_146 : decode cX12_school 146 = .ok (.iload 9, 2) := by decide +kernel
theorem dX12_school_148 : decode cX12_school 148 = .ok (.iadd, 1) := by decide +kernel
theorem dX12_school_149 : decode cX12_school 149 = .ok (.iaload, 1) := by decide +kernel
theorem dX12_school_150 : decode cX12_school 150 = .ok (.goto 4, 3) := by decide +kernel
theorem dX12_school_153 : decode cX12_school 153 = .ok (.iconst 0, 1) := by decide +kernel
theorem dX12_school_154 : decode cX12_school 154 = .ok (.iadd, 1) := by decide +kernel
theorem dX12_school_155 : decode cX12_school 155 = .ok (.istore 7, 2) := by decide +kernel
theorem dX12_school_157 : decode cX12_school 157 = .ok (.iload 8, 2) := by decide +kernel
theorem dX12_school_159 : decode cX12_school 159 = .ok (.aload_n 0, 1) := by decide +kernel
theorem dX12_school_160 : decode cX12_school 160 = .ok (.getfield 86, 3) := by decide +kernel
theorem dX12_school_163 : decode cX12_school 163 = .ok (.bipush 40, 2) := by decide +kernel
theorem dX12_school_165 : decode cX12_school 165 = .ok (.iload_n 1, 1) := by decide +kernel
theorem dX12_school_166 : decode cX12_school 166 = .ok (.imul, 1) := by decide +kernel
theorem dX12_school_167 : decode cX12_school 167 = .ok (.iload 9, 2) := by decide +kernel
theorem dX12_school_169 : decode cX12_school 169 = .ok (.iadd, 1) := by decide +kernel
theorem dX12_school_170 : decode cX12_school 170 = .ok (.iaload, 1) := by decide +kernel
theorem dX12_school_171 : decode cX12_school 171 = .ok (.ifCond .le 12, 3) := by decide +kernel
theorem dX12_school_174 : decode cX12_school 174 = .ok (.iconst 1, 1) := by decide +kernel
theorem dX12_school_175 : decode cX12_school 175 = .ok (.iload 9, 2) := by decide +kernel
theorem dX12_school_177 : decode cX12_school 177 = .ok (.iconst 5, 1) := by decide +kernel
theorem dX12_school_178 : decode cX12_school 178 = .ok (.idiv, 1) := by decide +kernel
theorem dX12_school_179 : decode cX12_school 179 = .ok (.ishl, 1) := by decide +kernel
theorem dX12_school_180 : decode cX12_school 180 = .ok (.goto 4, 3) := by decide +kernel
theorem dX12_school_183 : decode cX12_school 183 = .ok (.iconst 0, 1) := by decide +kernel
theorem dX12_school_184 : decode cX12_school 184 = .ok (.ior, 1) := by decide +kernel
theorem dX12_school_185 : decode cX12_school 185 = .ok (.istore 8, 2) := by decide +kernel
theorem dX12_school_187 : decode cX12_school 187 = .ok (.iinc 9 1, 3) := by decide +kernel
theorem dX12_school_190 : decode cX12_school 190 = .ok (.goto (-73), 3) := by decide +kernel
theorem dX12_school_193 : decode cX12_school 193 = .ok (.iload_n 2, 1) := by decide +kernel
theorem dX12_school_194 : decode cX12_school 194 = .ok (.ifCond .ne 8, 3) := by decide +kernel
theorem dX12_school_197 : decode cX12_school 197 = .ok (.iload 4, 2) := by decide +kernel
theorem dX12_school_199 : decode cX12_school 199 = .ok (.goto 29, 3) := by decide +kernel
theorem dX12_school_202 : decode cX12_school 202 = .ok (.iload_n 2, 1) := by decide +kernel
theorem dX12_school_203 : decode cX12_school 203 = .ok (.iconst 1, 1) := by decide +kernel
theorem dX12_school_204 : decode cX12_school 204 = .ok (.if_icmp .ne 8, 3) := by decide +kernel
theorem dX12_school_207 : decode cX12_school 207 = .ok (.iload 7, 2) := by decide +kernel
theorem dX12_school_209 : decode cX12_school 209 = .ok (.goto 19, 3) := by decide +kernel
theorem dX12_school_212 : decode cX12_school 212 = .ok (.iload_n 2, 1) := by decide +kernel
theorem dX12_school_213 : decode cX12_school 213 = .ok (.iconst 2, 1) := by decide +kernel
theorem dX12_school_214 : decode cX12_school 214 = .ok (.if_icmp .ne 7, 3) := by decide +kernel
theorem dX12_school_217 : decode cX12_school 217 = .ok (.iload_n 3, 1) := by decide +kernel
theorem dX12_school_218 : decode cX12_school 218 = .ok (.goto 10, 3) := by decide +kernel
theorem dX12_school_221 : decode cX12_school 221 = .ok (.iload 8, 2) := by decide +kernel
theorem dX12_school_223 : decode cX12_school 223 = .ok (.iload 6, 2) := by decide +kernel
theorem dX12_school_225 : decode cX12_school 225 = .ok (.iconst (-1), 1) := by decide +kernel
theorem dX12_school_226 : decode cX12_school 226 = .ok (.ixor, 1) := by decide +kernel
theorem dX12_school_227 : decode cX12_school 227 = .ok (.iand, 1) := by decide +kernel
theorem dX12_school_228 : decode cX12_school 228 = .ok (.ireturn, 1) := by decide +kernel
theorem dX12_layFund_0 : decode cX12_layFund 0 = .ok (.iconst 0, 1) := by decide +kernel
theorem dX12_layFund_1 : decode cX12_layFund 1 = .ok (.istore_n 2, 1) := by decide +kernel
theorem dX12_layFund_2 : decode cX12_layFund 2 = .ok (.iload_n 2, 1) := by decide +kernel
theorem dX12_layFund_3 : decode cX12_layFund 3 = .ok (.bipush 8, 2) := by decide +kernel
theorem dX12_layFund_5 : decode cX12_layFund 5 = .ok (.if_icmp .ge 96, 3) := by decide +kernel
theorem dX12_layFund_8 : decode cX12_layFund 8 = .ok (.aload_n 0, 1) := by decide +kernel
theorem dX12_layFund_9 : decode cX12_layFund 9 = .ok (.getfield 89, 3) := by decide +kernel
theorem dX12_layFund_12 : decode cX12_layFund 12 = .ok (.iload_n 2, 1) := by decide +kernel
theorem dX12_layFund_13 : decode cX12_layFund 13 = .ok (.aload_n 0, 1) := by decide +kernel
theorem dX12_layFund_14 : decode cX12_layFund 14 = .ok (.iload_n 2, 1) := by decide +kernel
theorem dX12_layFund_15 : decode cX12_layFund 15 = .ok (.iload_n 1, 1) := by decide +kernel
theorem dX12_layFund_16 : decode cX12_layFund 16 = .ok (.invokevirtual 232, 3) := by decide +kernel
theorem dX12_layFund_19 : decode cX12_layFund 19 = .ok (.ifCond .eq 18, 3) := by decide +kernel
theorem dX12_layFund_22 : decode cX12_layFund 22 = .ok (.aload_n 0, 1) := by decide +kernel
theorem dX12_layFund_23 : decode cX12_layFund 23 = .ok (.getfield 223, 3) := by decide +kernel
theorem dX12_layFund_26 : decode cX12_layFund 26 = .ok (.sipush 199, 3) := by decide +kernel
theorem dX12_layFund_29 : decode cX12_layFund 29 = .ok (.iadd, 1) := by decide +kernel
theorem dX12_layFund_30 : decode cX12_layFund 30 = .ok (.sipush 200, 3) := by decide +kernel
theorem dX12_layFund_33 : decode cX12_layFund 33 = .ok (.idiv, 1) := by decide +kernel
theorem dX12_layFund_34 : decode cX12_layFund 34 = .ok (.goto 5, 3) := by decide +kernel
theorem dX12_layFund_37 : decode cX12_layFund 37 = .ok (.bipush (-6), 2) := by decide +kernel
theorem dX12_layFund_39 : decode cX12_layFund 39 = .ok (.iastore, 1) := by decide +kernel
theorem dX12_layFund_40 : decode cX12_layFund 40 = .ok (.aload_n 0, 1) := by decide +kernel
theorem dX12_layFund_41 : decode cX12_layFund 41 = .ok (.getfield 92, 3) := by decide +kernel
theorem dX12_layFund_44 : decode cX12_layFund 44 = .ok (.iload_n 2, 1) := by decide +kernel
theorem dX12_layFund_45 : decode cX12_layFund 45 = .ok (.iconst 0, 1) := by decide +kernel
theorem dX12_layFund_46 : decode cX12_layFund 46 = .ok (.iastore, 1) := by decide +kernel
theorem dX12_layFund_47 : decode cX12_layFund 47 = .ok (.iconst 0, 1) := by decide +kernel
theorem dX12_layFund_48 : decode cX12_layFund 48 = .ok (.istore_n 3, 1) := by decide +kernel
theorem dX12_layFund_49 : decode cX12_layFund 49 = .ok (.iload_n 3, 1) := by decide +kernel
theorem dX12_layFund_50 : decode cX12_layFund 50 = .ok (.aload_n 0, 1) := by decide +kernel
theorem dX12_layFund_51 : decode cX12_layFund 51 = .ok (.getfield 249, 3) := by decide +kernel
theorem dX12_layFund_54 : decode cX12_layFund 54 = .ok (.if_icmp .ge 41, 3) := by decide +kernel
theorem dX12_layFund_57 : decode cX12_layFund 57 = .ok (.aload_n 0, 1) := by decide +kernel
theorem dX12_layFund_58 : decode cX12_layFund 58 = .ok (.getfield 92, 3) := by decide +kernel
theorem dX12_layFund_61 : decode cX12_layFund 61 = .ok (.iload_n 2, 1) := by decide +kernel
theorem dX12_layFund_62 : decode cX12_layFund 62 = .ok (.dup2, 1) := by decide +kernel
theorem dX12_layFund_63 : decode cX12_layFund 63 = .ok (.iaload, 1) := by decide +kernel
theorem dX12_layFund_64 : decode cX12_layFund 64 = .ok (.aload_n 0, 1) := by decide +kernel
theorem dX12_layFund_65 : decode cX12_layFund 65 = .ok (.iload_n 3, 1) := by decide +kernel
theorem dX12_layFund_66 : decode cX12_layFund 66 = .ok (.iload_n 1, 1) := by decide +kernel
theorem dX12_layFund_67 : decode cX12_layFund 67 = .ok (.invokevirtual 264, 3) := by decide +kernel
theorem dX12_layFund_70 : decode cX12_layFund 70 = .ok (.ifCond .eq 16, 3) := by decide +kernel
theorem dX12_layFund_73 : decode cX12_layFund 73 = .ok (.aload_n 0, 1) := by decide +kernel
theorem dX12_layFund_74 : decode cX12_layFund 74 = .ok (.iload_n 3, 1) := by decide +kernel
theorem dX12_layFund_75 : decode cX12_layFund 75 = .ok (.iload_n 2, 1) := by decide +kernel
theorem dX12_layFund_76 : decode cX12_layFund 76 = .ok (.invokevirtual 282, 3) := by decide +kernel
theorem dX12_layFund_79 : decode cX12_layFund 79 = .ok (.ifCond .ne 7, 3) := by decide +kernel
theorem dX12_layFund_82 : decode cX12_layFund 82 = .ok (.iconst 1, 1) := by decide +kernel
theorem dX12_layFund_83 : decode cX12_layFund 83 = .ok (.goto 4, 3) := by decide +kernel
theorem dX12_layFund_86 : decode cX12_layFund 86 = .ok (.iconst 0, 1) := by decide +kernel
theorem dX12_layFund_87 : decode cX12_layFund 87 = .ok (.iadd, 1) := by decide +kernel
theorem dX12_layFund_88 : decode cX12_layFund 88 = .ok (.iastore, 1) := by decide +kernel
theorem dX12_layFund_89 : decode cX12_layFund 89 = .ok (.iinc 3 1, 3) := by decide +kernel
theorem dX12_layFund_92 : decode cX12_layFund 92 = .ok (.goto (-43), 3) := by decide +kernel
theorem dX12_layFund_95 : decode cX12_layFund 95 = .ok (.iinc 2 1, 3) := by decide +kernel
theorem dX12_layFund_98 : decode cX12_layFund 98 = .ok (.goto (-96), 3) := by decide +kernel
theorem dX12_layFund_101 : decode cX12_layFund 101 = .ok (.return_, 1) := by decide +kernel
theorem dX12_findFund_0 : decode cX12_findFund 0 = .ok (.aload_n 0, 1) := by decide +kernel
theorem dX12_findFund_1 : decode cX12_findFund 1 = .ok (.iconst 0, 1) := by decide +kernel
theorem dX12_findFund_2 : decode cX12_findFund 2 = .ok (.putfield 290, 3) := by decide +kernel
theorem dX12_findFund_5 : decode cX12_findFund 5 = .ok (.aload_n 0, 1) := by decide +kernel
theorem dX12_findFund_6 : decode cX12_findFund 6 = .ok (.bipush (-6), 2) := by decide +kernel
theorem dX12_findFund_8 : decode cX12_findFund 8 = .ok (.putfield 293, 3) := by decide +kernel
theorem dX12_findFund_11 : decode cX12_findFund 11 = .ok (.aload_n 0, 1) := by decide +kernel
theorem dX12_findFund_12 : decode cX12_findFund 12 = .ok (.iconst 0, 1) := by decide +kernel
theorem dX12_findFund_13 : decode cX12_findFund 13 = .ok (.putfield 296, 3) := by decide +kernel
theorem dX12_findFund_16 : decode cX12_findFund 16 = .ok (.aload_n 0, 1) := by decide +kernel
theorem dX12_findFund_17 : decode cX12_findFund 17 = .ok (.iconst 0, 1) := by decide +kernel
theorem dX12_findFund_18 : decode cX12_findFund 18 = .ok (.putfield 299, 3) := by decide +kernel
theorem dX12_findFund_21 : decode cX12_findFund 21 = .ok (.iconst 0, 1) := by decide +kernel
theorem dX12_findFund_22 : decode cX12_findFund 22 = .ok (.istore_n 2, 1) := by decide +kernel
theorem dX12_findFund_23 : decode cX12_findFund 23 = .ok (.iload_n 2, 1) := by decide +kernel
theorem dX12_findFund_24 : decode cX12_findFund 24 = .ok (.iconst 5, 1) := by decide +kernel
theorem dX12_findFund_25 : decode cX12_findFund 25 = .ok (.if_icmp .ge 36, 3) := by decide +kernel
theorem dX12_findFund_28 : decode cX12_findFund 28 = .ok (.aload_n 0, 1) := by decide +kernel
theorem dX12_findFund_29 : decode cX12_findFund 29 = .ok (.iload_n 2, 1) := by decide +kernel
theorem dX12_findFund_30 : decode cX12_findFund 30 = .ok (.invokevirtual 302, 3) := by decide +kernel
theorem dX12_findFund_33 : decode cX12_findFund 33 = .ok (.iconst 1, 1) := by decide +kernel
theorem dX12_findFund_34 : decode cX12_findFund 34 = .ok (.istore_n 3, 1) := by decide +kernel
theorem dX12_findFund_35 : decode cX12_findFund 35 = .ok (.iload_n 3, 1) := by decide +kernel
theorem dX12_findFund_36 : decode cX12_findFund 36 = .ok (.sipush 256, 3) := by decide +kernel
theorem dX12_findFund_39 : decode cX12_findFund 39 = .ok (.if_icmp .ge 16, 3) := by decide +kernel
theorem dX12_findFund_42 : decode cX12_findFund 42 = .ok (.aload_n 0, 1) := by decide +kernel
theorem dX12_findFund_43 : decode cX12_findFund 43 = .ok (.iload_n 2, 1) := by decide +kernel
theorem dX12_findFund_44 : decode cX12_findFund 44 = .ok (.iload_n 3, 1) := by decide +kernel
theorem dX12_findFund_45 : decode cX12_findFund 45 = .ok (.iload_n 1, 1) := by decide +kernel
theorem dX12_findFund_46 : decode cX12_findFund 46 = .ok (.invokevirtual 305, 3) := by decide +kernel
theorem dX12_findFund_49 : decode cX12_findFund 49 = .ok (.iinc 3 1, 3) := by decide +kernel
theorem dX12_findFund_52 : decode cX12_findFund 52 = .ok (.goto (-17), 3) := by decide +kernel
theorem dX12_findFund_55 : decode cX12_findFund 55 = .ok (.iinc 2 1, 3) := by decide +kernel
theorem dX12_findFund_58 : decode cX12_findFund 58 = .ok (.goto (-35), 3) := by decide +kernel
theorem dX12_findFund_61 : decode cX12_findFund 61 = .ok (.return_, 1) := by decide +kernel
theorem dX12_trySet_0 : decode cX12_trySet 0 = .ok (.iconst 0, 1) := by decide +kernel
theorem dX12_trySet_1 : decode cX12_trySet 1 = .ok (.istore 4, 2) := by decide +kernel
theorem dX12_trySet_3 : decode cX12_trySet 3 = .ok (.iconst 0, 1) := by decide +kernel
theorem dX12_trySet_4 : decode cX12_trySet 4 = .ok (.istore 5, 2) := by decide +kernel
theorem dX12_trySet_6 : decode cX12_trySet 6 = .ok (.iconst 0, 1) := by decide +kernel
theorem dX12_trySet_7 : decode cX12_trySet 7 = .ok (.istore 6, 2) := by decide +kernel
theorem dX12_trySet_9 : decode cX12_trySet 9 = .ok (.iload 6, 2) := by decide +kernel
theorem dX12_trySet_11 : decode cX12_trySet 11 = .ok (.bipush 8, 2) := by decide +kernel
theorem dX12_trySet_13 : decode cX12_trySet 13 = .ok (.if_icmp .ge 54, 3) := by decide +kernel
theorem dX12_trySet_16 : decode cX12_trySet 16 = .ok (.iload_n 2, 1) := by decide +kernel
theorem dX12_trySet_17 : decode cX12_trySet 17 = .ok (.iload 6, 2) := by decide +kernel
theorem dX12_trySet_19 : decode cX12_trySet 19 = .ok (.ishr, 1) := by decide +kernel
theorem dX12_trySet_20 : decode cX12_trySet 20 = .ok (.iconst 1, 1) := by decide +kernel
theorem dX12_trySet_21 : decode cX12_trySet 21 = .ok (.iand, 1) := by decide +kernel
theorem dX12_trySet_22 : decode cX12_trySet 22 = .ok (.iconst 1, 1) := by decide +kernel
theorem dX12_trySet_23 : decode cX12_trySet 23 = .ok (.if_icmp .ne 38, 3) := by decide +kernel
theorem dX12_trySet_26 : decode cX12_trySet 26 = .ok (.aload_n 0, 1) := by decide +kernel
theorem dX12_trySet_27 : decode cX12_trySet 27 = .ok (.getfield 89, 3) := by decide +kernel
theorem dX12_trySet_30 : decode cX12_trySet 30 = .ok (.iload 6, 2) := by decide +kernel
theorem dX12_trySet_32 : decode cX12_trySet 32 = .ok (.iaload, 1) := by decide +kernel
theorem dX12_trySet_33 : decode cX12_trySet 33 = .ok (.ifCond .ge 4, 3) := by decide +kernel
theorem dX12_trySet_36 : decode cX12_trySet 36 = .ok (.return_, 1) := by decide +kernel
theorem dX12_trySet_37 : decode cX12_trySet 37 = .ok (.iload 4, 2) := by decide +kernel
theorem dX12_trySet_39 : decode cX12_trySet 39 = .ok (.aload_n 0, 1) := by decide +kernel
theorem dX12_trySet_40 : decode cX12_trySet 40 = .ok (.getfield 89, 3) := by decide +kernel
theorem dX12_trySet_43 : decode cX12_trySet 43 = .ok (.iload 6, 2) := by decide +kernel
theorem dX12_trySet_45 : decode cX12_trySet 45 = .ok (.iaload, 1) := by decide +kernel
theorem dX12_trySet_46 : decode cX12_trySet 46 = .ok (.iadd, 1) := by decide +kernel
theorem dX12_trySet_47 : decode cX12_trySet 47 = .ok (.istore 4, 2) := by decide +kernel
theorem dX12_trySet_49 : decode cX12_trySet 49 = .ok (.iload 5, 2) := by decide +kernel
theorem dX12_trySet_51 : decode cX12_trySet 51 = .ok (.aload_n 0, 1) := by decide +kernel
theorem dX12_trySet_52 : decode cX12_trySet 52 = .ok (.getfield 92, 3) := by decide +kernel
theorem dX12_trySet_55 : decode cX12_trySet 55 = .ok (.iload 6, 2) := by decide +kernel
theorem dX12_trySet_57 : decode cX12_trySet 57 = .ok (.iaload, 1) := by decide +kernel
theorem dX12_trySet_58 : decode cX12_trySet 58 = .ok (.iadd, 1) := by decide +kernel
theorem dX12_trySet_59 : decode cX12_trySet 59 = .ok (.istore 5, 2) := by decide +kernel
theorem dX12_trySet_61 : decode cX12_trySet 61 = .ok (.iinc 6 1, 3) := by decide +kernel
theorem dX12_trySet_64 : decode cX12_trySet 64 = .ok (.goto (-55), 3) := by decide +kernel
theorem dX12_trySet_67 : decode cX12_trySet 67 = .ok (.iload 5, 2) := by decide +kernel
theorem dX12_trySet_69 : decode cX12_trySet 69 = .ok (.aload_n 0, 1) := by decide +kernel
theorem dX12_trySet_70 : decode cX12_trySet 70 = .ok (.getfield 290, 3) := by decide +kernel
theorem dX12_trySet_73 : decode cX12_trySet 73 = .ok (.if_icmp .gt 29, 3) := by decide +kernel
theorem dX12_trySet_76 : decode cX12_trySet 76 = .ok (.iload 5, 2) := by decide +kernel
theorem dX12_trySet_78 : decode cX12_trySet 78 = .ok (.aload_n 0, 1) := by decide +kernel
theorem dX12_trySet_79 : decode cX12_trySet 79 = .ok (.getfield 290, 3) := by decide +kernel
theorem dX12_trySet_82 : decode cX12_trySet 82 = .ok (.if_icmp .ne 24, 3) := by decide +kernel
theorem dX12_trySet_85 : decode cX12_trySet 85 = .ok (.iload_n 1, 1) := by decide +kernel
theorem dX12_trySet_86 : decode cX12_trySet 86 = .ok (.aload_n 0, 1) := by decide +kernel
theorem dX12_trySet_87 : decode cX12_trySet 87 = .ok (.getfield 293, 3) := by decide +kernel
theorem dX12_trySet_90 : decode cX12_trySet 90 = .ok (.if_icmp .ne 16, 3) := by decide +kernel
theorem dX12_trySet_93 : decode cX12_trySet 93 = .ok (.iload 4, 2) := by decide +kernel
theorem dX12_trySet_95 : decode cX12_trySet 95 = .ok (.aload_n 0, 1) := by decide +kernel
theorem dX12_trySet_96 : decode cX12_trySet 96 = .ok (.getfield 299, 3) := by decide +kernel
theorem dX12_trySet_99 : decode cX12_trySet 99 = .ok (.if_icmp .ge 7, 3) := by decide +kernel
theorem dX12_trySet_102 : decode cX12_trySet 102 = .ok (.iconst 1, 1) := by decide +kernel
theorem dX12_trySet_103 : decode cX12_trySet 103 = .ok (.goto 4, 3) := by decide +kernel
theorem dX12_trySet_106 : decode cX12_trySet 106 = .ok (.iconst 0, 1) := by decide +kernel
theorem dX12_trySet_107 : decode cX12_trySet 107 = .ok (.istore 6, 2) := by decide +kernel
theorem dX12_trySet_109 : decode cX12_trySet 109 = .ok (.iload 4, 2) := by decide +kernel
theorem dX12_trySet_111 : decode cX12_trySet 111 = .ok (.iload_n 3, 1) := by decide +kernel
theorem dX12_trySet_112 : decode cX12_trySet 112 = .ok (.if_icmp .gt 30, 3) := by decide +kernel
theorem dX12_trySet_115 : decode cX12_trySet 115 = .ok (.iload 6, 2) := by decide +kernel
theorem dX12_trySet_117 : decode cX12_trySet 117 = .ok (.ifCond .eq 25, 3) := by decide +kernel
theorem dX12_trySet_120 : decode cX12_trySet 120 = .ok (.aload_n 0, 1) := by decide +kernel
theorem dX12_trySet_121 : decode cX12_trySet 121 = .ok (.iload 5, 2) := by decide +kernel
theorem dX12_trySet_123 : decode cX12_trySet 123 = .ok (.putfield 290, 3) := by decide +kernel
theorem dX12_trySet_126 : decode cX12_trySet 126 = .ok (.aload_n 0, 1) := by decide +kernel
theorem dX12_trySet_127 : decode cX12_trySet 127 = .ok (.iload_n 1, 1) := by decide +kernel
theorem dX12_trySet_128 : decode cX12_trySet 128 = .ok (.putfield 293, 3) := by decide +kernel
theorem dX12_trySet_131 : decode cX12_trySet 131 = .ok (.aload_n 0, 1) := by decide +kernel
theorem dX12_trySet_132 : decode cX12_trySet 132 = .ok (.iload_n 2, 1) := by decide +kernel
theorem dX12_trySet_133 : decode cX12_trySet 133 = .ok (.putfield 296, 3) := by decide +kernel
theorem dX12_trySet_136 : decode cX12_trySet 136 = .ok (.aload_n 0, 1) := by decide +kernel
theorem dX12_trySet_137 : decode cX12_trySet 137 = .ok (.iload 4, 2) := by decide +kernel
theorem dX12_trySet_139 : decode cX12_trySet 139 = .ok (.putfield 299, 3) := by decide +kernel
theorem dX12_trySet_142 : decode cX12_trySet 142 = .ok (.return_, 1) := by decide +kernel
theorem dX12_fund_0 : decode cX12_fund 0 = .ok (.iload_n 1, 1) := by decide +kernel
theorem dX12_fund_1 : decode cX12_fund 1 = .ok (.i2l, 1) := by decide +kernel
theorem dX12_fund_2 : decode cX12_fund 2 = .ok (.lconst 0, 1) := by decide +kernel
theorem dX12_fund_3 : decode cX12_fund 3 = .ok (.ldc2_w 221, 3) := by decide +kernel
theorem dX12_fund_6 : decode cX12_fund 6 = .ok (.invokestatic 115, 3) := by decide +kernel
theorem dX12_fund_9 : decode cX12_fund 9 = .ok (.ifCond .eq 15, 3) := by decide +kernel
theorem dX12_fund_12 : decode cX12_fund 12 = .ok (.iload_n 2, 1) := by decide +kernel
theorem dX12_fund_13 : decode cX12_fund 13 = .ok (.i2l, 1) := by decide +kernel
theorem dX12_fund_14 : decode cX12_fund 14 = .ok (.lconst 0, 1) := by decide +kernel
theorem dX12_fund_15 : decode cX12_fund 15 = .ok (.ldc2_w 288, 3) := by decide +kernel
theorem dX12_fund_18 : decode cX12_fund 18 = .ok (.invokestatic 115, 3) := by decide +kernel
theorem dX12_fund_21 : decode cX12_fund 21 = .ok (.ifCond .ne 6, 3) := by decide +kernel
theorem dX12_fund_24 : decode cX12_fund 24 = .ok (.bipush (-2), 2) := by decide +kernel
theorem dX12_fund_26 : decode cX12_fund 26 = .ok (.ireturn, 1) := by decide +kernel
theorem dX12_fund_27 : decode cX12_fund 27 = .ok (.aload_n 0, 1) := by decide +kernel
theorem dX12_fund_28 : decode cX12_fund 28 = .ok (.iload_n 1, 1) := by decide +kernel
theorem dX12_fund_29 : decode cX12_fund 29 = .ok (.invokevirtual 309, 3) := by decide +kernel
theorem dX12_fund_32 : decode cX12_fund 32 = .ok (.iload_n 2, 1) := by decide +kernel
theorem dX12_fund_33 : decode cX12_fund 33 = .ok (.ifCond .ne 10, 3) := by decide +kernel
theorem dX12_fund_36 : decode cX12_fund 36 = .ok (.aload_n 0, 1) := by decide +kernel
theorem dX12_fund_37 : decode cX12_fund 37 = .ok (.getfield 290, 3) := by decide +kernel
theorem dX12_fund_40 : decode cX12_fund 40 = .ok (.goto 31, 3) := by decide +kernel
theorem dX12_fund_43 : decode cX12_fund 43 = .ok (.iload_n 2, 1) := by decide +kernel
theorem dX12_fund_44 : decode cX12_fund 44 = .ok (.iconst 1, 1) := by decide +kernel
theorem dX12_fund_45 : decode cX12_fund 45 = .ok (.if_icmp .ne 10, 3) := by decide +kernel
theorem dX12_fund_48 : decode cX12_fund 48 = .ok (.aload_n 0, 1) := by decide +kernel
theorem dX12_fund_49 : decode cX12_fund 49 = .ok (.getfield 293, 3) := by decide +kernel
theorem dX12_fund_52 : decode cX12_fund 52 = .ok (.goto 19, 3) := by decide +kernel
theorem dX12_fund_55 : decode cX12_fund 55 = .ok (.iload_n 2, 1) := by decide +kernel
theorem dX12_fund_56 : decode cX12_fund 56 = .ok (.iconst 2, 1) := by decide +kernel
theorem dX12_fund_57 : decode cX12_fund 57 = .ok (.if_icmp .ne 10, 3) := by decide +kernel
theorem dX12_fund_60 : decode cX12_fund 60 = .ok (.aload_n 0, 1) := by decide +kernel
theorem dX12_fund_61 : decode cX12_fund 61 = .ok (.getfield 296, 3) := by decide +kernel
theorem dX12_fund_64 : decode cX12_fund 64 = .ok (.goto 7, 3) := by decide +kernel
theorem dX12_fund_67 : decode cX12_fund 67 = .ok (.aload_n 0, 1) := by decide +kernel
theorem dX12_fund_68 : decode cX12_fund 68 = .ok (.getfield 299, 3) := by decide +kernel
theorem dX12_fund_71 : decode cX12_fund 71 = .ok (.ireturn, 1) := by decide +kernel
theorem dX12_sign_0 : decode cX12_sign 0 = .ok (.iload_n 1, 1) := by decide +kernel
theorem dX12_sign_1 : decode cX12_sign 1 = .ok (.i2l, 1) := by decide +kernel
theorem dX12_sign_2 : decode cX12_sign 2 = .ok (.ldc2_w 312, 3) := by decide +kernel
theorem dX12_sign_5 : decode cX12_sign 5 = .ok (.ldc2_w 314, 3) := by decide +kernel
theorem dX12_sign_8 : decode cX12_sign 8 = .ok (.invokestatic 115, 3) := by decide +kernel
theorem dX12_sign_11 : decode cX12_sign 11 = .ok (.ifCond .ne 6, 3) := by decide +kernel
theorem dX12_sign_14 : decode cX12_sign 14 = .ok (.bipush (-2), 2) := by decide +kernel
theorem dX12_sign_16 : decode cX12_sign 16 = .ok (.ireturn, 1) := by decide +kernel
theorem dX12_sign_17 : decode cX12_sign 17 = .ok (.aload_n 0, 1) := by decide +kernel
theorem dX12_sign_18 : decode cX12_sign 18 = .ok (.getfield 137, 3) := by decide +kernel
theorem dX12_sign_21 : decode cX12_sign 21 = .ok (.bipush 40, 2) := by decide +kernel
theorem dX12_sign_23 : decode cX12_sign 23 = .ok (.if_icmp .ne 6, 3) := by decide +kernel
theorem dX12_sign_26 : decode cX12_sign 26 = .ok (.bipush (-4), 2) := by decide +kernel
theorem dX12_sign_28 : decode cX12_sign 28 = .ok (.ireturn, 1) := by decide +kernel
theorem dX12_sign_29 : decode cX12_sign 29 = .ok (.aload_n 0, 1) := by decide +kernel
theorem dX12_sign_30 : decode cX12_sign 30 = .ok (.getfield 95, 3) := by decide +kernel
theorem dX12_sign_33 : decode cX12_sign 33 = .ok (.aload_n 0, 1) := by decide +kernel
theorem dX12_sign_34 : decode cX12_sign 34 = .ok (.getfield 137, 3) := by decide +kernel
theorem dX12_sign_37 : decode cX12_sign 37 = .ok (.iload_n 1, 1) := by decide +kernel
theorem dX12_sign_38 : decode cX12_sign 38 = .ok (.iastore, 1) := by decide +kernel
theorem dX12_sign_39 : decode cX12_sign 39 = .ok (.aload_n 0, 1) := by decide +kernel
theorem dX12_sign_40 : decode cX12_sign 40 = .ok (.dup, 1) := by decide +kernel
theorem dX12_sign_41 : decode cX12_sign 41 = .ok (.getfield 137, 3) := by decide +kernel
theorem dX12_sign_44 : decode cX12_sign 44 = .ok (.iconst 1, 1) := by decide +kernel
theorem dX12_sign_45 : decode cX12_sign 45 = .ok (.iadd, 1) := by decide +kernel
theorem dX12_sign_46 : decode cX12_sign 46 = .ok (.putfield 137, 3) := by decide +kernel
theorem dX12_sign_49 : decode cX12_sign 49 = .ok (.aload_n 0, 1) := by decide +kernel
theorem dX12_sign_50 : decode cX12_sign 50 = .ok (.getfield 137, 3) := by decide +kernel
theorem dX12_sign_53 : decode cX12_sign 53 = .ok (.ireturn, 1) := by decide +kernel
theorem dX12_isDigit_0 : decode cX12_isDigit 0 = .ok (.iload_n 0, 1) := by decide +kernel
theorem dX12_isDigit_1 : decode cX12_isDigit 1 = .ok (.i2l, 1) := by decide +kernel
theorem dX12_isDigit_2 : decode cX12_isDigit 2 = .ok (.ldc2_w 316, 3) := by decide +kernel
theorem dX12_isDigit_5 : decode cX12_isDigit 5 = .ok (.ldc2_w 318, 3) := by decide +kernel
theorem dX12_isDigit_8 : decode cX12_isDigit 8 = .ok (.invokestatic 115, 3) := by decide +kernel
theorem dX12_isDigit_11 : decode cX12_isDigit 11 = .ok (.ireturn, 1) := by decide +kernel
theorem dX12_stepOf_0 : decode cX12_stepOf 0 = .ok (.iload_n 0, 1) := by decide +kernel
theorem dX12_stepOf_1 : decode cX12_stepOf 1 = .ok (.ifCond .ne 33, 3) := by decide +kernel
theorem dX12_stepOf_4 : decode cX12_stepOf 4 = .ok (.iload_n 1, 1) := by decide +kernel
theorem dX12_stepOf_5 : decode cX12_stepOf 5 = .ok (.bipush 97, 2) := by decide +kernel
theorem dX12_stepOf_7 : decode cX12_stepOf 7 = .ok (.if_icmp .eq 21, 3) := by decide +kernel
theorem dX12_stepOf_10 : decode cX12_stepOf 10 = .ok (.iload_n 1, 1) := by decide +kernel
theorem dX12_stepOf_11 : decode cX12_stepOf 11 = .ok (.bipush 121, 2) := by decide +kernel
theorem dX12_stepOf_13 : decode cX12_stepOf 13 = .ok (.if_icmp .eq 15, 3) := by decide +kernel
theorem dX12_stepOf_16 : decode cX12_stepOf 16 = .ok (.iload_n 1, 1) := by decide +kernel
theorem dX12_stepOf_17 : decode cX12_stepOf 17 = .ok (.bipush 107, 2) := by decide +kernel
theorem dX12_stepOf_19 : decode cX12_stepOf 19 = .ok (.if_icmp .eq 9, 3) := by decide +kernel
theorem dX12_stepOf_22 : decode cX12_stepOf 22 = .ok (.iload_n 1, 1) := by decide +kernel
theorem dX12_stepOf_23 : decode cX12_stepOf 23 = .ok (.bipush 115, 2) := by decide +kernel
theorem dX12_stepOf_25 : decode cX12_stepOf 25 = .ok (.if_icmp .ne 7, 3) := by decide +kernel
theorem dX12_stepOf_28 : decode cX12_stepOf 28 = .ok (.iconst 1, 1) := by decide +kernel
theorem dX12_stepOf_29 : decode cX12_stepOf 29 = .ok (.goto 4, 3) := by decide +kernel
theorem dX12_stepOf_32 : decode cX12_stepOf 32 = .ok (.iconst (-1), 1) := by decide +kernel
theorem dX12_stepOf_33 : decode cX12_stepOf 33 = .ok (.ireturn, 1) := by decide +kernel
theorem dX12_stepOf_34 : decode cX12_stepOf 34 = .ok (.iload_n 0, 1) := by decide +kernel
theorem dX12_stepOf_35 : decode cX12_stepOf 35 = .ok (.iconst 1, 1) := by decide +kernel
theorem dX12_stepOf_36 : decode cX12_stepOf 36 = .ok (.if_icmp .ne 27, 3) := by decide +kernel
theorem dX12_stepOf_39 : decode cX12_stepOf 39 = .ok (.iload_n 1, 1) := by decide +kernel
theorem dX12_stepOf_40 : decode cX12_stepOf 40 = .ok (.bipush 60, 2) := by decide +kernel
theorem dX12_stepOf_42 : decode cX12_stepOf 42 = .ok (.if_icmp .eq 15, 3) := by decide +kernel
theorem dX12_stepOf_45 : decode cX12_stepOf 45 = .ok (.iload_n 1, 1) := by decide +kernel
theorem dX12_stepOf_46 : decode cX12_stepOf 46 = .ok (.bipush 62, 2) := by decide +kernel
theorem dX12_stepOf_48 : decode cX12_stepOf 48 = .ok (.if_icmp .eq 9, 3) := by decide +kernel
theorem dX12_stepOf_51 : decode cX12_stepOf 51 = .ok (.iload_n 1, 1) := by decide +kernel
theorem dX12_stepOf_52 : decode cX12_stepOf 52 = .ok (.bipush 61, 2) := by decide +kernel
theorem dX12_stepOf_54 : decode cX12_stepOf 54 = .ok (.if_icmp .ne 7, 3) := by decide +kernel
theorem dX12_stepOf_57 : decode cX12_stepOf 57 = .ok (.iconst 2, 1) := by decide +kernel
theorem dX12_stepOf_58 : decode cX12_stepOf 58 = .ok (.goto 4, 3) := by decide +kernel
theorem dX12_stepOf_61 : decode cX12_stepOf 61 = .ok (.iconst (-1), 1) := by decide +kernel
theorem dX12_stepOf_62 : decode cX12_stepOf 62 = .ok (.ireturn, 1) := by decide +kernel
theorem dX12_stepOf_63 : decode cX12_stepOf 63 = .ok (.iload_n 1, 1) := by decide +kernel
theorem dX12_stepOf_64 : decode cX12_stepOf 64 = .ok (.invokestatic 320, 3) := by decide +kernel
theorem dX12_stepOf_67 : decode cX12_stepOf 67 = .ok (.ifCond .eq 16, 3) := by decide +kernel
theorem dX12_stepOf_70 : decode cX12_stepOf 70 = .ok (.iload_n 0, 1) := by decide +kernel
theorem dX12_stepOf_71 : decode cX12_stepOf 71 = .ok (.iconst 5, 1) := by decide +kernel
theorem dX12_stepOf_72 : decode cX12_stepOf 72 = .ok (.if_icmp .ge 9, 3) := by decide +kernel
theorem dX12_stepOf_75 : decode cX12_stepOf 75 = .ok (.iload_n 0, 1) := by decide +kernel
theorem dX12_stepOf_76 : decode cX12_stepOf 76 = .ok (.iconst 1, 1) := by decide +kernel
theorem dX12_stepOf_77 : decode cX12_stepOf 77 = .ok (.iadd, 1) := by decide +kernel
theorem dX12_stepOf_78 : decode cX12_stepOf 78 = .ok (.goto 4, 3) := by decide +kernel
theorem dX12_stepOf_81 : decode cX12_stepOf 81 = .ok (.iconst (-1), 1) := by decide +kernel
theorem dX12_stepOf_82 : decode cX12_stepOf 82 = .ok (.ireturn, 1) := by decide +kernel
theorem dX12_stepOf_83 : decode cX12_stepOf 83 = .ok (.iload_n 0, 1) := by decide +kernel
theorem dX12_stepOf_84 : decode cX12_stepOf 84 = .ok (.iconst 2, 1) := by decide +kernel
theorem dX12_stepOf_85 : decode cX12_stepOf 85 = .ok (.if_icmp .le 19, 3) := by decide +kernel
theorem dX12_stepOf_88 : decode cX12_stepOf 88 = .ok (.iload_n 1, 1) := by decide +kernel
theorem dX12_stepOf_89 : decode cX12_stepOf 89 = .ok (.bipush 38, 2) := by decide +kernel
theorem dX12_stepOf_91 : decode cX12_stepOf 91 = .ok (.if_icmp .eq 9, 3) := by decide +kernel
theorem dX12_stepOf_94 : decode cX12_stepOf 94 = .ok (.iload_n 1, 1) := by decide +kernel
theorem dX12_stepOf_95 : decode cX12_stepOf 95 = .ok (.bipush 124, 2) := by decide +kernel
theorem dX12_stepOf_97 : decode cX12_stepOf 97 = .ok (.if_icmp .ne 7, 3) := by decide +kernel
theorem dX12_stepOf_100 : decode cX12_stepOf 100 = .ok (.iconst 0, 1) := by decide +kernel
theorem dX12_stepOf_101 : decode cX12_stepOf 101 = .ok (.goto 4, 3) := by decide +kernel
theorem dX12_stepOf_104 : decode cX12_stepOf 104 = .ok (.iconst (-1), 1) := by decide +kernel
theorem dX12_stepOf_105 : decode cX12_stepOf 105 = .ok (.ireturn, 1) := by decide +kernel
theorem dX12_fault_0 : decode cX12_fault 0 = .ok (.iconst 0, 1) := by decide +kernel
theorem dX12_fault_1 : decode cX12_fault 1 = .ok (.istore_n 1, 1) := by decide +kernel
theorem dX12_fault_2 : decode cX12_fault 2 = .ok (.iconst 0, 1) := by decide +kernel
theorem dX12_fault_3 : decode cX12_fault 3 = .ok (.istore_n 2, 1) := by decide +kernel
theorem dX12_fault_4 : decode cX12_fault 4 = .ok (.iload_n 2, 1) := by decide +kernel
theorem dX12_fault_5 : decode cX12_fault 5 = .ok (.aload_n 0, 1) := by decide +kernel
theorem dX12_fault_6 : decode cX12_fault 6 = .ok (.getfield 137, 3) := by decide +kernel
theorem dX12_fault_9 : decode cX12_fault 9 = .ok (.if_icmp .ge 26, 3) := by decide +kernel
theorem dX12_fault_12 : decode cX12_fault 12 = .ok (.iload_n 1, 1) := by decide +kernel
theorem dX12_fault_13 : decode cX12_fault 13 = .ok (.aload_n 0, 1) := by decide +kernel
theorem dX12_fault_14 : decode cX12_fault 14 = .ok (.getfield 95, 3) := by decide +kernel
theorem dX12_fault_17 : decode cX12_fault 17 = .ok (.iload_n 2, 1) := by decide +kernel
theorem dX12_fault_18 : decode cX12_fault 18 = .ok (.iaload, 1) := by decide +kernel
theorem dX12_fault_19 : decode cX12_fault 19 = .ok (.invokestatic 323, 3) := by decide +kernel
theorem dX12_fault_22 : decode cX12_fault 22 = .ok (.istore_n 1, 1) := by decide +kernel
theorem dX12_fault_23 : decode cX12_fault 23 = .ok (.iload_n 1, 1) := by decide +kernel
theorem dX12_fault_24 : decode cX12_fault 24 = .ok (.ifCond .ge 5, 3) := by decide +kernel
theorem dX12_fault_27 : decode cX12_fault 27 = .ok (.iload_n 2, 1) := by decide +kernel
theorem dX12_fault_28 : decode cX12_fault 28 = .ok (.ireturn, 1) := by decide +kernel
theorem dX12_fault_29 : decode cX12_fault 29 = .ok (.iinc 2 1, 3) := by decide +kernel
theorem dX12_fault_32 : decode cX12_fault 32 = .ok (.goto (-28), 3) := by decide +kernel
theorem dX12_fault_35 : decode cX12_fault 35 = .ok (.iload_n 1, 1) := by decide +kernel
theorem dX12_fault_36 : decode cX12_fault 36 = .ok (.iconst 2, 1) := by decide +kernel
theorem dX12_fault_37 : decode cX12_fault 37 = .ok (.if_icmp .le 8, 3) := by decide +kernel
theorem dX12_fault_40 : decode cX12_fault 40 = .ok (.bipush (-6), 2) := by decide +kernel
theorem dX12_fault_42 : decode cX12_fault 42 = .ok (.goto 7, 3) := by decide +kernel
theorem dX12_fault_45 : decode cX12_fault 45 = .ok (.aload_n 0, 1) := by decide +kernel
theorem dX12_fault_46 : decode cX12_fault 46 = .ok (.getfield 137, 3) := by decide +kernel
theorem dX12_fault_49 : decode cX12_fault 49 = .ok (.ireturn, 1) := by decide +kernel
theorem dX12_board_0 : decode cX12_board 0 = .ok (.iload_n 1, 1) := by decide +kernel
theorem dX12_board_1 : decode cX12_board 1 = .ok (.invokestatic 254, 3) := by decide +kernel
theorem dX12_board_4 : decode cX12_board 4 = .ok (.ifCond .ne 5, 3) := by decide +kernel
theorem dX12_board_7 : decode cX12_board 7 = .ok (.iconst (-1), 1) := by decide +kernel
theorem dX12_board_8 : decode cX12_board 8 = .ok (.ireturn, 1) := by decide +kernel
theorem dX12_board_9 : decode cX12_board 9 = .ok (.aload_n 0, 1) := by decide +kernel
theorem dX12_board_10 : decode cX12_board 10 = .ok (.invokevirtual 326, 3) := by decide +kernel
theorem dX12_board_13 : decode cX12_board 13 = .ok (.ifCond .lt 6, 3) := by decide +kernel
theorem dX12_board_16 : decode cX12_board 16 = .ok (.bipush (-5), 2) := by decide +kernel
theorem dX12_board_18 : decode cX12_board 18 = .ok (.ireturn, 1) := by decide +kernel
theorem dX12_board_19 : decode cX12_board 19 = .ok (.aload_n 0, 1) := by decide +kernel
theorem dX12_board_20 : decode cX12_board 20 = .ok (.getfield 101, 3) := by decide +kernel
theorem dX12_board_23 : decode cX12_board 23 = .ok (.iload_n 1, 1) := by decide +kernel
theorem dX12_board_24 : decode cX12_board 24 = .ok (.iaload, 1) := by decide +kernel
theorem dX12_board_25 : decode cX12_board 25 = .ok (.istore_n 2, 1) := by decide +kernel
theorem dX12_board_26 : decode cX12_board 26 = .ok (.iconst 0, 1) := by decide +kernel
theorem dX12_board_27 : decode cX12_board 27 = .ok (.istore_n 3, 1) := by decide +kernel
theorem dX12_board_28 : decode cX12_board 28 = .ok (.iload_n 3, 1) := by decide +kernel
theorem dX12_board_29 : decode cX12_board 29 = .ok (.aload_n 0, 1) := by decide +kernel
theorem dX12_board_30 : decode cX12_board 30 = .ok (.getfield 137, 3) := by decide +kernel
theorem dX12_board_33 : decode cX12_board 33 = .ok (.if_icmp .ge 26, 3) := by decide +kernel
theorem dX12_board_36 : decode cX12_board 36 = .ok (.aload_n 0, 1) := by decide +kernel
theorem dX12_board_37 : decode cX12_board 37 = .ok (.getfield 98, 3) := by decide +kernel
theorem dX12_board_40 : decode cX12_board 40 = .ok (.bipush 40, 2) := by decide +kernel
theorem dX12_board_42 : decode cX12_board 42 = .ok (.iload_n 1, 1) := by decide +kernel
theorem dX12_board_43 : decode cX12_board 43 = .ok (.imul, 1) := by decide +kernel
theorem dX12_board_44 : decode cX12_board 44 = .ok (.iload_n 3, 1) := by decide +kernel
theorem dX12_board_45 : decode cX12_board 45 = .ok (.iadd, 1) := by decide +kernel
theorem dX12_board_46 : decode cX12_board 46 = .ok (.aload_n 0, 1) := by decide +kernel
theorem dX12_board_47 : decode cX12_board 47 = .ok (.getfield 95, 3) := by decide +kernel
theorem dX12_board_50 : decode cX12_board 50 = .ok (.iload_n 3, 1) := by decide +kernel
theorem dX12_board_51 : decode cX12_board 51 = .ok (.iaload, 1) := by decide +kernel
theorem dX12_board_52 : decode cX12_board 52 = .ok (.iastore, 1) := by decide +kernel
theorem dX12_board_53 : decode cX12_board 53 = .ok (.iinc 3 1, 3) := by decide +kernel
theorem dX12_board_56 : decode cX12_board 56 = .ok (.goto (-28), 3) := by decide +kernel
theorem dX12_board_59 : decode cX12_board 59 = .ok (.aload_n 0, 1) := by decide +kernel
theorem dX12_board_60 : decode cX12_board 60 = .ok (.getfield 101, 3) := by decide +kernel
theorem dX12_board_63 : decode cX12_board 63 = .ok (.iload_n 1, 1) := by decide +kernel
theorem dX12_board_64 : decode cX12_board 64 = .ok (.aload_n 0, 1) := by decide +kernel
theorem dX12_board_65 : decode cX12_board 65 = .ok (.getfield 137, 3) := by decide +kernel
theorem dX12_board_68 : decode cX12_board 68 = .ok (.iastore, 1) := by decide +kernel
theorem dX12_board_69 : decode cX12_board 69 = .ok (.aload_n 0, 1) := by decide +kernel
theorem dX12_board_70 : decode cX12_board 70 = .ok (.iconst 0, 1) := by decide +kernel
theorem dX12_board_71 : decode cX12_board 71 = .ok (.putfield 137, 3) := by decide +kernel
theorem dX12_board_74 : decode cX12_board 74 = .ok (.iload_n 2, 1) := by decide +kernel
theorem dX12_board_75 : decode cX12_board 75 = .ok (.ifCond .ge 7, 3) := by decide +kernel
theorem dX12_board_78 : decode cX12_board 78 = .ok (.iconst 1, 1) := by decide +kernel
theorem dX12_board_79 : decode cX12_board 79 = .ok (.goto 4, 3) := by decide +kernel
theorem dX12_board_82 : decode cX12_board 82 = .ok (.iconst 0, 1) := by decide +kernel
theorem dX12_board_83 : decode cX12_board 83 = .ok (.ireturn, 1) := by decide +kernel
theorem dX12_factOf_0 : decode cX12_factOf 0 = .ok (.iload_n 2, 1) := by decide +kernel
theorem dX12_factOf_1 : decode cX12_factOf 1 = .ok (.lookupswitch 78 #[(97, 35), (107, 69), (121, 42)], 35) := by decide +kernel
theorem dX12_factOf_36 : decode cX12_factOf 36 = .ok (.aload_n 0, 1) := by decide +kernel
theorem dX12_factOf_37 : decode cX12_factOf 37 = .ok (.getfield 74, 3) := by decide +kernel
theorem dX12_factOf_40 : decode cX12_factOf 40 = .ok (.iload_n 1, 1) := by decide +kernel
theorem dX12_factOf_41 : decode cX12_factOf 41 = .ok (.iaload, 1) := by decide +kernel
theorem dX12_factOf_42 : decode cX12_factOf 42 = .ok (.ireturn, 1) := by decide +kernel
theorem dX12_factOf_43 : decode cX12_factOf 43 = .ok (.aload_n 0, 1) := by decide +kernel
theorem dX12_factOf_44 : decode cX12_factOf 44 = .ok (.iload_n 1, 1) := by decide +kernel
theorem dX12_factOf_45 : decode cX12_factOf 45 = .ok (.invokevirtual 267, 3) := by decide +kernel
theorem dX12_factOf_48 : decode cX12_factOf 48 = .ok (.ifCond .ge 7, 3) := by decide +kernel
theorem dX12_factOf_51 : decode cX12_factOf 51 = .ok (.iconst 0, 1) := by decide +kernel
theorem dX12_factOf_52 : decode cX12_factOf 52 = .ok (.goto 17, 3) := by decide +kernel
theorem dX12_factOf_55 : decode cX12_factOf 55 = .ok (.aload_n 0, 1) := by decide +kernel
theorem dX12_factOf_56 : decode cX12_factOf 56 = .ok (.getfield 83, 3) := by decide +kernel
theorem dX12_factOf_59 : decode cX12_factOf 59 = .ok (.iconst 5, 1) := by decide +kernel
theorem dX12_factOf_60 : decode cX12_factOf 60 = .ok (.iload_n 1, 1) := by decide +kernel
theorem dX12_factOf_61 : decode cX12_factOf 61 = .ok (.imul, 1) := by decide +kernel
theorem dX12_factOf_62 : decode cX12_factOf 62 = .ok (.aload_n 0, 1) := by decide +kernel
theorem dX12_factOf_63 : decode cX12_factOf 63 = .ok (.iload_n 1, 1) := by decide +kernel
theorem dX12_factOf_64 : decode cX12_factOf 64 = .ok (.invokevirtual 267, 3) := by decide +kernel
theorem dX12_factOf_67 : decode cX12_factOf 67 = .ok (.iadd, 1) := by decide +kernel
theorem dX12_factOf_68 : decode cX12_factOf 68 = .ok (.iaload, 1) := by decide +kernel
theorem dX12_factOf_69 : decode cX12_factOf 69 = .ok (.ireturn, 1) := by decide +kernel
theorem dX12_factOf_70 : decode cX12_factOf 70 = .ok (.aload_n 0, 1) := by decide +kernel
theorem dX12_factOf_71 : decode cX12_factOf 71 = .ok (.iload_n 1, 1) := by decide +kernel
theorem dX12_factOf_72 : decode cX12_factOf 72 = .ok (.invokevirtual 270, 3) := by decide +kernel
theorem dX12_factOf_75 : decode cX12_factOf 75 = .ok (.invokestatic 150, 3) := by decide +kernel
theorem dX12_factOf_78 : decode cX12_factOf 78 = .ok (.ireturn, 1) := by decide +kernel
theorem dX12_factOf_79 : decode cX12_factOf 79 = .ok (.aload_n 0, 1) := by decide +kernel
theorem dX12_factOf_80 : decode cX12_factOf 80 = .ok (.getfield 80, 3) := by decide +kernel
theorem dX12_factOf_83 : decode cX12_factOf 83 = .ok (.iload_n 1, 1) := by decide +kernel
theorem dX12_factOf_84 : decode cX12_factOf 84 = .ok (.baload, 1) := by decide +kernel
theorem dX12_factOf_85 : decode cX12_factOf 85 = .ok (.ifCond .eq 7, 3) := by decide +kernel
theorem dX12_factOf_88 : decode cX12_factOf 88 = .ok (.iconst 1, 1) := by decide +kernel
theorem dX12_factOf_89 : decode cX12_factOf 89 = .ok (.goto 4, 3) := by decide +kernel
theorem dX12_factOf_92 : decode cX12_factOf 92 = .ok (.iconst 0, 1) := by decide +kernel
theorem dX12_factOf_93 : decode cX12_factOf 93 = .ok (.ireturn, 1) := by decide +kernel
theorem dX12_mayVote_0 : decode cX12_mayVote 0 = .ok (.iconst 1, 1) := by decide +kernel
theorem dX12_mayVote_1 : decode cX12_mayVote 1 = .ok (.istore_n 3, 1) := by decide +kernel
theorem dX12_mayVote_2 : decode cX12_mayVote 2 = .ok (.bipush 40, 2) := by decide +kernel
theorem dX12_mayVote_4 : decode cX12_mayVote 4 = .ok (.iload_n 1, 1) := by decide +kernel
theorem dX12_mayVote_5 : decode cX12_mayVote 5 = .ok (.imul, 1) := by decide +kernel
theorem dX12_mayVote_6 : decode cX12_mayVote 6 = .ok (.istore 4, 2) := by decide +kernel
theorem dX12_mayVote_8 : decode cX12_mayVote 8 = .ok (.iload 4, 2) := by decide +kernel
theorem dX12_mayVote_10 : decode cX12_mayVote 10 = .ok (.aload_n 0, 1) := by decide +kernel
theorem dX12_mayVote_11 : decode cX12_mayVote 11 = .ok (.getfield 101, 3) := by decide +kernel
theorem dX12_mayVote_14 : decode cX12_mayVote 14 = .ok (.iload_n 1, 1) := by decide +kernel
theorem dX12_mayVote_15 : decode cX12_mayVote 15 = .ok (.iaload, 1) := by decide +kernel
theorem dX12_mayVote_16 : decode cX12_mayVote 16 = .ok (.iadd, 1) := by decide +kernel
theorem dX12_mayVote_17 : decode cX12_mayVote 17 = .ok (.istore 5, 2) := by decide +kernel
theorem dX12_mayVote_19 : decode cX12_mayVote 19 = .ok (.iload 4, 2) := by decide +kernel
theorem dX12_mayVote_21 : decode cX12_mayVote 21 = .ok (.iload 5, 2) := by decide +kernel
theorem dX12_mayVote_23 : decode cX12_mayVote 23 = .ok (.if_icmp .ge 162, 3) := by decide +kernel
theorem dX12_mayVote_26 : decode cX12_mayVote 26 = .ok (.aload_n 0, 1) := by decide +kernel
theorem dX12_mayVote_27 : decode cX12_mayVote 27 = .ok (.iload_n 2, 1) := by decide +kernel
theorem dX12_mayVote_28 : decode cX12_mayVote 28 = .ok (.aload_n 0, 1) := by decide +kernel
theorem dX12_mayVote_29 : decode cX12_mayVote 29 = .ok (.getfield 98, 3) := by decide +kernel
theorem dX12_mayVote_32 : decode cX12_mayVote 32 = .ok (.iload 4, 2) := by decide +kernel
theorem dX12_mayVote_34 : decode cX12_mayVote 34 = .ok (.iaload, 1) := by decide +kernel
theorem dX12_mayVote_35 : decode cX12_mayVote 35 = .ok (.invokevirtual 330, 3) := by decide +kernel
theorem dX12_mayVote_38 : decode cX12_mayVote 38 = .ok (.istore 6, 2) := by decide +kernel
theorem dX12_mayVote_40 : decode cX12_mayVote 40 = .ok (.aload_n 0, 1) := by decide +kernel
theorem dX12_mayVote_41 : decode cX12_mayVote 41 = .ok (.getfield 98, 3) := by decide +kernel
theorem dX12_mayVote_44 : decode cX12_mayVote 44 = .ok (.iload 4, 2) := by decide +kernel
theorem dX12_mayVote_46 : decode cX12_mayVote 46 = .ok (.iconst 1, 1) := by decide +kernel
theorem dX12_mayVote_47 : decode cX12_mayVote 47 = .ok (.iadd, 1) := by decide +kernel
theorem dX12_mayVote_48 : decode cX12_mayVote 48 = .ok (.iaload, 1) := by decide +kernel
theorem dX12_mayVote_49 : decode cX12_mayVote 49 = .ok (.istore 7, 2) := by decide +kernel
theorem dX12_mayVote_51 : decode cX12_mayVote 51 = .ok (.iconst 0, 1) := by decide +kernel
theorem dX12_mayVote_52 : decode cX12_mayVote 52 = .ok (.istore 8, 2) := by decide +kernel
theorem dX12_mayVote_54 : decode cX12_mayVote 54 = .ok (.iinc 4 2, 3) := by decide +kernel
theorem dX12_mayVote_57 : decode cX12_mayVote 57 = .ok (.iload 4, 2) := by decide +kernel
theorem dX12_mayVote_59 : decode cX12_mayVote 59 = .ok (.iload 5, 2) := by decide +kernel
theorem dX12_mayVote_61 : decode cX12_mayVote 61 = .ok (.if_icmp .ge 40, 3) := by decide +kernel
theorem dX12_mayVote_64 : decode cX12_mayVote 64 = .ok (.aload_n 0, 1) := by decide +kernel
theorem dX12_mayVote_65 : decode cX12_mayVote 65 = .ok (.getfield 98, 3) := by decide +kernel
theorem dX12_mayVote_68 : decode cX12_mayVote 68 = .ok (.iload 4, 2) := by decide +kernel
theorem dX12_mayVote_70 : decode cX12_mayVote 70 = .ok (.iaload, 1) := by decide +kernel
theorem dX12_mayVote_71 : decode cX12_mayVote 71 = .ok (.invokestatic 320, 3) := by decide +kernel
theorem dX12_mayVote_74 : decode cX12_mayVote 74 = .ok (.ifCond .eq 27, 3) := by decide +kernel
theorem dX12_mayVote_77 : decode cX12_mayVote 77 = .ok (.bipush 10, 2) := by decide +kernel
theorem dX12_mayVote_79 : decode cX12_mayVote 79 = .ok (.iload 8, 2) := by decide +kernel
theorem dX12_mayVote_81 : decode cX12_mayVote 81 = .ok (.imul, 1) := by decide +kernel
theorem dX12_mayVote_82 : decode cX12_mayVote 82 = .ok (.aload_n 0, 1) := by decide +kernel
theorem dX12_mayVote_83 : decode cX12_mayVote 83 = .ok (.getfield 98, 3) := by decide +kernel
theorem dX12_mayVote_86 : decode cX12_mayVote 86 = .ok (.iload 4, 2) := by decide +kernel
theorem dX12_mayVote_88 : decode cX12_mayVote 88 = .ok (.iaload, 1) := by decide +kernel
theorem dX12_mayVote_89 : decode cX12_mayVote 89 = .ok (.iadd, 1) := by decide +kernel
theorem dX12_mayVote_90 : decode cX12_mayVote 90 = .ok (.bipush 48, 2) := by decide +kernel
theorem dX12_mayVote_92 : decode cX12_mayVote 92 = .ok (.isub, 1) := by decide +kernel
theorem dX12_mayVote_93 : decode cX12_mayVote 93 = .ok (.istore 8, 2) := by decide +kernel
theorem dX12_mayVote_95 : decode cX12_mayVote 95 = .ok (.iinc 4 1, 3) := by decide +kernel
theorem dX12_mayVote_98 : decode cX12_mayVote 98 = .ok (.goto (-41), 3) := by decide +kernel
theorem dX12_mayVote_101 : decode cX12_mayVote 101 = .ok (.iload_n 3, 1) := by decide +kernel
theorem dX12_mayVote_102 : decode cX12_mayVote 102 = .ok (.ifCond .eq 48, 3) := by decide +kernel
theorem dX12_mayVote_105 : decode cX12_mayVote 105 = .ok (.iload 7, 2) := by decide +kernel
theorem dX12_mayVote_107 : decode cX12_mayVote 107 = .ok (.bipush 60, 2) := by decide +kernel
theorem dX12_mayVote_109 : decode cX12_mayVote 109 = .ok (.if_icmp .ne 13, 3) := by decide +kernel
theorem dX12_mayVote_112 : decode cX12_mayVote 112 = .ok (.iload 6, 2) := by decide +kernel
theorem dX12_mayVote_114 : decode cX12_mayVote 114 = .ok (.iload 8, 2) := by decide +kernel
theorem dX12_mayVote_116 : decode cX12_mayVote 116 = .ok (.if_icmp .ge 34, 3) := by decide +kernel
theorem dX12_mayVote_119 : decode cX12_mayVote 119 = .ok (.goto 27, 3) := by decide +kernel
theorem dX12_mayVote_122 : decode cX12_mayVote 122 = .ok (.iload 7, 2) := by decide +kernel
theorem dX12_mayVote_124 : decode cX12_mayVote 124 = .ok (.bipush 62, 2) := by decide +kernel
theorem dX12_mayVote_126 : decode cX12_mayVote 126 = .ok (.if_icmp .ne 13, 3) := by decide +kernel
theorem dX12_mayVote_129 : decode cX12_mayVote 129 = .ok (.iload 6, 2) := by decide +kernel
theorem dX12_mayVote_131 : decode cX12_mayVote 131 = .ok (.iload 8, 2) := by decide +kernel
theorem dX12_mayVote_133 : decode cX12_mayVote 133 = .ok (.if_icmp .le 17, 3) := by decide +kernel
theorem dX12_mayVote_136 : decode cX12_mayVote 136 = .ok (.goto 10, 3) := by decide +kernel
theorem dX12_mayVote_139 : decode cX12_mayVote 139 = .ok (.iload 6, 2) := by decide +kernel
theorem dX12_mayVote_141 : decode cX12_mayVote 141 = .ok (.iload 8, 2) := by decide +kernel
theorem dX12_mayVote_143 : decode cX12_mayVote 143 = .ok (.if_icmp .ne 7, 3) := by decide +kernel
theorem dX12_mayVote_146 : decode cX12_mayVote 146 = .ok (.iconst 1, 1) := by decide +kernel
theorem dX12_mayVote_147 : decode cX12_mayVote 147 = .ok (.goto 4, 3) := by decide +kernel
theorem dX12_mayVote_150 : decode cX12_mayVote 150 = .ok (.iconst 0, 1) := by decide +kernel
theorem dX12_mayVote_151 : decode cX12_mayVote 151 = .ok (.istore_n 3, 1) := by decide +kernel
theorem dX12_mayVote_152 : decode cX12_mayVote 152 = .ok (.iload 4, 2) := by decide +kernel
theorem dX12_mayVote_154 : decode cX12_mayVote 154 = .ok (.iload 5, 2) := by decide +kernel
theorem dX12_mayVote_156 : decode cX12_mayVote 156 = .ok (.if_icmp .eq 15, 3) := by decide +kernel
theorem dX12_mayVote_159 : decode cX12_mayVote 159 = .ok (.aload_n 0, 1) := by decide +kernel
theorem dX12_mayVote_160 : decode cX12_mayVote 160 = .ok (.getfield 98, 3) := by decide +kernel
theorem dX12_mayVote_163 : decode cX12_mayVote 163 = .ok (.iload 4, 2) := by decide +kernel
theorem dX12_mayVote_165 : decode cX12_mayVote 165 = .ok (.iaload, 1) := by decide +kernel
theorem dX12_mayVote_166 : decode cX12_mayVote 166 = .ok (.bipush 124, 2) := by decide +kernel
theorem dX12_mayVote_168 : decode cX12_mayVote 168 = .ok (.if_icmp .ne 11, 3) := by decide +kernel
theorem dX12_mayVote_171 : decode cX12_mayVote 171 = .ok (.iload_n 3, 1) := by decide +kernel
theorem dX12_mayVote_172 : decode cX12_mayVote 172 = .ok (.ifCond .eq 5, 3) := by decide +kernel
theorem dX12_mayVote_175 : decode cX12_mayVote 175 = .ok (.iconst 1, 1) := by decide +kernel
theorem dX12_mayVote_176 : decode cX12_mayVote 176 = .ok (.ireturn, 1) := by decide +kernel
theorem dX12_mayVote_177 : decode cX12_mayVote 177 = .ok (.iconst 1, 1) := by decide +kernel
theorem dX12_mayVote_178 : decode cX12_mayVote 178 = .ok (.istore_n 3, 1) := by decide +kernel
theorem dX12_mayVote_179 : decode cX12_mayVote 179 = .ok (.iinc 4 1, 3) := by decide +kernel
theorem dX12_mayVote_182 : decode cX12_mayVote 182 = .ok (.goto (-163), 3) := by decide +kernel
theorem dX12_mayVote_185 : decode cX12_mayVote 185 = .ok (.iconst 0, 1) := by decide +kernel
theorem dX12_mayVote_186 : decode cX12_mayVote 186 = .ok (.ireturn, 1) := by decide +kernel
theorem dX12_votersOf_0 : decode cX12_votersOf 0 = .ok (.iconst 0, 1) := by decide +kernel
theorem dX12_votersOf_1 : decode cX12_votersOf 1 = .ok (.istore_n 3, 1) := by decide +kernel
theorem dX12_votersOf_2 : decode cX12_votersOf 2 = .ok (.iconst 0, 1) := by decide +kernel
theorem dX12_votersOf_3 : decode cX12_votersOf 3 = .ok (.istore 4, 2) := by decide +kernel
theorem dX12_votersOf_5 : decode cX12_votersOf 5 = .ok (.iload 4, 2) := by decide +kernel
theorem dX12_votersOf_7 : decode cX12_votersOf 7 = .ok (.aload_n 0, 1) := by decide +kernel
theorem dX12_votersOf_8 : decode cX12_votersOf 8 = .ok (.getfield 249, 3) := by decide +kernel
theorem dX12_votersOf_11 : decode cX12_votersOf 11 = .ok (.if_icmp .ge 66, 3) := by decide +kernel
theorem dX12_votersOf_14 : decode cX12_votersOf 14 = .ok (.aload_n 0, 1) := by decide +kernel
theorem dX12_votersOf_15 : decode cX12_votersOf 15 = .ok (.getfield 77, 3) := by decide +kernel
theorem dX12_votersOf_18 : decode cX12_votersOf 18 = .ok (.iload 4, 2) := by decide +kernel
theorem dX12_votersOf_20 : decode cX12_votersOf 20 = .ok (.iaload, 1) := by decide +kernel
theorem dX12_votersOf_21 : decode cX12_votersOf 21 = .ok (.iload_n 1, 1) := by decide +kernel
theorem dX12_votersOf_22 : decode cX12_votersOf 22 = .ok (.if_icmp .ne 30, 3) := by decide +kernel
theorem dX12_votersOf_25 : decode cX12_votersOf 25 = .ok (.iload_n 2, 1) := by decide +kernel
theorem dX12_votersOf_26 : decode cX12_votersOf 26 = .ok (.ifCond .ne 22, 3) := by decide +kernel
theorem dX12_votersOf_29 : decode cX12_votersOf 29 = .ok (.aload_n 0, 1) := by decide +kernel
theorem dX12_votersOf_30 : decode cX12_votersOf 30 = .ok (.getfield 101, 3) := by decide +kernel
theorem dX12_votersOf_33 : decode cX12_votersOf 33 = .ok (.iload_n 1, 1) := by decide +kernel
theorem dX12_votersOf_34 : decode cX12_votersOf 34 = .ok (.iaload, 1) := by decide +kernel
theorem dX12_votersOf_35 : decode cX12_votersOf 35 = .ok (.ifCond .le 17, 3) := by decide +kernel
theorem dX12_votersOf_38 : decode cX12_votersOf 38 = .ok (.aload_n 0, 1) := by decide +kernel
theorem dX12_votersOf_39 : decode cX12_votersOf 39 = .ok (.iload_n 1, 1) := by decide +kernel
theorem dX12_votersOf_40 : decode cX12_votersOf 40 = .ok (.iload 4, 2) := by decide +kernel
theorem dX12_votersOf_42 : decode cX12_votersOf 42 = .ok (.invokevirtual 333, 3) := by decide +kernel
theorem dX12_votersOf_45 : decode cX12_votersOf 45 = .ok (.ifCond .eq 7, 3) := by decide +kernel
theorem dX12_votersOf_48 : decode cX12_votersOf 48 = .ok (.iconst 1, 1) := by decide +kernel
theorem dX12_votersOf_49 : decode cX12_votersOf 49 = .ok (.goto 4, 3) := by decide +kernel
theorem dX12_votersOf_52 : decode cX12_votersOf 52 = .ok (.iconst 0, 1) := by decide +kernel
theorem dX12_votersOf_53 : decode cX12_votersOf 53 = .ok (.istore 5, 2) := by decide +kernel
theorem dX12_votersOf_55 : decode cX12_votersOf 55 = .ok (.iload_n 3, 1) := by decide +kernel
theorem dX12_votersOf_56 : decode cX12_votersOf 56 = .ok (.iload 5, 2) := by decide +kernel
theorem dX12_votersOf_58 : decode cX12_votersOf 58 = .ok (.ifCond .eq 10, 3) := by decide +kernel
theorem dX12_votersOf_61 : decode cX12_votersOf 61 = .ok (.iconst 1, 1) := by decide +kernel
theorem dX12_votersOf_62 : decode cX12_votersOf 62 = .ok (.iload 4, 2) := by decide +kernel
theorem dX12_votersOf_64 : decode cX12_votersOf 64 = .ok (.ishl, 1) := by decide +kernel
theorem dX12_votersOf_65 : decode cX12_votersOf 65 = .ok (.goto 4, 3) := by decide +kernel
theorem dX12_votersOf_68 : decode cX12_votersOf 68 = .ok (.iconst 0, 1) := by decide +kernel
theorem dX12_votersOf_69 : decode cX12_votersOf 69 = .ok (.ior, 1) := by decide +kernel
theorem dX12_votersOf_70 : decode cX12_votersOf 70 = .ok (.istore_n 3, 1) := by decide +kernel
theorem dX12_votersOf_71 : decode cX12_votersOf 71 = .ok (.iinc 4 1, 3) := by decide +kernel
theorem dX12_votersOf_74 : decode cX12_votersOf 74 = .ok (.goto (-69), 3) := by decide +kernel
theorem dX12_votersOf_77 : decode cX12_votersOf 77 = .ok (.iload_n 3, 1) := by decide +kernel
theorem dX12_votersOf_78 : decode cX12_votersOf 78 = .ok (.ireturn, 1) := by decide +kernel
theorem dX12_voters_0 : decode cX12_voters 0 = .ok (.iload_n 1, 1) := by decide +kernel
theorem dX12_voters_1 : decode cX12_voters 1 = .ok (.invokestatic 254, 3) := by decide +kernel
theorem dX12_voters_4 : decode cX12_voters 4 = .ok (.ifCond .eq 12, 3) := by decide +kernel
theorem dX12_voters_7 : decode cX12_voters 7 = .ok (.aload_n 0, 1) := by decide +kernel
theorem dX12_voters_8 : decode cX12_voters 8 = .ok (.iload_n 1, 1) := by decide +kernel
theorem dX12_voters_9 : decode cX12_voters 9 = .ok (.iconst 0, 1) := by decide +kernel
theorem dX12_voters_10 : decode cX12_voters 10 = .ok (.invokevirtual 336, 3) := by decide +kernel
theorem dX12_voters_13 : decode cX12_voters 13 = .ok (.goto 4, 3) := by decide +kernel
theorem dX12_voters_16 : decode cX12_voters 16 = .ok (.iconst (-1), 1) := by decide +kernel
theorem dX12_voters_17 : decode cX12_voters 17 = .ok (.ireturn, 1) := by decide +kernel
theorem dX12_choice_0 : decode cX12_choice 0 = .ok (.iload_n 1, 1) := by decide +kernel
theorem dX12_choice_1 : decode cX12_choice 1 = .ok (.invokestatic 254, 3) := by decide +kernel
theorem dX12_choice_4 : decode cX12_choice 4 = .ok (.ifCond .ne 5, 3) := by decide +kernel
theorem dX12_choice_7 : decode cX12_choice 7 = .ok (.iconst (-1), 1) := by decide +kernel
theorem dX12_choice_8 : decode cX12_choice 8 = .ok (.ireturn, 1) := by decide +kernel
theorem dX12_choice_9 : decode cX12_choice 9 = .ok (.aload_n 0, 1) := by decide +kernel
theorem dX12_choice_10 : decode cX12_choice 10 = .ok (.iload_n 1, 1) := by decide +kernel
theorem dX12_choice_11 : decode cX12_choice 11 = .ok (.iload_n 2, 1) := by decide +kernel
theorem dX12_choice_12 : decode cX12_choice 12 = .ok (.invokevirtual 336, 3) := by decide +kernel
theorem dX12_choice_15 : decode cX12_choice 15 = .ok (.istore_n 3, 1) := by decide +kernel
theorem dX12_choice_16 : decode cX12_choice 16 = .ok (.bipush (-6), 2) := by decide +kernel
theorem dX12_choice_18 : decode cX12_choice 18 = .ok (.istore 4, 2) := by decide +kernel
theorem dX12_choice_20 : decode cX12_choice 20 = .ok (.iconst 0, 1) := by decide +kernel
theorem dX12_choice_21 : decode cX12_choice 21 = .ok (.istore 5, 2) := by decide +kernel
theorem dX12_choice_23 : decode cX12_choice 23 = .ok (.iconst 0, 1) := by decide +kernel
theorem dX12_choice_24 : decode cX12_choice 24 = .ok (.istore 6, 2) := by decide +kernel
theorem dX12_choice_26 : decode cX12_choice 26 = .ok (.iload 6, 2) := by decide +kernel
theorem dX12_choice_28 : decode cX12_choice 28 = .ok (.iconst 5, 1) := by decide +kernel
theorem dX12_choice_29 : decode cX12_choice 29 = .ok (.if_icmp .ge 76, 3) := by decide +kernel
theorem dX12_choice_32 : decode cX12_choice 32 = .ok (.iconst 0, 1) := by decide +kernel
theorem dX12_choice_33 : decode cX12_choice 33 = .ok (.istore 7, 2) := by decide +kernel
theorem dX12_choice_35 : decode cX12_choice 35 = .ok (.iconst 0, 1) := by decide +kernel
theorem dX12_choice_36 : decode cX12_choice 36 = .ok (.istore 8, 2) := by decide +kernel
theorem dX12_choice_38 : decode cX12_choice 38 = .ok (.iload 8, 2) := by decide +kernel
theorem dX12_choice_40 : decode cX12_choice 40 = .ok (.aload_n 0, 1) := by decide +kernel
theorem dX12_choice_41 : decode cX12_choice 41 = .ok (.getfield 249, 3) := by decide +kernel
theorem dX12_choice_44 : decode cX12_choice 44 = .ok (.if_icmp .ge 40, 3) := by decide +kernel
theorem dX12_choice_47 : decode cX12_choice 47 = .ok (.iload 7, 2) := by decide +kernel
theorem dX12_choice_49 : decode cX12_choice 49 = .ok (.iload_n 3, 1) := by decide +kernel
theorem dX12_choice_50 : decode cX12_choice 50 = .ok (.iload 8, 2) := by decide +kernel
theorem dX12_choice_52 : decode cX12_choice 52 = .ok (.ishr, 1) := by decide +kernel
theorem dX12_choice_53 : decode cX12_choice 53 = .ok (.iconst 1, 1) := by decide +kernel
theorem dX12_choice_54 : decode cX12_choice 54 = .ok (.iand, 1) := by decide +kernel
theorem dX12_choice_55 : decode cX12_choice 55 = .ok (.iconst 1, 1) := by decide +kernel
theorem dX12_choice_56 : decode cX12_choice 56 = .ok (.if_icmp .ne 18, 3) := by decide +kernel
theorem dX12_choice_59 : decode cX12_choice 59 = .ok (.aload_n 0, 1) := by decide +kernel
theorem dX12_choice_60 : decode cX12_choice 60 = .ok (.iload 8, 2) := by decide +kernel
theorem dX12_choice_62 : decode cX12_choice 62 = .ok (.invokevirtual 267, 3) := by decide +kernel
theorem dX12_choice_65 : decode cX12_choice 65 = .ok (.iload 6, 2) := by decide +kernel
theorem dX12_choice_67 : decode cX12_choice 67 = .ok (.if_icmp .ne 7, 3) := by decide +kernel
theorem dX12_choice_70 : decode cX12_choice 70 = .ok (.iconst 1, 1) := by decide +kernel
theorem dX12_choice_71 : decode cX12_choice 71 = .ok (.goto 4, 3) := by decide +kernel
theorem dX12_choice_74 : decode cX12_choice 74 = .ok (.iconst 0, 1) := by decide +kernel
theorem dX12_choice_75 : decode cX12_choice 75 = .ok (.iadd, 1) := by decide +kernel
theorem dX12_choice_76 : decode cX12_choice 76 = .ok (.istore 7, 2) := by decide +kernel
theorem dX12_choice_78 : decode cX12_choice 78 = .ok (.iinc 8 1, 3) := by decide +kernel
theorem dX12_choice_81 : decode cX12_choice 81 = .ok (.goto (-43), 3) := by decide +kernel
theorem dX12_choice_84 : decode cX12_choice 84 = .ok (.iload 7, 2) := by decide +kernel
theorem dX12_choice_86 : decode cX12_choice 86 = .ok (.iload 5, 2) := by decide +kernel
theorem dX12_choice_88 : decode cX12_choice 88 = .ok (.if_icmp .le 11, 3) := by decide +kernel
theorem dX12_choice_91 : decode cX12_choice 91 = .ok (.iload 7, 2) := by decide +kernel
theorem dX12_choice_93 : decode cX12_choice 93 = .ok (.istore 5, 2) := by decide +kernel
theorem dX12_choice_95 : decode cX12_choice 95 = .ok (.iload 6, 2) := by decide +kernel
theorem dX12_choice_97 : decode cX12_choice 97 = .ok (.istore 4, 2) := by decide +kernel
theorem dX12_choice_99 : decode cX12_choice 99 = .ok (.iinc 6 1, 3) := by decide +kernel
theorem dX12_choice_102 : decode cX12_choice 102 = .ok (.goto (-76), 3) := by decide +kernel
theorem dX12_choice_105 : decode cX12_choice 105 = .ok (.iload 4, 2) := by decide +kernel
theorem dX12_choice_107 : decode cX12_choice 107 = .ok (.ireturn, 1) := by decide +kernel
theorem dX12_part_0 : decode cX12_part 0 = .ok (.iload_n 1, 1) := by decide +kernel
theorem dX12_part_1 : decode cX12_part 1 = .ok (.invokestatic 125, 3) := by decide +kernel
theorem dX12_part_4 : decode cX12_part 4 = .ok (.ifCond .ne 5, 3) := by decide +kernel
theorem dX12_part_7 : decode cX12_part 7 = .ok (.iconst (-1), 1) := by decide +kernel
theorem dX12_part_8 : decode cX12_part 8 = .ok (.ireturn, 1) := by decide +kernel
theorem dX12_part_9 : decode cX12_part 9 = .ok (.iload_n 2, 1) := by decide +kernel
theorem dX12_part_10 : decode cX12_part 10 = .ok (.i2l, 1) := by decide +kernel
theorem dX12_part_11 : decode cX12_part 11 = .ok (.ldc2_w 340, 3) := by decide +kernel
theorem dX12_part_14 : decode cX12_part 14 = .ok (.ldc2_w 342, 3) := by decide +kernel
theorem dX12_part_17 : decode cX12_part 17 = .ok (.invokestatic 115, 3) := by decide +kernel
theorem dX12_part_20 : decode cX12_part 20 = .ok (.ifCond .ne 6, 3) := by decide +kernel
theorem dX12_part_23 : decode cX12_part 23 = .ok (.bipush (-2), 2) := by decide +kernel
theorem dX12_part_25 : decode cX12_part 25 = .ok (.ireturn, 1) := by decide +kernel
theorem dX12_part_26 : decode cX12_part 26 = .ok (.aload_n 0, 1) := by decide +kernel
theorem dX12_part_27 : decode cX12_part 27 = .ok (.getfield 104, 3) := by decide +kernel
theorem dX12_part_30 : decode cX12_part 30 = .ok (.iload_n 1, 1) := by decide +kernel
theorem dX12_part_31 : decode cX12_part 31 = .ok (.iaload, 1) := by decide +kernel
theorem dX12_part_32 : decode cX12_part 32 = .ok (.istore_n 3, 1) := by decide +kernel
theorem dX12_part_33 : decode cX12_part 33 = .ok (.aload_n 0, 1) := by decide +kernel
theorem dX12_part_34 : decode cX12_part 34 = .ok (.getfield 104, 3) := by decide +kernel
theorem dX12_part_37 : decode cX12_part 37 = .ok (.iload_n 1, 1) := by decide +kernel
theorem dX12_part_38 : decode cX12_part 38 = .ok (.iload_n 2, 1) := by decide +kernel
theorem dX12_part_39 : decode cX12_part 39 = .ok (.ifCond .ge 8, 3) := by decide +kernel
theorem dX12_part_42 : decode cX12_part 42 = .ok (.bipush (-6), 2) := by decide +kernel
theorem dX12_part_44 : decode cX12_part 44 = .ok (.goto 4, 3) := by decide +kernel
theorem dX12_part_47 : decode cX12_part 47 = .ok (.iload_n 2, 1) := by decide +kernel
theorem dX12_part_48 : decode cX12_part 48 = .ok (.iastore, 1) := by decide +kernel
theorem dX12_part_49 : decode cX12_part 49 = .ok (.iload_n 3, 1) := by decide +kernel
theorem dX12_part_50 : decode cX12_part 50 = .ok (.ireturn, 1) := by decide +kernel
theorem dX12_layMix_0 : decode cX12_layMix 0 = .ok (.iload_n 1, 1) := by decide +kernel
theorem dX12_layMix_1 : decode cX12_layMix 1 = .ok (.ifCond .ge 9, 3) := by decide +kernel
theorem dX12_layMix_4 : decode cX12_layMix 4 = .ok (.ldc_w 344, 3) := by decide +kernel
theorem dX12_layMix_7 : decode cX12_layMix 7 = .ok (.goto 4, 3) := by decide +kernel
theorem dX12_layMix_10 : decode cX12_layMix 10 = .ok (.iload_n 1, 1) := by decide +kernel
theorem dX12_layMix_11 : decode cX12_layMix 11 = .ok (.istore_n 2, 1) := by decide +kernel
theorem dX12_layMix_12 : decode cX12_layMix 12 = .ok (.iconst 1, 1) := by decide +kernel
theorem dX12_layMix_13 : decode cX12_layMix 13 = .ok (.istore_n 3, 1) := by decide +kernel
theorem dX12_layMix_14 : decode cX12_layMix 14 = .ok (.bipush 6, 2) := by decide +kernel
theorem dX12_layMix_16 : decode cX12_layMix 16 = .ok (.istore 4, 2) := by decide +kernel
theorem dX12_layMix_18 : decode cX12_layMix 18 = .ok (.iload 4, 2) := by decide +kernel
theorem dX12_layMix_20 : decode cX12_layMix 20 = .ok (.ifCond .lt 46, 3) := by decide +kernel
theorem dX12_layMix_23 : decode cX12_layMix 23 = .ok (.aload_n 0, 1) := by decide +kernel
theorem dX12_layMix_24 : decode cX12_layMix 24 = .ok (.getfield 107, 3) := by decide +kernel
theorem dX12_layMix_27 : decode cX12_layMix 27 = .ok (.iload 4, 2) := by decide +kernel
theorem dX12_layMix_29 : decode cX12_layMix 29 = .ok (.iload_n 2, 1) := by decide +kernel
theorem dX12_layMix_30 : decode cX12_layMix 30 = .ok (.bipush 10, 2) := by decide +kernel
theorem dX12_layMix_32 : decode cX12_layMix 32 = .ok (.irem, 1) := by decide +kernel
theorem dX12_layMix_33 : decode cX12_layMix 33 = .ok (.iastore, 1) := by decide +kernel
theorem dX12_layMix_34 : decode cX12_layMix 34 = .ok (.iload_n 3, 1) := by decide +kernel
theorem dX12_layMix_35 : decode cX12_layMix 35 = .ok (.ifCond .eq 18, 3) := by decide +kernel
theorem dX12_layMix_38 : decode cX12_layMix 38 = .ok (.aload_n 0, 1) := by decide +kernel
theorem dX12_layMix_39 : decode cX12_layMix 39 = .ok (.getfield 107, 3) := by decide +kernel
theorem dX12_layMix_42 : decode cX12_layMix 42 = .ok (.iload 4, 2) := by decide +kernel
theorem dX12_layMix_44 : decode cX12_layMix 44 = .ok (.iaload, 1) := by decide +kernel
theorem dX12_layMix_45 : decode cX12_layMix 45 = .ok (.iconst 5, 1) := by decide +kernel
theorem dX12_layMix_46 : decode cX12_layMix 46 = .ok (.if_icmp .ge 7, 3) := by decide +kernel
theorem dX12_layMix_49 : decode cX12_layMix 49 = .ok (.iconst 1, 1) := by decide +kernel
theorem dX12_layMix_50 : decode cX12_layMix 50 = .ok (.goto 4, 3) := by decide +kernel
theorem dX12_layMix_53 : decode cX12_layMix 53 = .ok (.iconst 0, 1) := by decide +kernel
theorem dX12_layMix_54 : decode cX12_layMix 54 = .ok (.istore_n 3, 1) := by decide +kernel
theorem dX12_layMix_55 : decode cX12_layMix 55 = .ok (.iload_n 2, 1) := by decide +kernel
theorem dX12_layMix_56 : decode cX12_layMix 56 = .ok (.bipush 10, 2) := by decide +kernel
theorem dX12_layMix_58 : decode cX12_layMix 58 = .ok (.idiv, 1) := by decide +kernel
theorem dX12_layMix_59 : decode cX12_layMix 59 = .ok (.istore_n 2, 1) := by decide +kernel
theorem dX12_layMix_60 : decode cX12_layMix 60 = .ok (.iinc 4 (-1), 3) := by decide +kernel
theorem dX12_layMix_63 : decode cX12_layMix 63 = .ok (.goto (-45), 3) := by decide +kernel
theorem dX12_layMix_66 : decode cX12_layMix 66 = .ok (.iload_n 3, 1) := by decide +kernel
theorem dX12_layMix_67 : decode cX12_layMix 67 = .ok (.ifCond .eq 11, 3) := by decide +kernel
theorem dX12_layMix_70 : decode cX12_layMix 70 = .ok (.iload_n 2, 1) := by decide +kernel
theorem dX12_layMix_71 : decode cX12_layMix 71 = .ok (.ifCond .ne 7, 3) := by decide +kernel
theorem dX12_layMix_74 : decode cX12_layMix 74 = .ok (.iconst 1, 1) := by decide +kernel
theorem dX12_layMix_75 : decode cX12_layMix 75 = .ok (.goto 4, 3) := by decide +kernel
theorem dX12_layMix_78 : decode cX12_layMix 78 = .ok (.iconst 0, 1) := by decide +kernel
theorem dX12_layMix_79 : decode cX12_layMix 79 = .ok (.ireturn, 1) := by decide +kernel
theorem dX12_mixedCell_0 : decode cX12_mixedCell 0 = .ok (.aload_n 0, 1) := by decide +kernel
theorem dX12_mixedCell_1 : decode cX12_mixedCell 1 = .ok (.getfield 7, 3) := by decide +kernel
theorem dX12_mixedCell_4 : decode cX12_mixedCell 4 = .ok (.bipush 26, 2) := by decide +kernel
theorem dX12_mixedCell_6 : decode cX12_mixedCell 6 = .ok (.aload_n 0, 1) := by decide +kernel
theorem dX12_mixedCell_7 : decode cX12_mixedCell 7 = .ok (.getfield 107, 3) := by decide +kernel
theorem dX12_mixedCell_10 : decode cX12_mixedCell 10 = .ok (.aload_n 0, 1) := by decide +kernel
theorem dX12_mixedCell_11 : decode cX12_mixedCell 11 = .ok (.getfield 104, 3) := by decide +kernel
theorem dX12_mixedCell_14 : decode cX12_mixedCell 14 = .ok (.iload_n 1, 1) := by decide +kernel
theorem dX12_mixedCell_15 : decode cX12_mixedCell 15 = .ok (.iaload, 1) := by decide +kernel
theorem dX12_mixedCell_16 : decode cX12_mixedCell 16 = .ok (.iaload, 1) := by decide +kernel
theorem dX12_mixedCell_17 : decode cX12_mixedCell 17 = .ok (.imul, 1) := by decide +kernel
theorem dX12_mixedCell_18 : decode cX12_mixedCell 18 = .ok (.iload_n 1, 1) := by decide +kernel
theorem dX12_mixedCell_19 : decode cX12_mixedCell 19 = .ok (.iadd, 1) := by decide +kernel
theorem dX12_mixedCell_20 : decode cX12_mixedCell 20 = .ok (.iaload, 1) := by decide +kernel
theorem dX12_mixedCell_21 : decode cX12_mixedCell 21 = .ok (.ireturn, 1) := by decide +kernel
theorem dX12_mayMix_0 : decode cX12_mayMix 0 = .ok (.lconst 0, 1) := by decide +kernel
theorem dX12_mayMix_1 : decode cX12_mayMix 1 = .ok (.lstore_n 1, 1) := by decide +kernel
theorem dX12_mayMix_2 : decode cX12_mayMix 2 = .ok (.iconst 0, 1) := by decide +kernel
theorem dX12_mayMix_3 : decode cX12_mayMix 3 = .ok (.istore_n 3, 1) := by decide +kernel
theorem dX12_mayMix_4 : decode cX12_mayMix 4 = .ok (.iload_n 3, 1) := by decide +kernel
theorem dX12_mayMix_5 : decode cX12_mayMix 5 = .ok (.bipush 26, 2) := by decide +kernel
theorem dX12_mayMix_7 : decode cX12_mayMix 7 = .ok (.if_icmp .ge 50, 3) := by decide +kernel
theorem dX12_mayMix_10 : decode cX12_mayMix 10 = .ok (.aload_n 0, 1) := by decide +kernel
theorem dX12_mayMix_11 : decode cX12_mayMix 11 = .ok (.getfield 104, 3) := by decide +kernel
theorem dX12_mayMix_14 : decode cX12_mayMix 14 = .ok (.iload_n 3, 1) := by decide +kernel
theorem dX12_mayMix_15 : decode cX12_mayMix 15 = .ok (.iaload, 1) := by decide +kernel
theorem dX12_mayMix_16 : decode cX12_mayMix 16 = .ok (.ifCond .lt 35, 3) := by decide +kernel
theorem dX12_mayMix_19 : decode cX12_mayMix 19 = .ok (.aload_n 0, 1) := by decide +kernel
theorem dX12_mayMix_20 : decode cX12_mayMix 20 = .ok (.iload_n 3, 1) := by decide +kernel
theorem dX12_mayMix_21 : decode cX12_mayMix 21 = .ok (.invokevirtual 345, 3) := by decide +kernel
theorem dX12_mayMix_24 : decode cX12_mayMix 24 = .ok (.istore 4, 2) := by decide +kernel
theorem dX12_mayMix_26 : decode cX12_mayMix 26 = .ok (.iload 4, 2) := by decide +kernel
theorem dX12_mayMix_28 : decode cX12_mayMix 28 = .ok (.ifCond .eq 14, 3) := by decide +kernel
theorem dX12_mayMix_31 : decode cX12_mayMix 31 = .ok (.lload_n 1, 1) := by decide +kernel
theorem dX12_mayMix_32 : decode cX12_mayMix 32 = .ok (.iload 4, 2) := by decide +kernel
theorem dX12_mayMix_34 : decode cX12_mayMix 34 = .ok (.lshr, 1) := by decide +kernel
theorem dX12_mayMix_35 : decode cX12_mayMix 35 = .ok (.lconst 1, 1) := by decide +kernel
theorem dX12_mayMix_36 : decode cX12_mayMix 36 = .ok (.land, 1) := by decide +kernel
theorem dX12_mayMix_37 : decode cX12_mayMix 37 = .ok (.lconst 1, 1) := by decide +kernel
theorem dX12_mayMix_38 : decode cX12_mayMix 38 = .ok (.lcmp, 1) := by decide +kernel
theorem dX12_mayMix_39 : decode cX12_mayMix 39 = .ok (.ifCond .ne 5, 3) := by decide +kernel
theorem dX12_mayMix_42 : decode cX12_mayMix 42 = .ok (.iconst 0, 1) := by decide +kernel
theorem dX12_mayMix_43 : decode cX12_mayMix 43 = .ok (.ireturn, 1) := by decide +kernel
theorem dX12_mayMix_44 : decode cX12_mayMix 44 = .ok (.lload_n 1, 1) := by decide +kernel
theorem dX12_mayMix_45 : decode cX12_mayMix 45 = .ok (.lconst 1, 1) := by decide +kernel
theorem dX12_mayMix_46 : decode cX12_mayMix 46 = .ok (.iload 4, 2) := by decide +kernel
theorem dX12_mayMix_48 : decode cX12_mayMix 48 = .ok (.lshl, 1) := by decide +kernel
theorem dX12_mayMix_49 : decode cX12_mayMix 49 = .ok (.lor, 1) := by decide +kernel
theorem dX12_mayMix_50 : decode cX12_mayMix 50 = .ok (.lstore_n 1, 1) := by decide +kernel
theorem dX12_mayMix_51 : decode cX12_mayMix 51 = .ok (.iinc 3 1, 3) := by decide +kernel
theorem dX12_mayMix_54 : decode cX12_mayMix 54 = .ok (.goto (-50), 3) := by decide +kernel
theorem dX12_mayMix_57 : decode cX12_mayMix 57 = .ok (.iconst 1, 1) := by decide +kernel
theorem dX12_mayMix_58 : decode cX12_mayMix 58 = .ok (.ireturn, 1) := by decide +kernel
theorem dX12_mix_0 : decode cX12_mix 0 = .ok (.aload_n 0, 1) := by decide +kernel
theorem dX12_mix_1 : decode cX12_mix 1 = .ok (.iload_n 1, 1) := by decide +kernel
theorem dX12_mix_2 : decode cX12_mix 2 = .ok (.invokevirtual 348, 3) := by decide +kernel
theorem dX12_mix_5 : decode cX12_mix 5 = .ok (.ifCond .ne 6, 3) := by decide +kernel
theorem dX12_mix_8 : decode cX12_mix 8 = .ok (.bipush (-2), 2) := by decide +kernel
theorem dX12_mix_10 : decode cX12_mix 10 = .ok (.ireturn, 1) := by decide +kernel
theorem dX12_mix_11 : decode cX12_mix 11 = .ok (.aload_n 0, 1) := by decide +kernel
theorem dX12_mix_12 : decode cX12_mix 12 = .ok (.invokevirtual 351, 3) := by decide +kernel
theorem dX12_mix_15 : decode cX12_mix 15 = .ok (.ifCond .eq 7, 3) := by decide +kernel
theorem dX12_mix_18 : decode cX12_mix 18 = .ok (.iconst 1, 1) := by decide +kernel
theorem dX12_mix_19 : decode cX12_mix 19 = .ok (.goto 4, 3) := by decide +kernel
theorem dX12_mix_22 : decode cX12_mix 22 = .ok (.iconst 0, 1) := by decide +kernel
theorem dX12_mix_23 : decode cX12_mix 23 = .ok (.ireturn, 1) := by decide +kernel
theorem dX12_anewOf_0 : decode cX12_anewOf 0 = .ok (.iconst 0, 1) := by decide +kernel
theorem dX12_anewOf_1 : decode cX12_anewOf 1 = .ok (.istore_n 1, 1) := by decide +kernel
theorem dX12_anewOf_2 : decode cX12_anewOf 2 = .ok (.iconst 0, 1) := by decide +kernel
theorem dX12_anewOf_3 : decode cX12_anewOf 3 = .ok (.istore_n 2, 1) := by decide +kernel
theorem dX12_anewOf_4 : decode cX12_anewOf 4 = .ok (.iload_n 2, 1) := by decide +kernel
theorem dX12_anewOf_5 : decode cX12_anewOf 5 = .ok (.aload_n 0, 1) := by decide +kernel
theorem dX12_anewOf_6 : decode cX12_anewOf 6 = .ok (.getfield 249, 3) := by decide +kernel
theorem dX12_anewOf_9 : decode cX12_anewOf 9 = .ok (.if_icmp .ge 74, 3) := by decide +kernel
theorem dX12_anewOf_12 : decode cX12_anewOf 12 = .ok (.aload_n 0, 1) := by decide +kernel
theorem dX12_anewOf_13 : decode cX12_anewOf 13 = .ok (.iload_n 2, 1) := by decide +kernel
theorem dX12_anewOf_14 : decode cX12_anewOf 14 = .ok (.invokevirtual 267, 3) := by decide +kernel
theorem dX12_anewOf_17 : decode cX12_anewOf 17 = .ok (.istore_n 3, 1) := by decide +kernel
theorem dX12_anewOf_18 : decode cX12_anewOf 18 = .ok (.iconst 0, 1) := by decide +kernel
theorem dX12_anewOf_19 : decode cX12_anewOf 19 = .ok (.istore 4, 2) := by decide +kernel
theorem dX12_anewOf_21 : decode cX12_anewOf 21 = .ok (.iload 4, 2) := by decide +kernel
theorem dX12_anewOf_23 : decode cX12_anewOf 23 = .ok (.bipush 26, 2) := by decide +kernel
theorem dX12_anewOf_25 : decode cX12_anewOf 25 = .ok (.if_icmp .ge 52, 3) := by decide +kernel
theorem dX12_anewOf_28 : decode cX12_anewOf 28 = .ok (.iload_n 3, 1) := by decide +kernel
theorem dX12_anewOf_29 : decode cX12_anewOf 29 = .ok (.ifCond .lt 48, 3) := by decide +kernel
theorem dX12_anewOf_32 : decode cX12_anewOf 32 = .ok (.iload_n 1, 1) := by decide +kernel
theorem dX12_anewOf_33 : decode cX12_anewOf 33 = .ok (.aload_n 0, 1) := by decide +kernel
theorem dX12_anewOf_34 : decode cX12_anewOf 34 = .ok (.getfield 104, 3) := by decide +kernel
theorem dX12_anewOf_37 : decode cX12_anewOf 37 = .ok (.iload 4, 2) := by decide +kernel
theorem dX12_anewOf_39 : decode cX12_anewOf 39 = .ok (.iaload, 1) := by decide +kernel
theorem dX12_anewOf_40 : decode cX12_anewOf 40 = .ok (.ifCond .lt 28, 3) := by decide +kernel
theorem dX12_anewOf_43 : decode cX12_anewOf 43 = .ok (.aload_n 0, 1) := by decide +kernel
theorem dX12_anewOf_44 : decode cX12_anewOf 44 = .ok (.getfield 7, 3) := by decide +kernel
theorem dX12_anewOf_47 : decode cX12_anewOf 47 = .ok (.bipush 26, 2) := by decide +kernel
theorem dX12_anewOf_49 : decode cX12_anewOf 49 = .ok (.iload_n 3, 1) := by decide +kernel
theorem dX12_anewOf_50 : decode cX12_anewOf 50 = .ok (.imul, 1) := by decide +kernel
theorem dX12_anewOf_51 : decode cX12_anewOf 51 = .ok (.iload 4, 2) := by decide +kernel
theorem dX12_anewOf_53 : decode cX12_anewOf 53 = .ok (.iadd, 1) := by decide +kernel
theorem dX12_anewOf_54 : decode cX12_anewOf 54 = .ok (.iaload, 1) := by decide +kernel
theorem dX12_anewOf_55 : decode cX12_anewOf 55 = .ok (.aload_n 0, 1) := by decide +kernel
theorem dX12_anewOf_56 : decode cX12_anewOf 56 = .ok (.iload 4, 2) := by decide +kernel
theorem dX12_anewOf_58 : decode cX12_anewOf 58 = .ok (.invokevirtual 345, 3) := by decide +kernel
theorem dX12_anewOf_61 : decode cX12_anewOf 61 = .ok (.if_icmp .eq 7, 3) := by decide +kernel
theorem dX12_anewOf_64 : decode cX12_anewOf 64 = .ok (.iconst 1, 1) := by decide +kernel
theorem dX12_anewOf_65 : decode cX12_anewOf 65 = .ok (.goto 4, 3) := by decide +kernel
theorem dX12_anewOf_68 : decode cX12_anewOf 68 = .ok (.iconst 0, 1) := by decide +kernel
theorem dX12_anewOf_69 : decode cX12_anewOf 69 = .ok (.iadd, 1) := by decide +kernel
theorem dX12_anewOf_70 : decode cX12_anewOf 70 = .ok (.istore_n 1, 1) := by decide +kernel
theorem dX12_anewOf_71 : decode cX12_anewOf 71 = .ok (.iinc 4 1, 3) := by decide +kernel
theorem dX12_anewOf_74 : decode cX12_anewOf 74 = .ok (.goto (-53), 3) := by decide +kernel
theorem dX12_anewOf_77 : decode cX12_anewOf 77 = .ok (.iinc 2 1, 3) := by decide +kernel
theorem dX12_anewOf_80 : decode cX12_anewOf 80 = .ok (.goto (-76), 3) := by decide +kernel
theorem dX12_anewOf_83 : decode cX12_anewOf 83 = .ok (.iload_n 1, 1) := by decide +kernel
theorem dX12_anewOf_84 : decode cX12_anewOf 84 = .ok (.ireturn, 1) := by decide +kernel
theorem dX12_anew_0 : decode cX12_anew 0 = .ok (.aload_n 0, 1) := by decide +kernel
theorem dX12_anew_1 : decode cX12_anew 1 = .ok (.iload_n 1, 1) := by decide +kernel
theorem dX12_anew_2 : decode cX12_anew 2 = .ok (.invokevirtual 348, 3) := by decide +kernel
theorem dX12_anew_5 : decode cX12_anew 5 = .ok (.ifCond .ne 6, 3) := by decide +kernel
theorem dX12_anew_8 : decode cX12_anew 8 = .ok (.bipush (-2), 2) := by decide +kernel
theorem dX12_anew_10 : decode cX12_anew 10 = .ok (.ireturn, 1) := by decide +kernel
theorem dX12_anew_11 : decode cX12_anew 11 = .ok (.aload_n 0, 1) := by decide +kernel
theorem dX12_anew_12 : decode cX12_anew 12 = .ok (.invokevirtual 351, 3) := by decide +kernel
theorem dX12_anew_15 : decode cX12_anew 15 = .ok (.ifCond .eq 10, 3) := by decide +kernel
theorem dX12_anew_18 : decode cX12_anew 18 = .ok (.aload_n 0, 1) := by decide +kernel
theorem dX12_anew_19 : decode cX12_anew 19 = .ok (.invokevirtual 355, 3) := by decide +kernel
theorem dX12_anew_22 : decode cX12_anew 22 = .ok (.goto 5, 3) := by decide +kernel
theorem dX12_anew_25 : decode cX12_anew 25 = .ok (.bipush (-5), 2) := by decide +kernel
theorem dX12_anew_27 : decode cX12_anew 27 = .ok (.ireturn, 1) := by decide +kernel
theorem dX12_lettersOf_0 : decode cX12_lettersOf 0 = .ok (.iconst 0, 1) := by decide +kernel
theorem dX12_lettersOf_1 : decode cX12_lettersOf 1 = .ok (.istore_n 2, 1) := by decide +kernel
theorem dX12_lettersOf_2 : decode cX12_lettersOf 2 = .ok (.iconst 0, 1) := by decide +kernel
theorem dX12_lettersOf_3 : decode cX12_lettersOf 3 = .ok (.istore_n 3, 1) := by decide +kernel
theorem dX12_lettersOf_4 : decode cX12_lettersOf 4 = .ok (.iload_n 3, 1) := by decide +kernel
theorem dX12_lettersOf_5 : decode cX12_lettersOf 5 = .ok (.bipush 26, 2) := by decide +kernel
theorem dX12_lettersOf_7 : decode cX12_lettersOf 7 = .ok (.if_icmp .ge 29, 3) := by decide +kernel
theorem dX12_lettersOf_10 : decode cX12_lettersOf 10 = .ok (.iload_n 2, 1) := by decide +kernel
theorem dX12_lettersOf_11 : decode cX12_lettersOf 11 = .ok (.aload_n 0, 1) := by decide +kernel
theorem dX12_lettersOf_12 : decode cX12_lettersOf 12 = .ok (.getfield 104, 3) := by decide +kernel
theorem dX12_lettersOf_15 : decode cX12_lettersOf 15 = .ok (.iload_n 3, 1) := by decide +kernel
theorem dX12_lettersOf_16 : decode cX12_lettersOf 16 = .ok (.iaload, 1) := by decide +kernel
theorem dX12_lettersOf_17 : decode cX12_lettersOf 17 = .ok (.iload_n 1, 1) := by decide +kernel
theorem dX12_lettersOf_18 : decode cX12_lettersOf 18 = .ok (.if_icmp .ne 9, 3) := by decide +kernel
theorem dX12_lettersOf_21 : decode cX12_lettersOf 21 = .ok (.iconst 1, 1) := by decide +kernel
theorem dX12_lettersOf_22 : decode cX12_lettersOf 22 = .ok (.iload_n 3, 1) := by decide +kernel
theorem dX12_lettersOf_23 : decode cX12_lettersOf 23 = .ok (.ishl, 1) := by decide +kernel
theorem dX12_lettersOf_24 : decode cX12_lettersOf 24 = .ok (.goto 4, 3) := by decide +kernel
theorem dX12_lettersOf_27 : decode cX12_lettersOf 27 = .ok (.iconst 0, 1) := by decide +kernel
theorem dX12_lettersOf_28 : decode cX12_lettersOf 28 = .ok (.ior, 1) := by decide +kernel
theorem dX12_lettersOf_29 : decode cX12_lettersOf 29 = .ok (.istore_n 2, 1) := by decide +kernel
theorem dX12_lettersOf_30 : decode cX12_lettersOf 30 = .ok (.iinc 3 1, 3) := by decide +kernel
theorem dX12_lettersOf_33 : decode cX12_lettersOf 33 = .ok (.goto (-29), 3) := by decide +kernel
theorem dX12_lettersOf_36 : decode cX12_lettersOf 36 = .ok (.iload_n 2, 1) := by decide +kernel
theorem dX12_lettersOf_37 : decode cX12_lettersOf 37 = .ok (.ireturn, 1) := by decide +kernel
theorem dX12_layAnew_0 : decode cX12_layAnew 0 = .ok (.iconst 0, 1) := by decide +kernel
theorem dX12_layAnew_1 : decode cX12_layAnew 1 = .ok (.istore_n 1, 1) := by decide +kernel
theorem dX12_layAnew_2 : decode cX12_layAnew 2 = .ok (.iload_n 1, 1) := by decide +kernel
theorem dX12_layAnew_3 : decode cX12_layAnew 3 = .ok (.bipush 7, 2) := by decide +kernel
theorem dX12_layAnew_5 : decode cX12_layAnew 5 = .ok (.if_icmp .ge 129, 3) := by decide +kernel
theorem dX12_layAnew_8 : decode cX12_layAnew 8 = .ok (.iconst 0, 1) := by decide +kernel
theorem dX12_layAnew_9 : decode cX12_layAnew 9 = .ok (.istore_n 2, 1) := by decide +kernel
theorem dX12_layAnew_10 : decode cX12_layAnew 10 = .ok (.iload_n 2, 1) := by decide +kernel
theorem dX12_layAnew_11 : decode cX12_layAnew 11 = .ok (.iconst 5, 1) := by decide +kernel
theorem dX12_layAnew_12 : decode cX12_layAnew 12 = .ok (.if_icmp .ge 116, 3) := by decide +kernel
theorem dX12_layAnew_15 : decode cX12_layAnew 15 = .ok (.iconst 0, 1) := by decide +kernel
theorem dX12_layAnew_16 : decode cX12_layAnew 16 = .ok (.istore_n 3, 1) := by decide +kernel
theorem dX12_layAnew_17 : decode cX12_layAnew 17 = .ok (.iconst 0, 1) := by decide +kernel
theorem dX12_layAnew_18 : decode cX12_layAnew 18 = .ok (.istore 4, 2) := by decide +kernel
theorem dX12_layAnew_20 : decode cX12_layAnew 20 = .ok (.iload 4, 2) := by decide +kernel
theorem dX12_layAnew_22 : decode cX12_layAnew 22 = .ok (.aload_n 0, 1) := by decide +kernel
theorem dX12_layAnew_23 : decode cX12_layAnew 23 = .ok (.getfield 249, 3) := by decide +kernel
theorem dX12_layAnew_26 : decode cX12_layAnew 26 = .ok (.if_icmp .ge 85, 3) := by decide +kernel
theorem dX12_layAnew_29 : decode cX12_layAnew 29 = .ok (.aload_n 0, 1) := by decide +kernel
theorem dX12_layAnew_30 : decode cX12_layAnew 30 = .ok (.iload 4, 2) := by decide +kernel
theorem dX12_layAnew_32 : decode cX12_layAnew 32 = .ok (.invokevirtual 267, 3) := by decide +kernel
theorem dX12_layAnew_35 : decode cX12_layAnew 35 = .ok (.istore 5, 2) := by decide +kernel
theorem dX12_layAnew_37 : decode cX12_layAnew 37 = .ok (.iconst 0, 1) := by decide +kernel
theorem dX12_layAnew_38 : decode cX12_layAnew 38 = .ok (.istore 6, 2) := by decide +kernel
theorem dX12_layAnew_40 : decode cX12_layAnew 40 = .ok (.iload 6, 2) := by decide +kernel
theorem dX12_layAnew_42 : decode cX12_layAnew 42 = .ok (.bipush 26, 2) := by decide +kernel
theorem dX12_layAnew_44 : decode cX12_layAnew 44 = .ok (.if_icmp .ge 61, 3) := by decide +kernel
theorem dX12_layAnew_47 : decode cX12_layAnew 47 = .ok (.iload 5, 2) := by decide +kernel
theorem dX12_layAnew_49 : decode cX12_layAnew 49 = .ok (.ifCond .lt 56, 3) := by decide +kernel
theorem dX12_layAnew_52 : decode cX12_layAnew 52 = .ok (.iload_n 3, 1) := by decide +kernel
theorem dX12_layAnew_53 : decode cX12_layAnew 53 = .ok (.aload_n 0, 1) := by decide +kernel
theorem dX12_layAnew_54 : decode cX12_layAnew 54 = .ok (.getfield 104, 3) := by decide +kernel
theorem dX12_layAnew_57 : decode cX12_layAnew 57 = .ok (.iload 6, 2) := by decide +kernel
theorem dX12_layAnew_59 : decode cX12_layAnew 59 = .ok (.iaload, 1) := by decide +kernel
theorem dX12_layAnew_60 : decode cX12_layAnew 60 = .ok (.iload_n 1, 1) := by decide +kernel
theorem dX12_layAnew_61 : decode cX12_layAnew 61 = .ok (.if_icmp .ne 35, 3) := by decide +kernel
theorem dX12_layAnew_64 : decode cX12_layAnew 64 = .ok (.aload_n 0, 1) := by decide +kernel
theorem dX12_layAnew_65 : decode cX12_layAnew 65 = .ok (.getfield 7, 3) := by decide +kernel
theorem dX12_layAnew_68 : decode cX12_layAnew 68 = .ok (.bipush 26, 2) := by decide +kernel
theorem dX12_layAnew_70 : decode cX12_layAnew 70 = .ok (.iload 5, 2) := by decide +kernel
theorem dX12_layAnew_72 : decode cX12_layAnew 72 = .ok (.imul, 1) := by decide +kernel
theorem dX12_layAnew_73 : decode cX12_layAnew 73 = .ok (.iload 6, 2) := by decide +kernel
theorem dX12_layAnew_75 : decode cX12_layAnew 75 = .ok (.iadd, 1) := by decide +kernel
theorem dX12_layAnew_76 : decode cX12_layAnew 76 = .ok (.iaload, 1) := by decide +kernel
theorem dX12_layAnew_77 : decode cX12_layAnew 77 = .ok (.aload_n 0, 1) := by decide +kernel
theorem dX12_layAnew_78 : decode cX12_layAnew 78 = .ok (.getfield 7, 3) := by decide +kernel
theorem dX12_layAnew_81 : decode cX12_layAnew 81 = .ok (.bipush 26, 2) := by decide +kernel
theorem dX12_layAnew_83 : decode cX12_layAnew 83 = .ok (.iload_n 2, 1) := by decide +kernel
theorem dX12_layAnew_84 : decode cX12_layAnew 84 = .ok (.imul, 1) := by decide +kernel
theorem dX12_layAnew_85 : decode cX12_layAnew 85 = .ok (.iload 6, 2) := by decide +kernel
theorem dX12_layAnew_87 : decode cX12_layAnew 87 = .ok (.iadd, 1) := by decide +kernel
theorem dX12_layAnew_88 : decode cX12_layAnew 88 = .ok (.iaload, 1) := by decide +kernel
theorem dX12_layAnew_89 : decode cX12_layAnew 89 = .ok (.if_icmp .eq 7, 3) := by decide +kernel
theorem dX12_layAnew_92 : decode cX12_layAnew 92 = .ok (.iconst 1, 1) := by decide +kernel
theorem dX12_layAnew_93 : decode cX12_layAnew 93 = .ok (.goto 4, 3) := by decide +kernel
theorem dX12_layAnew_96 : decode cX12_layAnew 96 = .ok (.iconst 0, 1) := by decide +kernel
theorem dX12_layAnew_97 : decode cX12_layAnew 97 = .ok (.iadd, 1) := by decide +kernel
theorem dX12_layAnew_98 : decode cX12_layAnew 98 = .ok (.istore_n 3, 1) := by decide +kernel
theorem dX12_layAnew_99 : decode cX12_layAnew 99 = .ok (.iinc 6 1, 3) := by decide +kernel
theorem dX12_layAnew_102 : decode cX12_layAnew 102 = .ok (.goto (-62), 3) := by decide +kernel
theorem dX12_layAnew_105 : decode cX12_layAnew 105 = .ok (.iinc 4 1, 3) := by decide +kernel
theorem dX12_layAnew_108 : decode cX12_layAnew 108 = .ok (.goto (-88), 3) := by decide +kernel
theorem dX12_layAnew_111 : decode cX12_layAnew 111 = .ok (.aload_n 0, 1) := by decide +kernel
theorem dX12_layAnew_112 : decode cX12_layAnew 112 = .ok (.getfield 110, 3) := by decide +kernel
theorem dX12_layAnew_115 : decode cX12_layAnew 115 = .ok (.iconst 5, 1) := by decide +kernel
theorem dX12_layAnew_116 : decode cX12_layAnew 116 = .ok (.iload_n 1, 1) := by decide +kernel
theorem dX12_layAnew_117 : decode cX12_layAnew 117 = .ok (.imul, 1) := by decide +kernel
theorem dX12_layAnew_118 : decode cX12_layAnew 118 = .ok (.iload_n 2, 1) := by decide +kernel
theorem dX12_layAnew_119 : decode cX12_layAnew 119 = .ok (.iadd, 1) := by decide +kernel
theorem dX12_layAnew_120 : decode cX12_layAnew 120 = .ok (.iload_n 3, 1) := by decide +kernel
theorem dX12_layAnew_121 : decode cX12_layAnew 121 = .ok (.iastore, 1) := by decide +kernel
theorem dX12_layAnew_122 : decode cX12_layAnew 122 = .ok (.iinc 2 1, 3) := by decide +kernel
theorem dX12_layAnew_125 : decode cX12_layAnew 125 = .ok (.goto (-115), 3) := by decide +kernel
theorem dX12_layAnew_128 : decode cX12_layAnew 128 = .ok (.iinc 1 1, 3) := by decide +kernel
theorem dX12_layAnew_131 : decode cX12_layAnew 131 = .ok (.goto (-129), 3) := by decide +kernel
theorem dX12_layAnew_134 : decode cX12_layAnew 134 = .ok (.return_, 1) := by decide +kernel
theorem dX12_best_0 : decode cX12_best 0 = .ok (.aload_n 0, 1) := by decide +kernel
theorem dX12_best_1 : decode cX12_best 1 = .ok (.invokevirtual 358, 3) := by decide +kernel
theorem dX12_best_4 : decode cX12_best 4 = .ok (.bipush (-5), 2) := by decide +kernel
theorem dX12_best_6 : decode cX12_best 6 = .ok (.istore_n 1, 1) := by decide +kernel
theorem dX12_best_7 : decode cX12_best 7 = .ok (.ldc 167, 2) := by decide +kernel
theorem dX12_best_9 : decode cX12_best 9 = .ok (.istore_n 2, 1) := by decide +kernel
theorem dX12_best_10 : decode cX12_best 10 = .ok (.iconst 0, 1) := by decide +kernel
theorem dX12_best_11 : decode cX12_best 11 = .ok (.istore_n 3, 1) := by decide +kernel
theorem dX12_best_12 : decode cX12_best 12 = .ok (.iload_n 3, 1) := by decide +kernel
theorem dX12_best_13 : decode cX12_best 13 = .ok (.ldc_w 361, 3) := by decide +kernel
theorem dX12_best_16 : decode cX12_best 16 = .ok (.if_icmp .ge 155, 3) := by decide +kernel
theorem dX12_best_19 : decode cX12_best 19 = .ok (.iload_n 3, 1) := by decide +kernel
theorem dX12_best_20 : decode cX12_best 20 = .ok (.istore 4, 2) := by decide +kernel
theorem dX12_best_22 : decode cX12_best 22 = .ok (.iconst 0, 1) := by decide +kernel
theorem dX12_best_23 : decode cX12_best 23 = .ok (.istore 5, 2) := by decide +kernel
theorem dX12_best_25 : decode cX12_best 25 = .ok (.iconst 1, 1) := by decide +kernel
theorem dX12_best_26 : decode cX12_best 26 = .ok (.istore 6, 2) := by decide +kernel
theorem dX12_best_28 : decode cX12_best 28 = .ok (.iconst 0, 1) := by decide +kernel
theorem dX12_best_29 : decode cX12_best 29 = .ok (.istore 7, 2) := by decide +kernel
theorem dX12_best_31 : decode cX12_best 31 = .ok (.iconst 1, 1) := by decide +kernel
theorem dX12_best_32 : decode cX12_best 32 = .ok (.istore 8, 2) := by decide +kernel
theorem dX12_best_34 : decode cX12_best 34 = .ok (.bipush 6, 2) := by decide +kernel
theorem dX12_best_36 : decode cX12_best 36 = .ok (.istore 9, 2) := by decide +kernel
theorem dX12_best_38 : decode cX12_best 38 = .ok (.iload 9, 2) := by decide +kernel
theorem dX12_best_40 : decode cX12_best 40 = .ok (.ifCond .lt 101, 3) := by decide +kernel
theorem dX12_best_43 : decode cX12_best 43 = .ok (.aload_n 0, 1) := by decide +kernel
theorem dX12_best_44 : decode cX12_best 44 = .ok (.getfield 107, 3) := by decide +kernel
theorem dX12_best_47 : decode cX12_best 47 = .ok (.iload 9, 2) := by decide +kernel
theorem dX12_best_49 : decode cX12_best 49 = .ok (.iload 4, 2) := by decide +kernel
theorem dX12_best_51 : decode cX12_best 51 = .ok (.iconst 5, 1) := by decide +kernel
theorem dX12_best_52 : decode cX12_best 52 = .ok (.irem, 1) := by decide +kernel
theorem dX12_best_53 : decode cX12_best 53 = .ok (.iastore, 1) := by decide +kernel
theorem dX12_best_54 : decode cX12_best 54 = .ok (.iload 8, 2) := by decide +kernel
theorem dX12_best_56 : decode cX12_best 56 = .ok (.ifCond .eq 26, 3) := by decide +kernel
theorem dX12_best_59 : decode cX12_best 59 = .ok (.aload_n 0, 1) := by decide +kernel
theorem dX12_best_60 : decode cX12_best 60 = .ok (.getfield 107, 3) := by decide +kernel
theorem dX12_best_63 : decode cX12_best 63 = .ok (.iload 9, 2) := by decide +kernel
theorem dX12_best_65 : decode cX12_best 65 = .ok (.iaload, 1) := by decide +kernel
theorem dX12_best_66 : decode cX12_best 66 = .ok (.ifCond .eq 12, 3) := by decide +kernel
theorem dX12_best_69 : decode cX12_best 69 = .ok (.aload_n 0, 1) := by decide +kernel
theorem dX12_best_70 : decode cX12_best 70 = .ok (.iload 9, 2) := by decide +kernel
theorem dX12_best_72 : decode cX12_best 72 = .ok (.invokevirtual 362, 3) := by decide +kernel
theorem dX12_best_75 : decode cX12_best 75 = .ok (.ifCond .eq 7, 3) := by decide +kernel
theorem dX12_best_78 : decode cX12_best 78 = .ok (.iconst 1, 1) := by decide +kernel
theorem dX12_best_79 : decode cX12_best 79 = .ok (.goto 4, 3) := by decide +kernel
theorem dX12_best_82 : decode cX12_best 82 = .ok (.iconst 0, 1) := by decide +kernel
theorem dX12_best_83 : decode cX12_best 83 = .ok (.istore 8, 2) := by decide +kernel
theorem dX12_best_85 : decode cX12_best 85 = .ok (.iload 7, 2) := by decide +kernel
theorem dX12_best_87 : decode cX12_best 87 = .ok (.aload_n 0, 1) := by decide +kernel
theorem dX12_best_88 : decode cX12_best 88 = .ok (.getfield 110, 3) := by decide +kernel
theorem dX12_best_91 : decode cX12_best 91 = .ok (.iconst 5, 1) := by decide +kernel
theorem dX12_best_92 : decode cX12_best 92 = .ok (.iload 9, 2) := by decide +kernel
theorem dX12_best_94 : decode cX12_best 94 = .ok (.imul, 1) := by decide +kernel
theorem dX12_best_95 : decode cX12_best 95 = .ok (.aload_n 0, 1) := by decide +kernel
theorem dX12_best_96 : decode cX12_best 96 = .ok (.getfield 107, 3) := by decide +kernel
theorem dX12_best_99 : decode cX12_best 99 = .ok (.iload 9, 2) := by decide +kernel
theorem dX12_best_101 : decode cX12_best 101 = .ok (.iaload, 1) := by decide +kernel
theorem dX12_best_102 : decode cX12_best 102 = .ok (.iadd, 1) := by decide +kernel
theorem dX12_best_103 : decode cX12_best 103 = .ok (.iaload, 1) := by decide +kernel
theorem dX12_best_104 : decode cX12_best 104 = .ok (.iadd, 1) := by decide +kernel
theorem dX12_best_105 : decode cX12_best 105 = .ok (.istore 7, 2) := by decide +kernel
theorem dX12_best_107 : decode cX12_best 107 = .ok (.iload 5, 2) := by decide +kernel
theorem dX12_best_109 : decode cX12_best 109 = .ok (.iload 6, 2) := by decide +kernel
theorem dX12_best_111 : decode cX12_best 111 = .ok (.aload_n 0, 1) := by decide +kernel
theorem dX12_best_112 : decode cX12_best 112 = .ok (.getfield 107, 3) := by decide +kernel
theorem dX12_best_115 : decode cX12_best 115 = .ok (.iload 9, 2) := by decide +kernel
theorem dX12_best_117 : decode cX12_best 117 = .ok (.iaload, 1) := by decide +kernel
theorem dX12_best_118 : decode cX12_best 118 = .ok (.imul, 1) := by decide +kernel
theorem dX12_best_119 : decode cX12_best 119 = .ok (.iadd, 1) := by decide +kernel
theorem dX12_best_120 : decode cX12_best 120 = .ok (.istore 5, 2) := by decide +kernel
theorem dX12_best_122 : decode cX12_best 122 = .ok (.iload 6, 2) := by decide +kernel
theorem dX12_best_124 : decode cX12_best 124 = .ok (.bipush 10, 2) := by decide +kernel
theorem dX12_best_126 : decode cX12_best 126 = .ok (.imul, 1) := by decide +kernel
theorem dX12_best_127 : decode cX12_best 127 = .ok (.istore 6, 2) := by decide +kernel
theorem dX12_best_129 : decode cX12_best 129 = .ok (.iload 4, 2) := by decide +kernel
theorem dX12_best_131 : decode cX12_best 131 = .ok (.iconst 5, 1) := by decide +kernel
theorem dX12_best_132 : decode cX12_best 132 = .ok (.idiv, 1) := by decide +kernel
theorem dX12_best_133 : decode cX12_best 133 = .ok (.istore 4, 2) := by decide +kernel
theorem dX12_best_135 : decode cX12_best 135 = .ok (.iinc 9 (-1), 3) := by decide +kernel
theorem dX12_best_138 : decode cX12_best 138 = .ok (.goto (-100), 3) := by decide +kernel
theorem dX12_best_141 : decode cX12_best 141 = .ok (.iload 8, 2) := by decide +kernel
theorem dX12_best_143 : decode cX12_best 143 = .ok (.ifCond .eq 22, 3) := by decide +kernel
theorem dX12_best_146 : decode cX12_best 146 = .ok (.iload 7, 2) := by decide +kernel
theorem dX12_best_148 : decode cX12_best 148 = .ok (.iload_n 2, 1) := by decide +kernel
theorem dX12_best_149 : decode cX12_best 149 = .ok (.if_icmp .ge 16, 3) := by decide +kernel
theorem dX12_best_152 : decode cX12_best 152 = .ok (.aload_n 0, 1) := by decide +kernel
theorem dX12_best_153 : decode cX12_best 153 = .ok (.invokevirtual 351, 3) := by decide +kernel
theorem dX12_best_156 : decode cX12_best 156 = .ok (.ifCond .eq 9, 3) := by decide +kernel
theorem dX12_best_159 : decode cX12_best 159 = .ok (.iload 7, 2) := by decide +kernel
theorem dX12_best_161 : decode cX12_best 161 = .ok (.istore_n 2, 1) := by decide +kernel
theorem dX12_best_162 : decode cX12_best 162 = .ok (.iload 5, 2) := by decide +kernel
theorem dX12_best_164 : decode cX12_best 164 = .ok (.istore_n 1, 1) := by decide +kernel
theorem dX12_best_165 : decode cX12_best 165 = .ok (.iinc 3 1, 3) := by decide +kernel
theorem dX12_best_168 : decode cX12_best 168 = .ok (.goto (-156), 3) := by decide +kernel
theorem dX12_best_171 : decode cX12_best 171 = .ok (.iload_n 1, 1) := by decide +kernel
theorem dX12_best_172 : decode cX12_best 172 = .ok (.ireturn, 1) := by decide +kernel
theorem dX12_told_0 : decode cX12_told 0 = .ok (.iload_n 1, 1) := by decide +kernel
theorem dX12_told_1 : decode cX12_told 1 = .ok (.i2l, 1) := by decide +kernel
theorem dX12_told_2 : decode cX12_told 2 = .ok (.ldc2_w 273, 3) := by decide +kernel
theorem dX12_told_5 : decode cX12_told 5 = .ok (.ldc2_w 275, 3) := by decide +kernel
theorem dX12_told_8 : decode cX12_told 8 = .ok (.invokestatic 115, 3) := by decide +kernel
theorem dX12_told_11 : decode cX12_told 11 = .ok (.ifCond .eq 13, 3) := by decide +kernel
theorem dX12_told_14 : decode cX12_told 14 = .ok (.aload_n 0, 1) := by decide +kernel
theorem dX12_told_15 : decode cX12_told 15 = .ok (.getfield 25, 3) := by decide +kernel
theorem dX12_told_18 : decode cX12_told 18 = .ok (.iload_n 1, 1) := by decide +kernel
theorem dX12_told_19 : decode cX12_told 19 = .ok (.bipush 10, 2) := by decide +kernel
theorem dX12_told_21 : decode cX12_told 21 = .ok (.isub, 1) := by decide +kernel
theorem dX12_told_22 : decode cX12_told 22 = .ok (.iaload, 1) := by decide +kernel
theorem dX12_told_23 : decode cX12_told 23 = .ok (.ireturn, 1) := by decide +kernel
theorem dX12_told_24 : decode cX12_told 24 = .ok (.iconst 0, 1) := by decide +kernel
theorem dX12_told_25 : decode cX12_told 25 = .ok (.istore_n 2, 1) := by decide +kernel
theorem dX12_told_26 : decode cX12_told 26 = .ok (.iload_n 1, 1) := by decide +kernel
theorem dX12_told_27 : decode cX12_told 27 = .ok (.i2l, 1) := by decide +kernel
theorem dX12_told_28 : decode cX12_told 28 = .ok (.ldc2_w 365, 3) := by decide +kernel
theorem dX12_told_31 : decode cX12_told 31 = .ok (.ldc2_w 367, 3) := by decide +kernel
theorem dX12_told_34 : decode cX12_told 34 = .ok (.invokestatic 115, 3) := by decide +kernel
theorem dX12_told_37 : decode cX12_told 37 = .ok (.ifCond .eq 44, 3) := by decide +kernel
theorem dX12_told_40 : decode cX12_told 40 = .ok (.iconst 0, 1) := by decide +kernel
theorem dX12_told_41 : decode cX12_told 41 = .ok (.istore_n 3, 1) := by decide +kernel
theorem dX12_told_42 : decode cX12_told 42 = .ok (.iload_n 3, 1) := by decide +kernel
theorem dX12_told_43 : decode cX12_told 43 = .ok (.bipush 26, 2) := by decide +kernel
theorem dX12_told_45 : decode cX12_told 45 = .ok (.if_icmp .ge 34, 3) := by decide +kernel
theorem dX12_told_48 : decode cX12_told 48 = .ok (.iload_n 2, 1) := by decide +kernel
theorem dX12_told_49 : decode cX12_told 49 = .ok (.aload_n 0, 1) := by decide +kernel
theorem dX12_told_50 : decode cX12_told 50 = .ok (.getfield 7, 3) := by decide +kernel
theorem dX12_told_53 : decode cX12_told 53 = .ok (.bipush 26, 2) := by decide +kernel
theorem dX12_told_55 : decode cX12_told 55 = .ok (.iload_n 1, 1) := by decide +kernel
theorem dX12_told_56 : decode cX12_told 56 = .ok (.bipush 20, 2) := by decide +kernel
theorem dX12_told_58 : decode cX12_told 58 = .ok (.isub, 1) := by decide +kernel
theorem dX12_told_59 : decode cX12_told 59 = .ok (.imul, 1) := by decide +kernel
theorem dX12_told_60 : decode cX12_told 60 = .ok (.iload_n 3, 1) := by decide +kernel
theorem dX12_told_61 : decode cX12_told 61 = .ok (.iadd, 1) := by decide +kernel
theorem dX12_told_62 : decode cX12_told 62 = .ok (.iaload, 1) := by decide +kernel
theorem dX12_told_63 : decode cX12_told 63 = .ok (.ifCond .le 7, 3) := by decide +kernel
theorem dX12_told_66 : decode cX12_told 66 = .ok (.iconst 1, 1) := by decide +kernel
theorem dX12_told_67 : decode cX12_told 67 = .ok (.goto 4, 3) := by decide +kernel
theorem dX12_told_70 : decode cX12_told 70 = .ok (.iconst 0, 1) := by decide +kernel
theorem dX12_told_71 : decode cX12_told 71 = .ok (.iadd, 1) := by decide +kernel
theorem dX12_told_72 : decode cX12_told 72 = .ok (.istore_n 2, 1) := by decide +kernel
theorem dX12_told_73 : decode cX12_told 73 = .ok (.iinc 3 1, 3) := by decide +kernel
theorem dX12_told_76 : decode cX12_told 76 = .ok (.goto (-34), 3) := by decide +kernel
theorem dX12_told_79 : decode cX12_told 79 = .ok (.iload_n 2, 1) := by decide +kernel
theorem dX12_told_80 : decode cX12_told 80 = .ok (.ireturn, 1) := by decide +kernel
theorem dX12_told_81 : decode cX12_told 81 = .ok (.iconst 0, 1) := by decide +kernel
theorem dX12_told_82 : decode cX12_told 82 = .ok (.istore_n 3, 1) := by decide +kernel
theorem dX12_told_83 : decode cX12_told 83 = .ok (.iload_n 3, 1) := by decide +kernel
theorem dX12_told_84 : decode cX12_told 84 = .ok (.sipush 240, 3) := by decide +kernel
theorem dX12_told_87 : decode cX12_told 87 = .ok (.if_icmp .ge 18, 3) := by decide +kernel
theorem dX12_told_90 : decode cX12_told 90 = .ok (.iload_n 2, 1) := by decide +kernel
theorem dX12_told_91 : decode cX12_told 91 = .ok (.aload_n 0, 1) := by decide +kernel
theorem dX12_told_92 : decode cX12_told 92 = .ok (.getfield 86, 3) := by decide +kernel
theorem dX12_told_95 : decode cX12_told 95 = .ok (.iload_n 3, 1) := by decide +kernel
theorem dX12_told_96 : decode cX12_told 96 = .ok (.iaload, 1) := by decide +kernel
theorem dX12_told_97 : decode cX12_told 97 = .ok (.iadd, 1) := by decide +kernel
theorem dX12_told_98 : decode cX12_told 98 = .ok (.istore_n 2, 1) := by decide +kernel
theorem dX12_told_99 : decode cX12_told 99 = .ok (.iinc 3 1, 3) := by decide +kernel
theorem dX12_told_102 : decode cX12_told 102 = .ok (.goto (-19), 3) := by decide +kernel
theorem dX12_told_105 : decode cX12_told 105 = .ok (.iload_n 1, 1) := by decide +kernel
theorem dX12_told_106 : decode cX12_told 106 = .ok (.tableswitch 74 0 6 #[42, 47, 52, 57, 62, 67, 72], 42) := by decide +kernel
theorem dX12_told_148 : decode cX12_told 148 = .ok (.aload_n 0, 1) := by decide +kernel
theorem dX12_told_149 : decode cX12_told 149 = .ok (.getfield 130, 3) := by decide +kernel
theorem dX12_told_152 : decode cX12_told 152 = .ok (.ireturn, 1) := by decide +kernel
theorem dX12_told_153 : decode cX12_told 153 = .ok (.aload_n 0, 1) := by decide +kernel
theorem dX12_told_154 : decode cX12_told 154 = .ok (.getfield 134, 3) := by decide +kernel
theorem dX12_told_157 : decode cX12_told 157 = .ok (.ireturn, 1) := by decide +kernel
theorem dX12_told_158 : decode cX12_told 158 = .ok (.aload_n 0, 1) := by decide +kernel
theorem dX12_told_159 : decode cX12_told 159 = .ok (.getfield 137, 3) := by decide +kernel
theorem dX12_told_162 : decode cX12_told 162 = .ok (.ireturn, 1) := by decide +kernel
theorem dX12_told_163 : decode cX12_told 163 = .ok (.aload_n 0, 1) := by decide +kernel
theorem dX12_told_164 : decode cX12_told 164 = .ok (.getfield 213, 3) := by decide +kernel
theorem dX12_told_167 : decode cX12_told 167 = .ok (.ireturn, 1) := by decide +kernel
theorem dX12_told_168 : decode cX12_told 168 = .ok (.aload_n 0, 1) := by decide +kernel
theorem dX12_told_169 : decode cX12_told 169 = .ok (.getfield 235, 3) := by decide +kernel
theorem dX12_told_172 : decode cX12_told 172 = .ok (.ireturn, 1) := by decide +kernel
theorem dX12_told_173 : decode cX12_told 173 = .ok (.aload_n 0, 1) := by decide +kernel
theorem dX12_told_174 : decode cX12_told 174 = .ok (.getfield 249, 3) := by decide +kernel
theorem dX12_told_177 : decode cX12_told 177 = .ok (.ireturn, 1) := by decide +kernel
theorem dX12_told_178 : decode cX12_told 178 = .ok (.iload_n 2, 1) := by decide +kernel
theorem dX12_told_179 : decode cX12_told 179 = .ok (.ireturn, 1) := by decide +kernel
theorem dX12_told_180 : decode cX12_told 180 = .ok (.bipush (-2), 2) := by decide +kernel
theorem dX12_told_182 : decode cX12_told 182 = .ok (.ireturn, 1) := by decide +kernel
end
section
theorem dJ6_bitCount_0f7a4_0 : decode cJ6_bitCount_0f7a4 0 = .ok (.iload_n 0, 1) := by decide +kernel
theorem dJ6_bitCount_0f7a4_1 : decode cJ6_bitCount_0f7a4 1 = .ok (.iload_n 0, 1) := by decide +kernel
theorem dJ6_bitCount_0f7a4_2 : decode cJ6_bitCount_0f7a4 2 = .ok (.iconst 1, 1) := by decide +kernel
theorem dJ6_bitCount_0f7a4_3 : decode cJ6_bitCount_0f7a4 3 = .ok (.iushr, 1) := by decide +kernel
theorem dJ6_bitCount_0f7a4_4 : decode cJ6_bitCount_0f7a4 4 = .ok (.ldc_w 265, 3) := by decide +kernel
theorem dJ6_bitCount_0f7a4_7 : decode cJ6_bitCount_0f7a4 7 = .ok (.iand, 1) := by decide +kernel
theorem dJ6_bitCount_0f7a4_8 : decode cJ6_bitCount_0f7a4 8 = .ok (.isub, 1) := by decide +kernel
theorem dJ6_bitCount_0f7a4_9 : decode cJ6_bitCount_0f7a4 9 = .ok (.istore_n 0, 1) := by decide +kernel
theorem dJ6_bitCount_0f7a4_10 : decode cJ6_bitCount_0f7a4 10 = .ok (.iload_n 0, 1) := by decide +kernel
theorem dJ6_bitCount_0f7a4_11 : decode cJ6_bitCount_0f7a4 11 = .ok (.ldc_w 266, 3) := by decide +kernel
theorem dJ6_bitCount_0f7a4_14 : decode cJ6_bitCount_0f7a4 14 = .ok (.iand, 1) := by decide +kernel
theorem dJ6_bitCount_0f7a4_15 : decode cJ6_bitCount_0f7a4 15 = .ok (.iload_n 0, 1) := by decide +kernel
theorem dJ6_bitCount_0f7a4_16 : decode cJ6_bitCount_0f7a4 16 = .ok (.iconst 2, 1) := by decide +kernel
theorem dJ6_bitCount_0f7a4_17 : decode cJ6_bitCount_0f7a4 17 = .ok (.iushr, 1) := by decide +kernel
theorem dJ6_bitCount_0f7a4_18 : decode cJ6_bitCount_0f7a4 18 = .ok (.ldc_w 266, 3) := by decide +kernel
theorem dJ6_bitCount_0f7a4_21 : decode cJ6_bitCount_0f7a4 21 = .ok (.iand, 1) := by decide +kernel
theorem dJ6_bitCount_0f7a4_22 : decode cJ6_bitCount_0f7a4 22 = .ok (.iadd, 1) := by decide +kernel
theorem dJ6_bitCount_0f7a4_23 : decode cJ6_bitCount_0f7a4 23 = .ok (.istore_n 0, 1) := by decide +kernel
theorem dJ6_bitCount_0f7a4_24 : decode cJ6_bitCount_0f7a4 24 = .ok (.iload_n 0, 1) := by decide +kernel
theorem dJ6_bitCount_0f7a4_25 : decode cJ6_bitCount_0f7a4 25 = .ok (.iload_n 0, 1) := by decide +kernel
theorem dJ6_bitCount_0f7a4_26 : decode cJ6_bitCount_0f7a4 26 = .ok (.iconst 4, 1) := by decide +kernel
theorem dJ6_bitCount_0f7a4_27 : decode cJ6_bitCount_0f7a4 27 = .ok (.iushr, 1) := by decide +kernel
theorem dJ6_bitCount_0f7a4_28 : decode cJ6_bitCount_0f7a4 28 = .ok (.iadd, 1) := by decide +kernel
theorem dJ6_bitCount_0f7a4_29 : decode cJ6_bitCount_0f7a4 29 = .ok (.ldc_w 267, 3) := by decide +kernel
theorem dJ6_bitCount_0f7a4_32 : decode cJ6_bitCount_0f7a4 32 = .ok (.iand, 1) := by decide +kernel
theorem dJ6_bitCount_0f7a4_33 : decode cJ6_bitCount_0f7a4 33 = .ok (.istore_n 0, 1) := by decide +kernel
theorem dJ6_bitCount_0f7a4_34 : decode cJ6_bitCount_0f7a4 34 = .ok (.iload_n 0, 1) := by decide +kernel
theorem dJ6_bitCount_0f7a4_35 : decode cJ6_bitCount_0f7a4 35 = .ok (.iload_n 0, 1) := by decide +kernel
theorem dJ6_bitCount_0f7a4_36 : decode cJ6_bitCount_0f7a4 36 = .ok (.bipush 8, 2) := by decide +kernel
theorem dJ6_bitCount_0f7a4_38 : decode cJ6_bitCount_0f7a4 38 = .ok (.iushr, 1) := by decide +kernel
theorem dJ6_bitCount_0f7a4_39 : decode cJ6_bitCount_0f7a4 39 = .ok (.iadd, 1) := by decide +kernel
theorem dJ6_bitCount_0f7a4_40 : decode cJ6_bitCount_0f7a4 40 = .ok (.istore_n 0, 1) := by decide +kernel
theorem dJ6_bitCount_0f7a4_41 : decode cJ6_bitCount_0f7a4 41 = .ok (.iload_n 0, 1) := by decide +kernel
theorem dJ6_bitCount_0f7a4_42 : decode cJ6_bitCount_0f7a4 42 = .ok (.iload_n 0, 1) := by decide +kernel
theorem dJ6_bitCount_0f7a4_43 : decode cJ6_bitCount_0f7a4 43 = .ok (.bipush 16, 2) := by decide +kernel
theorem dJ6_bitCount_0f7a4_45 : decode cJ6_bitCount_0f7a4 45 = .ok (.iushr, 1) := by decide +kernel
theorem dJ6_bitCount_0f7a4_46 : decode cJ6_bitCount_0f7a4 46 = .ok (.iadd, 1) := by decide +kernel
theorem dJ6_bitCount_0f7a4_47 : decode cJ6_bitCount_0f7a4 47 = .ok (.istore_n 0, 1) := by decide +kernel
theorem dJ6_bitCount_0f7a4_48 : decode cJ6_bitCount_0f7a4 48 = .ok (.iload_n 0, 1) := by decide +kernel
theorem dJ6_bitCount_0f7a4_49 : decode cJ6_bitCount_0f7a4 49 = .ok (.bipush 63, 2) := by decide +kernel
theorem dJ6_bitCount_0f7a4_51 : decode cJ6_bitCount_0f7a4 51 = .ok (.iand, 1) := by decide +kernel
theorem dJ6_bitCount_0f7a4_52 : decode cJ6_bitCount_0f7a4 52 = .ok (.ireturn, 1) := by decide +kernel
theorem dJ9_max_7cf53_0 : decode cJ9_max_7cf53 0 = .ok (.iload_n 0, 1) := by decide +kernel
theorem dJ9_max_7cf53_1 : decode cJ9_max_7cf53 1 = .ok (.iload_n 1, 1) := by decide +kernel
theorem dJ9_max_7cf53_2 : decode cJ9_max_7cf53 2 = .ok (.if_icmp .lt 7, 3) := by decide +kernel
theorem dJ9_max_7cf53_5 : decode cJ9_max_7cf53 5 = .ok (.iload_n 0, 1) := by decide +kernel
theorem dJ9_max_7cf53_6 : decode cJ9_max_7cf53 6 = .ok (.goto 4, 3) := by decide +kernel
theorem dJ9_max_7cf53_9 : decode cJ9_max_7cf53 9 = .ok (.iload_n 1, 1) := by decide +kernel
theorem dJ9_max_7cf53_10 : decode cJ9_max_7cf53 10 = .ok (.ireturn, 1) := by decide +kernel
theorem dJ9_min_7cf53_0 : decode cJ9_min_7cf53 0 = .ok (.iload_n 0, 1) := by decide +kernel
theorem dJ9_min_7cf53_1 : decode cJ9_min_7cf53 1 = .ok (.iload_n 1, 1) := by decide +kernel
theorem dJ9_min_7cf53_2 : decode cJ9_min_7cf53 2 = .ok (.if_icmp .gt 7, 3) := by decide +kernel
theorem dJ9_min_7cf53_5 : decode cJ9_min_7cf53 5 = .ok (.iload_n 0, 1) := by decide +kernel
theorem dJ9_min_7cf53_6 : decode cJ9_min_7cf53 6 = .ok (.goto 4, 3) := by decide +kernel
theorem dJ9_min_7cf53_9 : decode cJ9_min_7cf53 9 = .ok (.iload_n 1, 1) := by decide +kernel
theorem dJ9_min_7cf53_10 : decode cJ9_min_7cf53 10 = .ok (.ireturn, 1) := by decide +kernel
theorem dJ7_fill_53178_0 : decode cJ7_fill_53178 0 = .ok (.iconst 0, 1) := by decide +kernel
theorem dJ7_fill_53178_1 : decode cJ7_fill_53178 1 = .ok (.istore_n 2, 1) := by decide +kernel
theorem dJ7_fill_53178_2 : decode cJ7_fill_53178 2 = .ok (.aload_n 0, 1) := by decide +kernel
theorem dJ7_fill_53178_3 : decode cJ7_fill_53178 3 = .ok (.arraylength, 1) := by decide +kernel
theorem dJ7_fill_53178_4 : decode cJ7_fill_53178 4 = .ok (.istore_n 3, 1) := by decide +kernel
theorem dJ7_fill_53178_5 : decode cJ7_fill_53178 5 = .ok (.iload_n 2, 1) := by decide +kernel
theorem dJ7_fill_53178_6 : decode cJ7_fill_53178 6 = .ok (.iload_n 3, 1) := by decide +kernel
theorem dJ7_fill_53178_7 : decode cJ7_fill_53178 7 = .ok (.if_icmp .ge 13, 3) := by decide +kernel
theorem dJ7_fill_53178_10 : decode cJ7_fill_53178 10 = .ok (.aload_n 0, 1) := by decide +kernel
theorem dJ7_fill_53178_11 : decode cJ7_fill_53178 11 = .ok (.iload_n 2, 1) := by decide +kernel
theorem dJ7_fill_53178_12 : decode cJ7_fill_53178 12 = .ok (.iload_n 1, 1) := by decide +kernel
theorem dJ7_fill_53178_13 : decode cJ7_fill_53178 13 = .ok (.iastore, 1) := by decide +kernel
theorem dJ7_fill_53178_14 : decode cJ7_fill_53178 14 = .ok (.iinc 2 1, 3) := by decide +kernel
theorem dJ7_fill_53178_17 : decode cJ7_fill_53178 17 = .ok (.goto (-12), 3) := by decide +kernel
theorem dJ7_fill_53178_20 : decode cJ7_fill_53178 20 = .ok (.return_, 1) := by decide +kernel
theorem dL_law_0 : decode cL_law 0 = .ok (.new 7, 3) := by decide +kernel
theorem dL_law_3 : decode cL_law 3 = .ok (.dup, 1) := by decide +kernel
theorem dL_law_4 : decode cL_law 4 = .ok (.invokespecial 9, 3) := by decide +kernel
theorem dL_law_7 : decode cL_law 7 = .ok (.astore_n 1, 1) := by decide +kernel
theorem dL_law_8 : decode cL_law 8 = .ok (.new 10, 3) := by decide +kernel
theorem dL_law_11 : decode cL_law 11 = .ok (.dup, 1) := by decide +kernel
theorem dL_law_12 : decode cL_law 12 = .ok (.invokespecial 12, 3) := by decide +kernel
theorem dL_law_15 : decode cL_law 15 = .ok (.astore_n 2, 1) := by decide +kernel
theorem dL_law_16 : decode cL_law 16 = .ok (.iconst 0, 1) := by decide +kernel
theorem dL_law_17 : decode cL_law 17 = .ok (.istore_n 3, 1) := by decide +kernel
theorem dL_law_18 : decode cL_law 18 = .ok (.iload_n 3, 1) := by decide +kernel
theorem dL_law_19 : decode cL_law 19 = .ok (.aload_n 0, 1) := by decide +kernel
theorem dL_law_20 : decode cL_law 20 = .ok (.arraylength, 1) := by decide +kernel
theorem dL_law_21 : decode cL_law 21 = .ok (.iconst 5, 1) := by decide +kernel
theorem dL_law_22 : decode cL_law 22 = .ok (.isub, 1) := by decide +kernel
theorem dL_law_23 : decode cL_law 23 = .ok (.if_icmp .gt 1221, 3) := by decide +kernel
theorem dL_law_26 : decode cL_law 26 = .ok (.aload_n 0, 1) := by decide +kernel
theorem dL_law_27 : decode cL_law 27 = .ok (.iload_n 3, 1) := by decide +kernel
theorem dL_law_28 : decode cL_law 28 = .ok (.iaload, 1) := by decide +kernel
theorem dL_law_29 : decode cL_law 29 = .ok (.bipush 63, 2) := by decide +kernel
theorem dL_law_31 : decode cL_law 31 = .ok (.iand, 1) := by decide +kernel
theorem dL_law_32 : decode cL_law 32 = .ok (.tableswitch 1206 0 33 #[152, 195, 218, 241, 264, 287, 320, 353, 386, 399, 442, 485, 498, 551, 610, 653, 686, 719, 752, 785, 818, 871, 894, 927, 960, 983, 996, 1019, 1042, 1091, 1124, 1147, 1170, 1183], 152) := by decide +kernel
theorem dL_law_184 : decode cL_law 184 = .ok (.aload_n 1, 1) := by decide +kernel
theorem dL_law_185 : decode cL_law 185 = .ok (.aload_n 0, 1) := by decide +kernel
theorem dL_law_186 : decode cL_law 186 = .ok (.iload_n 3, 1) := by decide +kernel
theorem dL_law_187 : decode cL_law 187 = .ok (.iconst 1, 1) := by decide +kernel
theorem dL_law_188 : decode cL_law 188 = .ok (.iadd, 1) := by decide +kernel
theorem dL_law_189 : decode cL_law 189 = .ok (.iaload, 1) := by decide +kernel
theorem dL_law_190 : decode cL_law 190 = .ok (.aload_n 0, 1) := by decide +kernel
theorem dL_law_191 : decode cL_law 191 = .ok (.iload_n 3, 1) := by decide +kernel
theorem dL_law_192 : decode cL_law 192 = .ok (.iconst 2, 1) := by decide +kernel
theorem dL_law_193 : decode cL_law 193 = .ok (.iadd, 1) := by decide +kernel
theorem dL_law_194 : decode cL_law 194 = .ok (.iaload, 1) := by decide +kernel
theorem dL_law_195 : decode cL_law 195 = .ok (.aload_n 0, 1) := by decide +kernel
theorem dL_law_196 : decode cL_law 196 = .ok (.iload_n 3, 1) := by decide +kernel
theorem dL_law_197 : decode cL_law 197 = .ok (.iconst 3, 1) := by decide +kernel
theorem dL_law_198 : decode cL_law 198 = .ok (.iadd, 1) := by decide +kernel
theorem dL_law_199 : decode cL_law 199 = .ok (.iaload, 1) := by decide +kernel
theorem dL_law_200 : decode cL_law 200 = .ok (.invokevirtual 13, 3) := by decide +kernel
theorem dL_law_203 : decode cL_law 203 = .ok (.aload_n 2, 1) := by decide +kernel
theorem dL_law_204 : decode cL_law 204 = .ok (.aload_n 0, 1) := by decide +kernel
theorem dL_law_205 : decode cL_law 205 = .ok (.iload_n 3, 1) := by decide +kernel
theorem dL_law_206 : decode cL_law 206 = .ok (.iconst 1, 1) := by decide +kernel
theorem dL_law_207 : decode cL_law 207 = .ok (.iadd, 1) := by decide +kernel
theorem dL_law_208 : decode cL_law 208 = .ok (.iaload, 1) := by decide +kernel
theorem dL_law_209 : decode cL_law 209 = .ok (.aload_n 0, 1) := by decide +kernel
theorem dL_law_210 : decode cL_law 210 = .ok (.iload_n 3, 1) := by decide +kernel
theorem dL_law_211 : decode cL_law 211 = .ok (.iconst 2, 1) := by decide +kernel
theorem dL_law_212 : decode cL_law 212 = .ok (.iadd, 1) := by decide +kernel
theorem dL_law_213 : decode cL_law 213 = .ok (.iaload, 1) := by decide +kernel
theorem dL_law_214 : decode cL_law 214 = .ok (.aload_n 0, 1) := by decide +kernel
theorem dL_law_215 : decode cL_law 215 = .ok (.iload_n 3, 1) := by decide +kernel
theorem dL_law_216 : decode cL_law 216 = .ok (.iconst 3, 1) := by decide +kernel
theorem dL_law_217 : decode cL_law 217 = .ok (.iadd, 1) := by decide +kernel
theorem dL_law_218 : decode cL_law 218 = .ok (.iaload, 1) := by decide +kernel
theorem dL_law_219 : decode cL_law 219 = .ok (.invokevirtual 17, 3) := by decide +kernel
theorem dL_law_222 : decode cL_law 222 = .ok (.if_icmp .eq 1016, 3) := by decide +kernel
theorem dL_law_225 : decode cL_law 225 = .ok (.iconst 0, 1) := by decide +kernel
theorem dL_law_226 : decode cL_law 226 = .ok (.ireturn, 1) := by decide +kernel
theorem dL_law_227 : decode cL_law 227 = .ok (.aload_n 1, 1) := by decide +kernel
theorem dL_law_228 : decode cL_law 228 = .ok (.aload_n 0, 1) := by decide +kernel
theorem dL_law_229 : decode cL_law 229 = .ok (.iload_n 3, 1) := by decide +kernel
theorem dL_law_230 : decode cL_law 230 = .ok (.iconst 1, 1) := by decide +kernel
theorem dL_law_231 : decode cL_law 231 = .ok (.iadd, 1) := by decide +kernel
theorem dL_law_232 : decode cL_law 232 = .ok (.iaload, 1) := by decide +kernel
theorem dL_law_233 : decode cL_law 233 = .ok (.invokevirtual 18, 3) := by decide +kernel
theorem dL_law_236 : decode cL_law 236 = .ok (.aload_n 2, 1) := by decide +kernel
theorem dL_law_237 : decode cL_law 237 = .ok (.aload_n 0, 1) := by decide +kernel
theorem dL_law_238 : decode cL_law 238 = .ok (.iload_n 3, 1) := by decide +kernel
theorem dL_law_239 : decode cL_law 239 = .ok (.iconst 1, 1) := by decide +kernel
theorem dL_law_240 : decode cL_law 240 = .ok (.iadd, 1) := by decide +kernel
theorem dL_law_241 : decode cL_law 241 = .ok (.iaload, 1) := by decide +kernel
theorem dL_law_242 : decode cL_law 242 = .ok (.invokevirtual 22, 3) := by decide +kernel
theorem dL_law_245 : decode cL_law 245 = .ok (.if_icmp .eq 993, 3) := by decide +kernel
theorem dL_law_248 : decode cL_law 248 = .ok (.iconst 0, 1) := by decide +kernel
theorem dL_law_249 : decode cL_law 249 = .ok (.ireturn, 1) := by decide +kernel
theorem dL_law_250 : decode cL_law 250 = .ok (.aload_n 1, 1) := by decide +kernel
theorem dL_law_251 : decode cL_law 251 = .ok (.aload_n 0, 1) := by decide +kernel
theorem dL_law_252 : decode cL_law 252 = .ok (.iload_n 3, 1) := by decide +kernel
theorem dL_law_253 : decode cL_law 253 = .ok (.iconst 1, 1) := by decide +kernel
theorem dL_law_254 : decode cL_law 254 = .ok (.iadd, 1) := by decide +kernel
theorem dL_law_255 : decode cL_law 255 = .ok (.iaload, 1) := by decide +kernel
theorem dL_law_256 : decode cL_law 256 = .ok (.invokevirtual 23, 3) := by decide +kernel
theorem dL_law_259 : decode cL_law 259 = .ok (.aload_n 2, 1) := by decide +kernel
theorem dL_law_260 : decode cL_law 260 = .ok (.aload_n 0, 1) := by decide +kernel
theorem dL_law_261 : decode cL_law 261 = .ok (.iload_n 3, 1) := by decide +kernel
theorem dL_law_262 : decode cL_law 262 = .ok (.iconst 1, 1) := by decide +kernel
theorem dL_law_263 : decode cL_law 263 = .ok (.iadd, 1) := by decide +kernel
theorem dL_law_264 : decode cL_law 264 = .ok (.iaload, 1) := by decide +kernel
theorem dL_law_265 : decode cL_law 265 = .ok (.invokevirtual 26, 3) := by decide +kernel
theorem dL_law_268 : decode cL_law 268 = .ok (.if_icmp .eq 970, 3) := by decide +kernel
theorem dL_law_271 : decode cL_law 271 = .ok (.iconst 0, 1) := by decide +kernel
theorem dL_law_272 : decode cL_law 272 = .ok (.ireturn, 1) := by decide +kernel
theorem dL_law_273 : decode cL_law 273 = .ok (.aload_n 1, 1) := by decide +kernel
theorem dL_law_274 : decode cL_law 274 = .ok (.aload_n 0, 1) := by decide +kernel
theorem dL_law_275 : decode cL_law 275 = .ok (.iload_n 3, 1) := by decide +kernel
theorem dL_law_276 : decode cL_law 276 = .ok (.iconst 1, 1) := by decide +kernel
theorem dL_law_277 : decode cL_law 277 = .ok (.iadd, 1) := by decide +kernel
theorem dL_law_278 : decode cL_law 278 = .ok (.iaload, 1) := by decide +kernel
theorem dL_law_279 : decode cL_law 279 = .ok (.invokevirtual 27, 3) := by decide +kernel
theorem dL_law_282 : decode cL_law 282 = .ok (.aload_n 2, 1) := by decide +kernel
theorem dL_law_283 : decode cL_law 283 = .ok (.aload_n 0, 1) := by decide +kernel
theorem dL_law_284 : decode cL_law 284 = .ok (.iload_n 3, 1) := by decide +kernel
theorem dL_law_285 : decode cL_law 285 = .ok (.iconst 1, 1) := by decide +kernel
theorem dL_law_286 : decode cL_law 286 = .ok (.iadd, 1) := by decide +kernel
theorem dL_law_287 : decode cL_law 287 = .ok (.iaload, 1) := by decide +kernel
theorem dL_law_288 : decode cL_law 288 = .ok (.invokevirtual 30, 3) := by decide +kernel
theorem dL_law_291 : decode cL_law 291 = .ok (.if_icmp .eq 947, 3) := by decide +kernel
theorem dL_law_294 : decode cL_law 294 = .ok (.iconst 0, 1) := by decide +kernel
theorem dL_law_295 : decode cL_law 295 = .ok (.ireturn, 1) := by decide +kernel
theorem dL_law_296 : decode cL_law 296 = .ok (.aload_n 1, 1) := by decide +kernel
theorem dL_law_297 : decode cL_law 297 = .ok (.aload_n 0, 1) := by decide +kernel
theorem dL_law_298 : decode cL_law 298 = .ok (.iload_n 3, 1) := by decide +kernel
theorem dL_law_299 : decode cL_law 299 = .ok (.iconst 1, 1) := by decide +kernel
theorem dL_law_300 : decode cL_law 300 = .ok (.iadd, 1) := by decide +kernel
theorem dL_law_301 : decode cL_law 301 = .ok (.iaload, 1) := by decide +kernel
theorem dL_law_302 : decode cL_law 302 = .ok (.invokevirtual 31, 3) := by decide +kernel
theorem dL_law_305 : decode cL_law 305 = .ok (.aload_n 2, 1) := by decide +kernel
theorem dL_law_306 : decode cL_law 306 = .ok (.aload_n 0, 1) := by decide +kernel
theorem dL_law_307 : decode cL_law 307 = .ok (.iload_n 3, 1) := by decide +kernel
theorem dL_law_308 : decode cL_law 308 = .ok (.iconst 1, 1) := by decide +kernel
theorem dL_law_309 : decode cL_law 309 = .ok (.iadd, 1) := by decide +kernel
theorem dL_law_310 : decode cL_law 310 = .ok (.iaload, 1) := by decide +kernel
theorem dL_law_311 : decode cL_law 311 = .ok (.invokevirtual 34, 3) := by decide +kernel
theorem dL_law_314 : decode cL_law 314 = .ok (.if_icmp .eq 924, 3) := by decide +kernel
theorem dL_law_317 : decode cL_law 317 = .ok (.iconst 0, 1) := by decide +kernel
theorem dL_law_318 : decode cL_law 318 = .ok (.ireturn, 1) := by decide +kernel
theorem dL_law_319 : decode cL_law 319 = .ok (.aload_n 1, 1) := by decide +kernel
theorem dL_law_320 : decode cL_law 320 = .ok (.aload_n 0, 1) := by decide +kernel
theorem dL_law_321 : decode cL_law 321 = .ok (.iload_n 3, 1) := by decide +kernel
theorem dL_law_322 : decode cL_law 322 = .ok (.iconst 1, 1) := by decide +kernel
theorem dL_law_323 : decode cL_law 323 = .ok (.iadd, 1) := by decide +kernel
theorem dL_law_324 : decode cL_law 324 = .ok (.iaload, 1) := by decide +kernel
theorem dL_law_325 : decode cL_law 325 = .ok (.aload_n 0, 1) := by decide +kernel
theorem dL_law_326 : decode cL_law 326 = .ok (.iload_n 3, 1) := by decide +kernel
theorem dL_law_327 : decode cL_law 327 = .ok (.iconst 2, 1) := by decide +kernel
theorem dL_law_328 : decode cL_law 328 = .ok (.iadd, 1) := by decide +kernel
theorem dL_law_329 : decode cL_law 329 = .ok (.iaload, 1) := by decide +kernel
theorem dL_law_330 : decode cL_law 330 = .ok (.invokevirtual 35, 3) := by decide +kernel
theorem dL_law_333 : decode cL_law 333 = .ok (.aload_n 2, 1) := by decide +kernel
theorem dL_law_334 : decode cL_law 334 = .ok (.aload_n 0, 1) := by decide +kernel
theorem dL_law_335 : decode cL_law 335 = .ok (.iload_n 3, 1) := by decide +kernel
theorem dL_law_336 : decode cL_law 336 = .ok (.iconst 1, 1) := by decide +kernel
theorem dL_law_337 : decode cL_law 337 = .ok (.iadd, 1) := by decide +kernel
theorem dL_law_338 : decode cL_law 338 = .ok (.iaload, 1) := by decide +kernel
theorem dL_law_339 : decode cL_law 339 = .ok (.aload_n 0, 1) := by decide +kernel
theorem dL_law_340 : decode cL_law 340 = .ok (.iload_n 3, 1) := by decide +kernel
theorem dL_law_341 : decode cL_law 341 = .ok (.iconst 2, 1) := by decide +kernel
theorem dL_law_342 : decode cL_law 342 = .ok (.iadd, 1) := by decide +kernel
theorem dL_law_343 : decode cL_law 343 = .ok (.iaload, 1) := by decide +kernel
theorem dL_law_344 : decode cL_law 344 = .ok (.invokevirtual 39, 3) := by decide +kernel
theorem dL_law_347 : decode cL_law 347 = .ok (.if_icmp .eq 891, 3) := by decide +kernel
theorem dL_law_350 : decode cL_law 350 = .ok (.iconst 0, 1) := by decide +kernel
theorem dL_law_351 : decode cL_law 351 = .ok (.ireturn, 1) := by decide +kernel
theorem dL_law_352 : decode cL_law 352 = .ok (.aload_n 1, 1) := by decide +kernel
theorem dL_law_353 : decode cL_law 353 = .ok (.aload_n 0, 1) := by decide +kernel
theorem dL_law_354 : decode cL_law 354 = .ok (.iload_n 3, 1) := by decide +kernel
theorem dL_law_355 : decode cL_law 355 = .ok (.iconst 1, 1) := by decide +kernel
theorem dL_law_356 : decode cL_law 356 = .ok (.iadd, 1) := by decide +kernel
theorem dL_law_357 : decode cL_law 357 = .ok (.iaload, 1) := by decide +kernel
theorem dL_law_358 : decode cL_law 358 = .ok (.aload_n 0, 1) := by decide +kernel
theorem dL_law_359 : decode cL_law 359 = .ok (.iload_n 3, 1) := by decide +kernel
theorem dL_law_360 : decode cL_law 360 = .ok (.iconst 2, 1) := by decide +kernel
theorem dL_law_361 : decode cL_law 361 = .ok (.iadd, 1) := by decide +kernel
theorem dL_law_362 : decode cL_law 362 = .ok (.iaload, 1) := by decide +kernel
theorem dL_law_363 : decode cL_law 363 = .ok (.invokevirtual 40, 3) := by decide +kernel
theorem dL_law_366 : decode cL_law 366 = .ok (.aload_n 2, 1) := by decide +kernel
theorem dL_law_367 : decode cL_law 367 = .ok (.aload_n 0, 1) := by decide +kernel
theorem dL_law_368 : decode cL_law 368 = .ok (.iload_n 3, 1) := by decide +kernel
theorem dL_law_369 : decode cL_law 369 = .ok (.iconst 1, 1) := by decide +kernel
theorem dL_law_370 : decode cL_law 370 = .ok (.iadd, 1) := by decide +kernel
theorem dL_law_371 : decode cL_law 371 = .ok (.iaload, 1) := by decide +kernel
theorem dL_law_372 : decode cL_law 372 = .ok (.aload_n 0, 1) := by decide +kernel
theorem dL_law_373 : decode cL_law 373 = .ok (.iload_n 3, 1) := by decide +kernel
theorem dL_law_374 : decode cL_law 374 = .ok (.iconst 2, 1) := by decide +kernel
theorem dL_law_375 : decode cL_law 375 = .ok (.iadd, 1) := by decide +kernel
theorem dL_law_376 : decode cL_law 376 = .ok (.iaload, 1) := by decide +kernel
theorem dL_law_377 : decode cL_law 377 = .ok (.invokevirtual 43, 3) := by decide +kernel
theorem dL_law_380 : decode cL_law 380 = .ok (.if_icmp .eq 858, 3) := by decide +kernel
theorem dL_law_383 : decode cL_law 383 = .ok (.iconst 0, 1) := by decide +kernel
theorem dL_law_384 : decode cL_law 384 = .ok (.ireturn, 1) := by decide +kernel
theorem dL_law_385 : decode cL_law 385 = .ok (.aload_n 1, 1) := by decide +kernel
theorem dL_law_386 : decode cL_law 386 = .ok (.aload_n 0, 1) := by decide +kernel
theorem dL_law_387 : decode cL_law 387 = .ok (.iload_n 3, 1) := by decide +kernel
theorem dL_law_388 : decode cL_law 388 = .ok (.iconst 1, 1) := by decide +kernel
theorem dL_law_389 : decode cL_law 389 = .ok (.iadd, 1) := by decide +kernel
theorem dL_law_390 : decode cL_law 390 = .ok (.iaload, 1) := by decide +kernel
theorem dL_law_391 : decode cL_law 391 = .ok (.aload_n 0, 1) := by decide +kernel
theorem dL_law_392 : decode cL_law 392 = .ok (.iload_n 3, 1) := by decide +kernel
theorem dL_law_393 : decode cL_law 393 = .ok (.iconst 2, 1) := by decide +kernel
theorem dL_law_394 : decode cL_law 394 = .ok (.iadd, 1) := by decide +kernel
theorem dL_law_395 : decode cL_law 395 = .ok (.iaload, 1) := by decide +kernel
theorem dL_law_396 : decode cL_law 396 = .ok (.invokevirtual 44, 3) := by decide +kernel
theorem dL_law_399 : decode cL_law 399 = .ok (.aload_n 2, 1) := by decide +kernel
theorem dL_law_400 : decode cL_law 400 = .ok (.aload_n 0, 1) := by decide +kernel
theorem dL_law_401 : decode cL_law 401 = .ok (.iload_n 3, 1) := by decide +kernel
theorem dL_law_402 : decode cL_law 402 = .ok (.iconst 1, 1) := by decide +kernel
theorem dL_law_403 : decode cL_law 403 = .ok (.iadd, 1) := by decide +kernel
theorem dL_law_404 : decode cL_law 404 = .ok (.iaload, 1) := by decide +kernel
theorem dL_law_405 : decode cL_law 405 = .ok (.aload_n 0, 1) := by decide +kernel
theorem dL_law_406 : decode cL_law 406 = .ok (.iload_n 3, 1) := by decide +kernel
theorem dL_law_407 : decode cL_law 407 = .ok (.iconst 2, 1) := by decide +kernel
theorem dL_law_408 : decode cL_law 408 = .ok (.iadd, 1) := by decide +kernel
theorem dL_law_409 : decode cL_law 409 = .ok (.iaload, 1) := by decide +kernel
theorem dL_law_410 : decode cL_law 410 = .ok (.invokevirtual 47, 3) := by decide +kernel
theorem dL_law_413 : decode cL_law 413 = .ok (.if_icmp .eq 825, 3) := by decide +kernel
theorem dL_law_416 : decode cL_law 416 = .ok (.iconst 0, 1) := by decide +kernel
theorem dL_law_417 : decode cL_law 417 = .ok (.ireturn, 1) := by decide +kernel
theorem dL_law_418 : decode cL_law 418 = .ok (.aload_n 1, 1) := by decide +kernel
theorem dL_law_419 : decode cL_law 419 = .ok (.invokevirtual 48, 3) := by decide +kernel
theorem dL_law_422 : decode cL_law 422 = .ok (.aload_n 2, 1) := by decide +kernel
theorem dL_law_423 : decode cL_law 423 = .ok (.invokevirtual 52, 3) := by decide +kernel
theorem dL_law_426 : decode cL_law 426 = .ok (.if_icmp .eq 812, 3) := by decide +kernel
theorem dL_law_429 : decode cL_law 429 = .ok (.iconst 0, 1) := by decide +kernel
theorem dL_law_430 : decode cL_law 430 = .ok (.ireturn, 1) := by decide +kernel
theorem dL_law_431 : decode cL_law 431 = .ok (.aload_n 1, 1) := by decide +kernel
theorem dL_law_432 : decode cL_law 432 = .ok (.aload_n 0, 1) := by decide +kernel
theorem dL_law_433 : decode cL_law 433 = .ok (.iload_n 3, 1) := by decide +kernel
theorem dL_law_434 : decode cL_law 434 = .ok (.iconst 1, 1) := by decide +kernel
theorem dL_law_435 : decode cL_law 435 = .ok (.iadd, 1) := by decide +kernel
theorem dL_law_436 : decode cL_law 436 = .ok (.iaload, 1) := by decide +kernel
theorem dL_law_437 : decode cL_law 437 = .ok (.aload_n 0, 1) := by decide +kernel
theorem dL_law_438 : decode cL_law 438 = .ok (.iload_n 3, 1) := by decide +kernel
theorem dL_law_439 : decode cL_law 439 = .ok (.iconst 2, 1) := by decide +kernel
theorem dL_law_440 : decode cL_law 440 = .ok (.iadd, 1) := by decide +kernel
theorem dL_law_441 : decode cL_law 441 = .ok (.iaload, 1) := by decide +kernel
theorem dL_law_442 : decode cL_law 442 = .ok (.aload_n 0, 1) := by decide +kernel
theorem dL_law_443 : decode cL_law 443 = .ok (.iload_n 3, 1) := by decide +kernel
theorem dL_law_444 : decode cL_law 444 = .ok (.iconst 3, 1) := by decide +kernel
theorem dL_law_445 : decode cL_law 445 = .ok (.iadd, 1) := by decide +kernel
theorem dL_law_446 : decode cL_law 446 = .ok (.iaload, 1) := by decide +kernel
theorem dL_law_447 : decode cL_law 447 = .ok (.invokevirtual 53, 3) := by decide +kernel
theorem dL_law_450 : decode cL_law 450 = .ok (.aload_n 2, 1) := by decide +kernel
theorem dL_law_451 : decode cL_law 451 = .ok (.aload_n 0, 1) := by decide +kernel
theorem dL_law_452 : decode cL_law 452 = .ok (.iload_n 3, 1) := by decide +kernel
theorem dL_law_453 : decode cL_law 453 = .ok (.iconst 1, 1) := by decide +kernel
theorem dL_law_454 : decode cL_law 454 = .ok (.iadd, 1) := by decide +kernel
theorem dL_law_455 : decode cL_law 455 = .ok (.iaload, 1) := by decide +kernel
theorem dL_law_456 : decode cL_law 456 = .ok (.aload_n 0, 1) := by decide +kernel
theorem dL_law_457 : decode cL_law 457 = .ok (.iload_n 3, 1) := by decide +kernel
theorem dL_law_458 : decode cL_law 458 = .ok (.iconst 2, 1) := by decide +kernel
theorem dL_law_459 : decode cL_law 459 = .ok (.iadd, 1) := by decide +kernel
theorem dL_law_460 : decode cL_law 460 = .ok (.iaload, 1) := by decide +kernel
theorem dL_law_461 : decode cL_law 461 = .ok (.aload_n 0, 1) := by decide +kernel
theorem dL_law_462 : decode cL_law 462 = .ok (.iload_n 3, 1) := by decide +kernel
theorem dL_law_463 : decode cL_law 463 = .ok (.iconst 3, 1) := by decide +kernel
theorem dL_law_464 : decode cL_law 464 = .ok (.iadd, 1) := by decide +kernel
theorem dL_law_465 : decode cL_law 465 = .ok (.iaload, 1) := by decide +kernel
theorem dL_law_466 : decode cL_law 466 = .ok (.invokevirtual 56, 3) := by decide +kernel
theorem dL_law_469 : decode cL_law 469 = .ok (.if_icmp .eq 769, 3) := by decide +kernel
theorem dL_law_472 : decode cL_law 472 = .ok (.iconst 0, 1) := by decide +kernel
theorem dL_law_473 : decode cL_law 473 = .ok (.ireturn, 1) := by decide +kernel
theorem dL_law_474 : decode cL_law 474 = .ok (.aload_n 1, 1) := by decide +kernel
theorem dL_law_475 : decode cL_law 475 = .ok (.aload_n 0, 1) := by decide +kernel
theorem dL_law_476 : decode cL_law 476 = .ok (.iload_n 3, 1) := by decide +kernel
theorem dL_law_477 : decode cL_law 477 = .ok (.iconst 1, 1) := by decide +kernel
theorem dL_law_478 : decode cL_law 478 = .ok (.iadd, 1) := by decide +kernel
theorem dL_law_479 : decode cL_law 479 = .ok (.iaload, 1) := by decide +kernel
theorem dL_law_480 : decode cL_law 480 = .ok (.aload_n 0, 1) := by decide +kernel
theorem dL_law_481 : decode cL_law 481 = .ok (.iload_n 3, 1) := by decide +kernel
theorem dL_law_482 : decode cL_law 482 = .ok (.iconst 2, 1) := by decide +kernel
theorem dL_law_483 : decode cL_law 483 = .ok (.iadd, 1) := by decide +kernel
theorem dL_law_484 : decode cL_law 484 = .ok (.iaload, 1) := by decide +kernel
theorem dL_law_485 : decode cL_law 485 = .ok (.aload_n 0, 1) := by decide +kernel
theorem dL_law_486 : decode cL_law 486 = .ok (.iload_n 3, 1) := by decide +kernel
theorem dL_law_487 : decode cL_law 487 = .ok (.iconst 3, 1) := by decide +kernel
theorem dL_law_488 : decode cL_law 488 = .ok (.iadd, 1) := by decide +kernel
theorem dL_law_489 : decode cL_law 489 = .ok (.iaload, 1) := by decide +kernel
theorem dL_law_490 : decode cL_law 490 = .ok (.invokevirtual 57, 3) := by decide +kernel
theorem dL_law_493 : decode cL_law 493 = .ok (.aload_n 2, 1) := by decide +kernel
theorem dL_law_494 : decode cL_law 494 = .ok (.aload_n 0, 1) := by decide +kernel
theorem dL_law_495 : decode cL_law 495 = .ok (.iload_n 3, 1) := by decide +kernel
theorem dL_law_496 : decode cL_law 496 = .ok (.iconst 1, 1) := by decide +kernel
theorem dL_law_497 : decode cL_law 497 = .ok (.iadd, 1) := by decide +kernel
theorem dL_law_498 : decode cL_law 498 = .ok (.iaload, 1) := by decide +kernel
theorem dL_law_499 : decode cL_law 499 = .ok (.aload_n 0, 1) := by decide +kernel
theorem dL_law_500 : decode cL_law 500 = .ok (.iload_n 3, 1) := by decide +kernel
theorem dL_law_501 : decode cL_law 501 = .ok (.iconst 2, 1) := by decide +kernel
theorem dL_law_502 : decode cL_law 502 = .ok (.iadd, 1) := by decide +kernel
theorem dL_law_503 : decode cL_law 503 = .ok (.iaload, 1) := by decide +kernel
theorem dL_law_504 : decode cL_law 504 = .ok (.aload_n 0, 1) := by decide +kernel
theorem dL_law_505 : decode cL_law 505 = .ok (.iload_n 3, 1) := by decide +kernel
theorem dL_law_506 : decode cL_law 506 = .ok (.iconst 3, 1) := by decide +kernel
theorem dL_law_507 : decode cL_law 507 = .ok (.iadd, 1) := by decide +kernel
theorem dL_law_508 : decode cL_law 508 = .ok (.iaload, 1) := by decide +kernel
theorem dL_law_509 : decode cL_law 509 = .ok (.invokevirtual 60, 3) := by decide +kernel
theorem dL_law_512 : decode cL_law 512 = .ok (.if_icmp .eq 726, 3) := by decide +kernel
theorem dL_law_515 : decode cL_law 515 = .ok (.iconst 0, 1) := by decide +kernel
theorem dL_law_516 : decode cL_law 516 = .ok (.ireturn, 1) := by decide +kernel
theorem dL_law_517 : decode cL_law 517 = .ok (.aload_n 1, 1) := by decide +kernel
theorem dL_law_518 : decode cL_law 518 = .ok (.invokevirtual 61, 3) := by decide +kernel
theorem dL_law_521 : decode cL_law 521 = .ok (.aload_n 2, 1) := by decide +kernel
theorem dL_law_522 : decode cL_law 522 = .ok (.invokevirtual 64, 3) := by decide +kernel
theorem dL_law_525 : decode cL_law 525 = .ok (.if_icmp .eq 713, 3) := by decide +kernel
theorem dL_law_528 : decode cL_law 528 = .ok (.iconst 0, 1) := by decide +kernel
theorem dL_law_529 : decode cL_law 529 = .ok (.ireturn, 1) := by decide +kernel
theorem dL_law_530 : decode cL_law 530 = .ok (.aload_n 1, 1) := by decide +kernel
theorem dL_law_531 : decode cL_law 531 = .ok (.aload_n 0, 1) := by decide +kernel
theorem dL_law_532 : decode cL_law 532 = .ok (.iload_n 3, 1) := by decide +kernel
theorem dL_law_533 : decode cL_law 533 = .ok (.iconst 1, 1) := by decide +kernel
theorem dL_law_534 : decode cL_law 534 = .ok (.iadd, 1) := by decide +kernel
theorem dL_law_535 : decode cL_law 535 = .ok (.iaload, 1) := by decide +kernel
theorem dL_law_536 : decode cL_law 536 = .ok (.aload_n 0, 1) := by decide +kernel
theorem dL_law_537 : decode cL_law 537 = .ok (.iload_n 3, 1) := by decide +kernel
theorem dL_law_538 : decode cL_law 538 = .ok (.iconst 2, 1) := by decide +kernel
theorem dL_law_539 : decode cL_law 539 = .ok (.iadd, 1) := by decide +kernel
theorem dL_law_540 : decode cL_law 540 = .ok (.iaload, 1) := by decide +kernel
theorem dL_law_541 : decode cL_law 541 = .ok (.aload_n 0, 1) := by decide +kernel
theorem dL_law_542 : decode cL_law 542 = .ok (.iload_n 3, 1) := by decide +kernel
theorem dL_law_543 : decode cL_law 543 = .ok (.iconst 3, 1) := by decide +kernel
theorem dL_law_544 : decode cL_law 544 = .ok (.iadd, 1) := by decide +kernel
theorem dL_law_545 : decode cL_law 545 = .ok (.iaload, 1) := by decide +kernel
theorem dL_law_546 : decode cL_law 546 = .ok (.aload_n 0, 1) := by decide +kernel
theorem dL_law_547 : decode cL_law 547 = .ok (.iload_n 3, 1) := by decide +kernel
theorem dL_law_548 : decode cL_law 548 = .ok (.iconst 4, 1) := by decide +kernel
theorem dL_law_549 : decode cL_law 549 = .ok (.iadd, 1) := by decide +kernel
theorem dL_law_550 : decode cL_law 550 = .ok (.iaload, 1) := by decide +kernel
theorem dL_law_551 : decode cL_law 551 = .ok (.invokevirtual 65, 3) := by decide +kernel
theorem dL_law_554 : decode cL_law 554 = .ok (.aload_n 2, 1) := by decide +kernel
theorem dL_law_555 : decode cL_law 555 = .ok (.aload_n 0, 1) := by decide +kernel
theorem dL_law_556 : decode cL_law 556 = .ok (.iload_n 3, 1) := by decide +kernel
theorem dL_law_557 : decode cL_law 557 = .ok (.iconst 1, 1) := by decide +kernel
theorem dL_law_558 : decode cL_law 558 = .ok (.iadd, 1) := by decide +kernel
theorem dL_law_559 : decode cL_law 559 = .ok (.iaload, 1) := by decide +kernel
theorem dL_law_560 : decode cL_law 560 = .ok (.aload_n 0, 1) := by decide +kernel
theorem dL_law_561 : decode cL_law 561 = .ok (.iload_n 3, 1) := by decide +kernel
theorem dL_law_562 : decode cL_law 562 = .ok (.iconst 2, 1) := by decide +kernel
theorem dL_law_563 : decode cL_law 563 = .ok (.iadd, 1) := by decide +kernel
theorem dL_law_564 : decode cL_law 564 = .ok (.iaload, 1) := by decide +kernel
theorem dL_law_565 : decode cL_law 565 = .ok (.aload_n 0, 1) := by decide +kernel
theorem dL_law_566 : decode cL_law 566 = .ok (.iload_n 3, 1) := by decide +kernel
theorem dL_law_567 : decode cL_law 567 = .ok (.iconst 3, 1) := by decide +kernel
theorem dL_law_568 : decode cL_law 568 = .ok (.iadd, 1) := by decide +kernel
theorem dL_law_569 : decode cL_law 569 = .ok (.iaload, 1) := by decide +kernel
theorem dL_law_570 : decode cL_law 570 = .ok (.aload_n 0, 1) := by decide +kernel
theorem dL_law_571 : decode cL_law 571 = .ok (.iload_n 3, 1) := by decide +kernel
theorem dL_law_572 : decode cL_law 572 = .ok (.iconst 4, 1) := by decide +kernel
theorem dL_law_573 : decode cL_law 573 = .ok (.iadd, 1) := by decide +kernel
theorem dL_law_574 : decode cL_law 574 = .ok (.iaload, 1) := by decide +kernel
theorem dL_law_575 : decode cL_law 575 = .ok (.invokevirtual 69, 3) := by decide +kernel
theorem dL_law_578 : decode cL_law 578 = .ok (.if_icmp .eq 660, 3) := by decide +kernel
theorem dL_law_581 : decode cL_law 581 = .ok (.iconst 0, 1) := by decide +kernel
theorem dL_law_582 : decode cL_law 582 = .ok (.ireturn, 1) := by decide +kernel
theorem dL_law_583 : decode cL_law 583 = .ok (.aload_n 1, 1) := by decide +kernel
theorem dL_law_584 : decode cL_law 584 = .ok (.aload_n 0, 1) := by decide +kernel
theorem dL_law_585 : decode cL_law 585 = .ok (.iload_n 3, 1) := by decide +kernel
theorem dL_law_586 : decode cL_law 586 = .ok (.iconst 1, 1) := by decide +kernel
theorem dL_law_587 : decode cL_law 587 = .ok (.iadd, 1) := by decide +kernel
theorem dL_law_588 : decode cL_law 588 = .ok (.iaload, 1) := by decide +kernel
theorem dL_law_589 : decode cL_law 589 = .ok (.aload_n 0, 1) := by decide +kernel
theorem dL_law_590 : decode cL_law 590 = .ok (.iload_n 3, 1) := by decide +kernel
theorem dL_law_591 : decode cL_law 591 = .ok (.iconst 2, 1) := by decide +kernel
theorem dL_law_592 : decode cL_law 592 = .ok (.iadd, 1) := by decide +kernel
theorem dL_law_593 : decode cL_law 593 = .ok (.iaload, 1) := by decide +kernel
theorem dL_law_594 : decode cL_law 594 = .ok (.aload_n 0, 1) := by decide +kernel
theorem dL_law_595 : decode cL_law 595 = .ok (.iload_n 3, 1) := by decide +kernel
theorem dL_law_596 : decode cL_law 596 = .ok (.iconst 3, 1) := by decide +kernel
theorem dL_law_597 : decode cL_law 597 = .ok (.iadd, 1) := by decide +kernel
theorem dL_law_598 : decode cL_law 598 = .ok (.iaload, 1) := by decide +kernel
theorem dL_law_599 : decode cL_law 599 = .ok (.ifCond .eq 7, 3) := by decide +kernel
theorem dL_law_602 : decode cL_law 602 = .ok (.iconst 1, 1) := by decide +kernel
theorem dL_law_603 : decode cL_law 603 = .ok (.goto 4, 3) := by decide +kernel
theorem dL_law_606 : decode cL_law 606 = .ok (.iconst 0, 1) := by decide +kernel
theorem dL_law_607 : decode cL_law 607 = .ok (.invokevirtual 70, 3) := by decide +kernel
theorem dL_law_610 : decode cL_law 610 = .ok (.aload_n 2, 1) := by decide +kernel
theorem dL_law_611 : decode cL_law 611 = .ok (.aload_n 0, 1) := by decide +kernel
theorem dL_law_612 : decode cL_law 612 = .ok (.iload_n 3, 1) := by decide +kernel
theorem dL_law_613 : decode cL_law 613 = .ok (.iconst 1, 1) := by decide +kernel
theorem dL_law_614 : decode cL_law 614 = .ok (.iadd, 1) := by decide +kernel
theorem dL_law_615 : decode cL_law 615 = .ok (.iaload, 1) := by decide +kernel
theorem dL_law_616 : decode cL_law 616 = .ok (.aload_n 0, 1) := by decide +kernel
theorem dL_law_617 : decode cL_law 617 = .ok (.iload_n 3, 1) := by decide +kernel
theorem dL_law_618 : decode cL_law 618 = .ok (.iconst 2, 1) := by decide +kernel
theorem dL_law_619 : decode cL_law 619 = .ok (.iadd, 1) := by decide +kernel
theorem dL_law_620 : decode cL_law 620 = .ok (.iaload, 1) := by decide +kernel
theorem dL_law_621 : decode cL_law 621 = .ok (.aload_n 0, 1) := by decide +kernel
theorem dL_law_622 : decode cL_law 622 = .ok (.iload_n 3, 1) := by decide +kernel
theorem dL_law_623 : decode cL_law 623 = .ok (.iconst 3, 1) := by decide +kernel
theorem dL_law_624 : decode cL_law 624 = .ok (.iadd, 1) := by decide +kernel
theorem dL_law_625 : decode cL_law 625 = .ok (.iaload, 1) := by decide +kernel
theorem dL_law_626 : decode cL_law 626 = .ok (.ifCond .eq 7, 3) := by decide +kernel
theorem dL_law_629 : decode cL_law 629 = .ok (.iconst 1, 1) := by decide +kernel
theorem dL_law_630 : decode cL_law 630 = .ok (.goto 4, 3) := by decide +kernel
theorem dL_law_633 : decode cL_law 633 = .ok (.iconst 0, 1) := by decide +kernel
theorem dL_law_634 : decode cL_law 634 = .ok (.invokevirtual 74, 3) := by decide +kernel
theorem dL_law_637 : decode cL_law 637 = .ok (.if_icmp .eq 601, 3) := by decide +kernel
theorem dL_law_640 : decode cL_law 640 = .ok (.iconst 0, 1) := by decide +kernel
theorem dL_law_641 : decode cL_law 641 = .ok (.ireturn, 1) := by decide +kernel
theorem dL_law_642 : decode cL_law 642 = .ok (.aload_n 1, 1) := by decide +kernel
theorem dL_law_643 : decode cL_law 643 = .ok (.aload_n 0, 1) := by decide +kernel
theorem dL_law_644 : decode cL_law 644 = .ok (.iload_n 3, 1) := by decide +kernel
theorem dL_law_645 : decode cL_law 645 = .ok (.iconst 1, 1) := by decide +kernel
theorem dL_law_646 : decode cL_law 646 = .ok (.iadd, 1) := by decide +kernel
theorem dL_law_647 : decode cL_law 647 = .ok (.iaload, 1) := by decide +kernel
theorem dL_law_648 : decode cL_law 648 = .ok (.aload_n 0, 1) := by decide +kernel
theorem dL_law_649 : decode cL_law 649 = .ok (.iload_n 3, 1) := by decide +kernel
theorem dL_law_650 : decode cL_law 650 = .ok (.iconst 2, 1) := by decide +kernel
theorem dL_law_651 : decode cL_law 651 = .ok (.iadd, 1) := by decide +kernel
theorem dL_law_652 : decode cL_law 652 = .ok (.iaload, 1) := by decide +kernel
theorem dL_law_653 : decode cL_law 653 = .ok (.aload_n 0, 1) := by decide +kernel
theorem dL_law_654 : decode cL_law 654 = .ok (.iload_n 3, 1) := by decide +kernel
theorem dL_law_655 : decode cL_law 655 = .ok (.iconst 3, 1) := by decide +kernel
theorem dL_law_656 : decode cL_law 656 = .ok (.iadd, 1) := by decide +kernel
theorem dL_law_657 : decode cL_law 657 = .ok (.iaload, 1) := by decide +kernel
theorem dL_law_658 : decode cL_law 658 = .ok (.invokevirtual 75, 3) := by decide +kernel
theorem dL_law_661 : decode cL_law 661 = .ok (.aload_n 2, 1) := by decide +kernel
theorem dL_law_662 : decode cL_law 662 = .ok (.aload_n 0, 1) := by decide +kernel
theorem dL_law_663 : decode cL_law 663 = .ok (.iload_n 3, 1) := by decide +kernel
theorem dL_law_664 : decode cL_law 664 = .ok (.iconst 1, 1) := by decide +kernel
theorem dL_law_665 : decode cL_law 665 = .ok (.iadd, 1) := by decide +kernel
theorem dL_law_666 : decode cL_law 666 = .ok (.iaload, 1) := by decide +kernel
theorem dL_law_667 : decode cL_law 667 = .ok (.aload_n 0, 1) := by decide +kernel
theorem dL_law_668 : decode cL_law 668 = .ok (.iload_n 3, 1) := by decide +kernel
theorem dL_law_669 : decode cL_law 669 = .ok (.iconst 2, 1) := by decide +kernel
theorem dL_law_670 : decode cL_law 670 = .ok (.iadd, 1) := by decide +kernel
theorem dL_law_671 : decode cL_law 671 = .ok (.iaload, 1) := by decide +kernel
theorem dL_law_672 : decode cL_law 672 = .ok (.aload_n 0, 1) := by decide +kernel
theorem dL_law_673 : decode cL_law 673 = .ok (.iload_n 3, 1) := by decide +kernel
theorem dL_law_674 : decode cL_law 674 = .ok (.iconst 3, 1) := by decide +kernel
theorem dL_law_675 : decode cL_law 675 = .ok (.iadd, 1) := by decide +kernel
theorem dL_law_676 : decode cL_law 676 = .ok (.iaload, 1) := by decide +kernel
theorem dL_law_677 : decode cL_law 677 = .ok (.invokevirtual 78, 3) := by decide +kernel
theorem dL_law_680 : decode cL_law 680 = .ok (.if_icmp .eq 558, 3) := by decide +kernel
theorem dL_law_683 : decode cL_law 683 = .ok (.iconst 0, 1) := by decide +kernel
theorem dL_law_684 : decode cL_law 684 = .ok (.ireturn, 1) := by decide +kernel
theorem dL_law_685 : decode cL_law 685 = .ok (.aload_n 1, 1) := by decide +kernel
theorem dL_law_686 : decode cL_law 686 = .ok (.aload_n 0, 1) := by decide +kernel
theorem dL_law_687 : decode cL_law 687 = .ok (.iload_n 3, 1) := by decide +kernel
theorem dL_law_688 : decode cL_law 688 = .ok (.iconst 1, 1) := by decide +kernel
theorem dL_law_689 : decode cL_law 689 = .ok (.iadd, 1) := by decide +kernel
theorem dL_law_690 : decode cL_law 690 = .ok (.iaload, 1) := by decide +kernel
theorem dL_law_691 : decode cL_law 691 = .ok (.aload_n 0, 1) := by decide +kernel
theorem dL_law_692 : decode cL_law 692 = .ok (.iload_n 3, 1) := by decide +kernel
theorem dL_law_693 : decode cL_law 693 = .ok (.iconst 2, 1) := by decide +kernel
theorem dL_law_694 : decode cL_law 694 = .ok (.iadd, 1) := by decide +kernel
theorem dL_law_695 : decode cL_law 695 = .ok (.iaload, 1) := by decide +kernel
theorem dL_law_696 : decode cL_law 696 = .ok (.invokevirtual 79, 3) := by decide +kernel
theorem dL_law_699 : decode cL_law 699 = .ok (.aload_n 2, 1) := by decide +kernel
theorem dL_law_700 : decode cL_law 700 = .ok (.aload_n 0, 1) := by decide +kernel
theorem dL_law_701 : decode cL_law 701 = .ok (.iload_n 3, 1) := by decide +kernel
theorem dL_law_702 : decode cL_law 702 = .ok (.iconst 1, 1) := by decide +kernel
theorem dL_law_703 : decode cL_law 703 = .ok (.iadd, 1) := by decide +kernel
theorem dL_law_704 : decode cL_law 704 = .ok (.iaload, 1) := by decide +kernel
theorem dL_law_705 : decode cL_law 705 = .ok (.aload_n 0, 1) := by decide +kernel
theorem dL_law_706 : decode cL_law 706 = .ok (.iload_n 3, 1) := by decide +kernel
theorem dL_law_707 : decode cL_law 707 = .ok (.iconst 2, 1) := by decide +kernel
theorem dL_law_708 : decode cL_law 708 = .ok (.iadd, 1) := by decide +kernel
theorem dL_law_709 : decode cL_law 709 = .ok (.iaload, 1) := by decide +kernel
theorem dL_law_710 : decode cL_law 710 = .ok (.invokevirtual 82, 3) := by decide +kernel
theorem dL_law_713 : decode cL_law 713 = .ok (.if_icmp .eq 525, 3) := by decide +kernel
theorem dL_law_716 : decode cL_law 716 = .ok (.iconst 0, 1) := by decide +kernel
theorem dL_law_717 : decode cL_law 717 = .ok (.ireturn, 1) := by decide +kernel
theorem dL_law_718 : decode cL_law 718 = .ok (.aload_n 1, 1) := by decide +kernel
theorem dL_law_719 : decode cL_law 719 = .ok (.aload_n 0, 1) := by decide +kernel
theorem dL_law_720 : decode cL_law 720 = .ok (.iload_n 3, 1) := by decide +kernel
theorem dL_law_721 : decode cL_law 721 = .ok (.iconst 1, 1) := by decide +kernel
theorem dL_law_722 : decode cL_law 722 = .ok (.iadd, 1) := by decide +kernel
theorem dL_law_723 : decode cL_law 723 = .ok (.iaload, 1) := by decide +kernel
theorem dL_law_724 : decode cL_law 724 = .ok (.aload_n 0, 1) := by decide +kernel
theorem dL_law_725 : decode cL_law 725 = .ok (.iload_n 3, 1) := by decide +kernel
theorem dL_law_726 : decode cL_law 726 = .ok (.iconst 2, 1) := by decide +kernel
theorem dL_law_727 : decode cL_law 727 = .ok (.iadd, 1) := by decide +kernel
theorem dL_law_728 : decode cL_law 728 = .ok (.iaload, 1) := by decide +kernel
theorem dL_law_729 : decode cL_law 729 = .ok (.invokevirtual 83, 3) := by decide +kernel
theorem dL_law_732 : decode cL_law 732 = .ok (.aload_n 2, 1) := by decide +kernel
theorem dL_law_733 : decode cL_law 733 = .ok (.aload_n 0, 1) := by decide +kernel
theorem dL_law_734 : decode cL_law 734 = .ok (.iload_n 3, 1) := by decide +kernel
theorem dL_law_735 : decode cL_law 735 = .ok (.iconst 1, 1) := by decide +kernel
theorem dL_law_736 : decode cL_law 736 = .ok (.iadd, 1) := by decide +kernel
theorem dL_law_737 : decode cL_law 737 = .ok (.iaload, 1) := by decide +kernel
theorem dL_law_738 : decode cL_law 738 = .ok (.aload_n 0, 1) := by decide +kernel
theorem dL_law_739 : decode cL_law 739 = .ok (.iload_n 3, 1) := by decide +kernel
theorem dL_law_740 : decode cL_law 740 = .ok (.iconst 2, 1) := by decide +kernel
theorem dL_law_741 : decode cL_law 741 = .ok (.iadd, 1) := by decide +kernel
theorem dL_law_742 : decode cL_law 742 = .ok (.iaload, 1) := by decide +kernel
theorem dL_law_743 : decode cL_law 743 = .ok (.invokevirtual 86, 3) := by decide +kernel
theorem dL_law_746 : decode cL_law 746 = .ok (.if_icmp .eq 492, 3) := by decide +kernel
theorem dL_law_749 : decode cL_law 749 = .ok (.iconst 0, 1) := by decide +kernel
theorem dL_law_750 : decode cL_law 750 = .ok (.ireturn, 1) := by decide +kernel
theorem dL_law_751 : decode cL_law 751 = .ok (.aload_n 1, 1) := by decide +kernel
theorem dL_law_752 : decode cL_law 752 = .ok (.aload_n 0, 1) := by decide +kernel
theorem dL_law_753 : decode cL_law 753 = .ok (.iload_n 3, 1) := by decide +kernel
theorem dL_law_754 : decode cL_law 754 = .ok (.iconst 1, 1) := by decide +kernel
theorem dL_law_755 : decode cL_law 755 = .ok (.iadd, 1) := by decide +kernel
theorem dL_law_756 : decode cL_law 756 = .ok (.iaload, 1) := by decide +kernel
theorem dL_law_757 : decode cL_law 757 = .ok (.aload_n 0, 1) := by decide +kernel
theorem dL_law_758 : decode cL_law 758 = .ok (.iload_n 3, 1) := by decide +kernel
theorem dL_law_759 : decode cL_law 759 = .ok (.iconst 2, 1) := by decide +kernel
theorem dL_law_760 : decode cL_law 760 = .ok (.iadd, 1) := by decide +kernel
theorem dL_law_761 : decode cL_law 761 = .ok (.iaload, 1) := by decide +kernel
theorem dL_law_762 : decode cL_law 762 = .ok (.invokevirtual 87, 3) := by decide +kernel
theorem dL_law_765 : decode cL_law 765 = .ok (.aload_n 2, 1) := by decide +kernel
theorem dL_law_766 : decode cL_law 766 = .ok (.aload_n 0, 1) := by decide +kernel
theorem dL_law_767 : decode cL_law 767 = .ok (.iload_n 3, 1) := by decide +kernel
theorem dL_law_768 : decode cL_law 768 = .ok (.iconst 1, 1) := by decide +kernel
theorem dL_law_769 : decode cL_law 769 = .ok (.iadd, 1) := by decide +kernel
theorem dL_law_770 : decode cL_law 770 = .ok (.iaload, 1) := by decide +kernel
theorem dL_law_771 : decode cL_law 771 = .ok (.aload_n 0, 1) := by decide +kernel
theorem dL_law_772 : decode cL_law 772 = .ok (.iload_n 3, 1) := by decide +kernel
theorem dL_law_773 : decode cL_law 773 = .ok (.iconst 2, 1) := by decide +kernel
theorem dL_law_774 : decode cL_law 774 = .ok (.iadd, 1) := by decide +kernel
theorem dL_law_775 : decode cL_law 775 = .ok (.iaload, 1) := by decide +kernel
theorem dL_law_776 : decode cL_law 776 = .ok (.invokevirtual 90, 3) := by decide +kernel
theorem dL_law_779 : decode cL_law 779 = .ok (.if_icmp .eq 459, 3) := by decide +kernel
theorem dL_law_782 : decode cL_law 782 = .ok (.iconst 0, 1) := by decide +kernel
theorem dL_law_783 : decode cL_law 783 = .ok (.ireturn, 1) := by decide +kernel
theorem dL_law_784 : decode cL_law 784 = .ok (.aload_n 1, 1) := by decide +kernel
theorem dL_law_785 : decode cL_law 785 = .ok (.aload_n 0, 1) := by decide +kernel
theorem dL_law_786 : decode cL_law 786 = .ok (.iload_n 3, 1) := by decide +kernel
theorem dL_law_787 : decode cL_law 787 = .ok (.iconst 1, 1) := by decide +kernel
theorem dL_law_788 : decode cL_law 788 = .ok (.iadd, 1) := by decide +kernel
theorem dL_law_789 : decode cL_law 789 = .ok (.iaload, 1) := by decide +kernel
theorem dL_law_790 : decode cL_law 790 = .ok (.aload_n 0, 1) := by decide +kernel
theorem dL_law_791 : decode cL_law 791 = .ok (.iload_n 3, 1) := by decide +kernel
theorem dL_law_792 : decode cL_law 792 = .ok (.iconst 2, 1) := by decide +kernel
theorem dL_law_793 : decode cL_law 793 = .ok (.iadd, 1) := by decide +kernel
theorem dL_law_794 : decode cL_law 794 = .ok (.iaload, 1) := by decide +kernel
theorem dL_law_795 : decode cL_law 795 = .ok (.invokevirtual 91, 3) := by decide +kernel
theorem dL_law_798 : decode cL_law 798 = .ok (.aload_n 2, 1) := by decide +kernel
theorem dL_law_799 : decode cL_law 799 = .ok (.aload_n 0, 1) := by decide +kernel
theorem dL_law_800 : decode cL_law 800 = .ok (.iload_n 3, 1) := by decide +kernel
theorem dL_law_801 : decode cL_law 801 = .ok (.iconst 1, 1) := by decide +kernel
theorem dL_law_802 : decode cL_law 802 = .ok (.iadd, 1) := by decide +kernel
theorem dL_law_803 : decode cL_law 803 = .ok (.iaload, 1) := by decide +kernel
theorem dL_law_804 : decode cL_law 804 = .ok (.aload_n 0, 1) := by decide +kernel
theorem dL_law_805 : decode cL_law 805 = .ok (.iload_n 3, 1) := by decide +kernel
theorem dL_law_806 : decode cL_law 806 = .ok (.iconst 2, 1) := by decide +kernel
theorem dL_law_807 : decode cL_law 807 = .ok (.iadd, 1) := by decide +kernel
theorem dL_law_808 : decode cL_law 808 = .ok (.iaload, 1) := by decide +kernel
theorem dL_law_809 : decode cL_law 809 = .ok (.invokevirtual 94, 3) := by decide +kernel
theorem dL_law_812 : decode cL_law 812 = .ok (.if_icmp .eq 426, 3) := by decide +kernel
theorem dL_law_815 : decode cL_law 815 = .ok (.iconst 0, 1) := by decide +kernel
theorem dL_law_816 : decode cL_law 816 = .ok (.ireturn, 1) := by decide +kernel
theorem dL_law_817 : decode cL_law 817 = .ok (.aload_n 1, 1) := by decide +kernel
theorem dL_law_818 : decode cL_law 818 = .ok (.aload_n 0, 1) := by decide +kernel
theorem dL_law_819 : decode cL_law 819 = .ok (.iload_n 3, 1) := by decide +kernel
theorem dL_law_820 : decode cL_law 820 = .ok (.iconst 1, 1) := by decide +kernel
theorem dL_law_821 : decode cL_law 821 = .ok (.iadd, 1) := by decide +kernel
theorem dL_law_822 : decode cL_law 822 = .ok (.iaload, 1) := by decide +kernel
theorem dL_law_823 : decode cL_law 823 = .ok (.aload_n 0, 1) := by decide +kernel
theorem dL_law_824 : decode cL_law 824 = .ok (.iload_n 3, 1) := by decide +kernel
theorem dL_law_825 : decode cL_law 825 = .ok (.iconst 2, 1) := by decide +kernel
theorem dL_law_826 : decode cL_law 826 = .ok (.iadd, 1) := by decide +kernel
theorem dL_law_827 : decode cL_law 827 = .ok (.iaload, 1) := by decide +kernel
theorem dL_law_828 : decode cL_law 828 = .ok (.invokevirtual 95, 3) := by decide +kernel
theorem dL_law_831 : decode cL_law 831 = .ok (.aload_n 2, 1) := by decide +kernel
theorem dL_law_832 : decode cL_law 832 = .ok (.aload_n 0, 1) := by decide +kernel
theorem dL_law_833 : decode cL_law 833 = .ok (.iload_n 3, 1) := by decide +kernel
theorem dL_law_834 : decode cL_law 834 = .ok (.iconst 1, 1) := by decide +kernel
theorem dL_law_835 : decode cL_law 835 = .ok (.iadd, 1) := by decide +kernel
theorem dL_law_836 : decode cL_law 836 = .ok (.iaload, 1) := by decide +kernel
theorem dL_law_837 : decode cL_law 837 = .ok (.aload_n 0, 1) := by decide +kernel
theorem dL_law_838 : decode cL_law 838 = .ok (.iload_n 3, 1) := by decide +kernel
theorem dL_law_839 : decode cL_law 839 = .ok (.iconst 2, 1) := by decide +kernel
theorem dL_law_840 : decode cL_law 840 = .ok (.iadd, 1) := by decide +kernel
theorem dL_law_841 : decode cL_law 841 = .ok (.iaload, 1) := by decide +kernel
theorem dL_law_842 : decode cL_law 842 = .ok (.invokevirtual 98, 3) := by decide +kernel
theorem dL_law_845 : decode cL_law 845 = .ok (.if_icmp .eq 393, 3) := by decide +kernel
theorem dL_law_848 : decode cL_law 848 = .ok (.iconst 0, 1) := by decide +kernel
theorem dL_law_849 : decode cL_law 849 = .ok (.ireturn, 1) := by decide +kernel
theorem dL_law_850 : decode cL_law 850 = .ok (.aload_n 1, 1) := by decide +kernel
theorem dL_law_851 : decode cL_law 851 = .ok (.aload_n 0, 1) := by decide +kernel
theorem dL_law_852 : decode cL_law 852 = .ok (.iload_n 3, 1) := by decide +kernel
theorem dL_law_853 : decode cL_law 853 = .ok (.iconst 1, 1) := by decide +kernel
theorem dL_law_854 : decode cL_law 854 = .ok (.iadd, 1) := by decide +kernel
theorem dL_law_855 : decode cL_law 855 = .ok (.iaload, 1) := by decide +kernel
theorem dL_law_856 : decode cL_law 856 = .ok (.aload_n 0, 1) := by decide +kernel
theorem dL_law_857 : decode cL_law 857 = .ok (.iload_n 3, 1) := by decide +kernel
theorem dL_law_858 : decode cL_law 858 = .ok (.iconst 2, 1) := by decide +kernel
theorem dL_law_859 : decode cL_law 859 = .ok (.iadd, 1) := by decide +kernel
theorem dL_law_860 : decode cL_law 860 = .ok (.iaload, 1) := by decide +kernel
theorem dL_law_861 : decode cL_law 861 = .ok (.aload_n 0, 1) := by decide +kernel
theorem dL_law_862 : decode cL_law 862 = .ok (.iload_n 3, 1) := by decide +kernel
theorem dL_law_863 : decode cL_law 863 = .ok (.iconst 3, 1) := by decide +kernel
theorem dL_law_864 : decode cL_law 864 = .ok (.iadd, 1) := by decide +kernel
theorem dL_law_865 : decode cL_law 865 = .ok (.iaload, 1) := by decide +kernel
theorem dL_law_866 : decode cL_law 866 = .ok (.aload_n 0, 1) := by decide +kernel
theorem dL_law_867 : decode cL_law 867 = .ok (.iload_n 3, 1) := by decide +kernel
theorem dL_law_868 : decode cL_law 868 = .ok (.iconst 4, 1) := by decide +kernel
theorem dL_law_869 : decode cL_law 869 = .ok (.iadd, 1) := by decide +kernel
theorem dL_law_870 : decode cL_law 870 = .ok (.iaload, 1) := by decide +kernel
theorem dL_law_871 : decode cL_law 871 = .ok (.invokevirtual 99, 3) := by decide +kernel
theorem dL_law_874 : decode cL_law 874 = .ok (.aload_n 2, 1) := by decide +kernel
theorem dL_law_875 : decode cL_law 875 = .ok (.aload_n 0, 1) := by decide +kernel
theorem dL_law_876 : decode cL_law 876 = .ok (.iload_n 3, 1) := by decide +kernel
theorem dL_law_877 : decode cL_law 877 = .ok (.iconst 1, 1) := by decide +kernel
theorem dL_law_878 : decode cL_law 878 = .ok (.iadd, 1) := by decide +kernel
theorem dL_law_879 : decode cL_law 879 = .ok (.iaload, 1) := by decide +kernel
theorem dL_law_880 : decode cL_law 880 = .ok (.aload_n 0, 1) := by decide +kernel
theorem dL_law_881 : decode cL_law 881 = .ok (.iload_n 3, 1) := by decide +kernel
theorem dL_law_882 : decode cL_law 882 = .ok (.iconst 2, 1) := by decide +kernel
theorem dL_law_883 : decode cL_law 883 = .ok (.iadd, 1) := by decide +kernel
theorem dL_law_884 : decode cL_law 884 = .ok (.iaload, 1) := by decide +kernel
theorem dL_law_885 : decode cL_law 885 = .ok (.aload_n 0, 1) := by decide +kernel
theorem dL_law_886 : decode cL_law 886 = .ok (.iload_n 3, 1) := by decide +kernel
theorem dL_law_887 : decode cL_law 887 = .ok (.iconst 3, 1) := by decide +kernel
theorem dL_law_888 : decode cL_law 888 = .ok (.iadd, 1) := by decide +kernel
theorem dL_law_889 : decode cL_law 889 = .ok (.iaload, 1) := by decide +kernel
theorem dL_law_890 : decode cL_law 890 = .ok (.aload_n 0, 1) := by decide +kernel
theorem dL_law_891 : decode cL_law 891 = .ok (.iload_n 3, 1) := by decide +kernel
theorem dL_law_892 : decode cL_law 892 = .ok (.iconst 4, 1) := by decide +kernel
theorem dL_law_893 : decode cL_law 893 = .ok (.iadd, 1) := by decide +kernel
theorem dL_law_894 : decode cL_law 894 = .ok (.iaload, 1) := by decide +kernel
theorem dL_law_895 : decode cL_law 895 = .ok (.invokevirtual 102, 3) := by decide +kernel
theorem dL_law_898 : decode cL_law 898 = .ok (.if_icmp .eq 340, 3) := by decide +kernel
theorem dL_law_901 : decode cL_law 901 = .ok (.iconst 0, 1) := by decide +kernel
theorem dL_law_902 : decode cL_law 902 = .ok (.ireturn, 1) := by decide +kernel
theorem dL_law_903 : decode cL_law 903 = .ok (.aload_n 1, 1) := by decide +kernel
theorem dL_law_904 : decode cL_law 904 = .ok (.aload_n 0, 1) := by decide +kernel
theorem dL_law_905 : decode cL_law 905 = .ok (.iload_n 3, 1) := by decide +kernel
theorem dL_law_906 : decode cL_law 906 = .ok (.iconst 1, 1) := by decide +kernel
theorem dL_law_907 : decode cL_law 907 = .ok (.iadd, 1) := by decide +kernel
theorem dL_law_908 : decode cL_law 908 = .ok (.iaload, 1) := by decide +kernel
theorem dL_law_909 : decode cL_law 909 = .ok (.invokevirtual 103, 3) := by decide +kernel
theorem dL_law_912 : decode cL_law 912 = .ok (.aload_n 2, 1) := by decide +kernel
theorem dL_law_913 : decode cL_law 913 = .ok (.aload_n 0, 1) := by decide +kernel
theorem dL_law_914 : decode cL_law 914 = .ok (.iload_n 3, 1) := by decide +kernel
theorem dL_law_915 : decode cL_law 915 = .ok (.iconst 1, 1) := by decide +kernel
theorem dL_law_916 : decode cL_law 916 = .ok (.iadd, 1) := by decide +kernel
theorem dL_law_917 : decode cL_law 917 = .ok (.iaload, 1) := by decide +kernel
theorem dL_law_918 : decode cL_law 918 = .ok (.invokevirtual 106, 3) := by decide +kernel
theorem dL_law_921 : decode cL_law 921 = .ok (.if_icmp .eq 317, 3) := by decide +kernel
theorem dL_law_924 : decode cL_law 924 = .ok (.iconst 0, 1) := by decide +kernel
theorem dL_law_925 : decode cL_law 925 = .ok (.ireturn, 1) := by decide +kernel
theorem dL_law_926 : decode cL_law 926 = .ok (.aload_n 1, 1) := by decide +kernel
theorem dL_law_927 : decode cL_law 927 = .ok (.aload_n 0, 1) := by decide +kernel
theorem dL_law_928 : decode cL_law 928 = .ok (.iload_n 3, 1) := by decide +kernel
theorem dL_law_929 : decode cL_law 929 = .ok (.iconst 1, 1) := by decide +kernel
theorem dL_law_930 : decode cL_law 930 = .ok (.iadd, 1) := by decide +kernel
theorem dL_law_931 : decode cL_law 931 = .ok (.iaload, 1) := by decide +kernel
theorem dL_law_932 : decode cL_law 932 = .ok (.aload_n 0, 1) := by decide +kernel
theorem dL_law_933 : decode cL_law 933 = .ok (.iload_n 3, 1) := by decide +kernel
theorem dL_law_934 : decode cL_law 934 = .ok (.iconst 2, 1) := by decide +kernel
theorem dL_law_935 : decode cL_law 935 = .ok (.iadd, 1) := by decide +kernel
theorem dL_law_936 : decode cL_law 936 = .ok (.iaload, 1) := by decide +kernel
theorem dL_law_937 : decode cL_law 937 = .ok (.invokevirtual 107, 3) := by decide +kernel
theorem dL_law_940 : decode cL_law 940 = .ok (.aload_n 2, 1) := by decide +kernel
theorem dL_law_941 : decode cL_law 941 = .ok (.aload_n 0, 1) := by decide +kernel
theorem dL_law_942 : decode cL_law 942 = .ok (.iload_n 3, 1) := by decide +kernel
theorem dL_law_943 : decode cL_law 943 = .ok (.iconst 1, 1) := by decide +kernel
theorem dL_law_944 : decode cL_law 944 = .ok (.iadd, 1) := by decide +kernel
theorem dL_law_945 : decode cL_law 945 = .ok (.iaload, 1) := by decide +kernel
theorem dL_law_946 : decode cL_law 946 = .ok (.aload_n 0, 1) := by decide +kernel
theorem dL_law_947 : decode cL_law 947 = .ok (.iload_n 3, 1) := by decide +kernel
theorem dL_law_948 : decode cL_law 948 = .ok (.iconst 2, 1) := by decide +kernel
theorem dL_law_949 : decode cL_law 949 = .ok (.iadd, 1) := by decide +kernel
theorem dL_law_950 : decode cL_law 950 = .ok (.iaload, 1) := by decide +kernel
theorem dL_law_951 : decode cL_law 951 = .ok (.invokevirtual 110, 3) := by decide +kernel
theorem dL_law_954 : decode cL_law 954 = .ok (.if_icmp .eq 284, 3) := by decide +kernel
theorem dL_law_957 : decode cL_law 957 = .ok (.iconst 0, 1) := by decide +kernel
theorem dL_law_958 : decode cL_law 958 = .ok (.ireturn, 1) := by decide +kernel
theorem dL_law_959 : decode cL_law 959 = .ok (.aload_n 1, 1) := by decide +kernel
theorem dL_law_960 : decode cL_law 960 = .ok (.aload_n 0, 1) := by decide +kernel
theorem dL_law_961 : decode cL_law 961 = .ok (.iload_n 3, 1) := by decide +kernel
theorem dL_law_962 : decode cL_law 962 = .ok (.iconst 1, 1) := by decide +kernel
theorem dL_law_963 : decode cL_law 963 = .ok (.iadd, 1) := by decide +kernel
theorem dL_law_964 : decode cL_law 964 = .ok (.iaload, 1) := by decide +kernel
theorem dL_law_965 : decode cL_law 965 = .ok (.aload_n 0, 1) := by decide +kernel
theorem dL_law_966 : decode cL_law 966 = .ok (.iload_n 3, 1) := by decide +kernel
theorem dL_law_967 : decode cL_law 967 = .ok (.iconst 2, 1) := by decide +kernel
theorem dL_law_968 : decode cL_law 968 = .ok (.iadd, 1) := by decide +kernel
theorem dL_law_969 : decode cL_law 969 = .ok (.iaload, 1) := by decide +kernel
theorem dL_law_970 : decode cL_law 970 = .ok (.invokevirtual 111, 3) := by decide +kernel
theorem dL_law_973 : decode cL_law 973 = .ok (.aload_n 2, 1) := by decide +kernel
theorem dL_law_974 : decode cL_law 974 = .ok (.aload_n 0, 1) := by decide +kernel
theorem dL_law_975 : decode cL_law 975 = .ok (.iload_n 3, 1) := by decide +kernel
theorem dL_law_976 : decode cL_law 976 = .ok (.iconst 1, 1) := by decide +kernel
theorem dL_law_977 : decode cL_law 977 = .ok (.iadd, 1) := by decide +kernel
theorem dL_law_978 : decode cL_law 978 = .ok (.iaload, 1) := by decide +kernel
theorem dL_law_979 : decode cL_law 979 = .ok (.aload_n 0, 1) := by decide +kernel
theorem dL_law_980 : decode cL_law 980 = .ok (.iload_n 3, 1) := by decide +kernel
theorem dL_law_981 : decode cL_law 981 = .ok (.iconst 2, 1) := by decide +kernel
theorem dL_law_982 : decode cL_law 982 = .ok (.iadd, 1) := by decide +kernel
theorem dL_law_983 : decode cL_law 983 = .ok (.iaload, 1) := by decide +kernel
theorem dL_law_984 : decode cL_law 984 = .ok (.invokevirtual 114, 3) := by decide +kernel
theorem dL_law_987 : decode cL_law 987 = .ok (.if_icmp .eq 251, 3) := by decide +kernel
theorem dL_law_990 : decode cL_law 990 = .ok (.iconst 0, 1) := by decide +kernel
theorem dL_law_991 : decode cL_law 991 = .ok (.ireturn, 1) := by decide +kernel
theorem dL_law_992 : decode cL_law 992 = .ok (.aload_n 1, 1) := by decide +kernel
theorem dL_law_993 : decode cL_law 993 = .ok (.aload_n 0, 1) := by decide +kernel
theorem dL_law_994 : decode cL_law 994 = .ok (.iload_n 3, 1) := by decide +kernel
theorem dL_law_995 : decode cL_law 995 = .ok (.iconst 1, 1) := by decide +kernel
theorem dL_law_996 : decode cL_law 996 = .ok (.iadd, 1) := by decide +kernel
theorem dL_law_997 : decode cL_law 997 = .ok (.iaload, 1) := by decide +kernel
theorem dL_law_998 : decode cL_law 998 = .ok (.invokevirtual 115, 3) := by decide +kernel
theorem dL_law_1001 : decode cL_law 1001 = .ok (.aload_n 2, 1) := by decide +kernel
theorem dL_law_1002 : decode cL_law 1002 = .ok (.aload_n 0, 1) := by decide +kernel
theorem dL_law_1003 : decode cL_law 1003 = .ok (.iload_n 3, 1) := by decide +kernel
theorem dL_law_1004 : decode cL_law 1004 = .ok (.iconst 1, 1) := by decide +kernel
theorem dL_law_1005 : decode cL_law 1005 = .ok (.iadd, 1) := by decide +kernel
theorem dL_law_1006 : decode cL_law 1006 = .ok (.iaload, 1) := by decide +kernel
theorem dL_law_1007 : decode cL_law 1007 = .ok (.invokevirtual 118, 3) := by decide +kernel
theorem dL_law_1010 : decode cL_law 1010 = .ok (.if_icmp .eq 228, 3) := by decide +kernel
theorem dL_law_1013 : decode cL_law 1013 = .ok (.iconst 0, 1) := by decide +kernel
theorem dL_law_1014 : decode cL_law 1014 = .ok (.ireturn, 1) := by decide +kernel
theorem dL_law_1015 : decode cL_law 1015 = .ok (.aload_n 1, 1) := by decide +kernel
theorem dL_law_1016 : decode cL_law 1016 = .ok (.invokevirtual 119, 3) := by decide +kernel
theorem dL_law_1019 : decode cL_law 1019 = .ok (.aload_n 2, 1) := by decide +kernel
theorem dL_law_1020 : decode cL_law 1020 = .ok (.invokevirtual 122, 3) := by decide +kernel
theorem dL_law_1023 : decode cL_law 1023 = .ok (.if_icmp .eq 215, 3) := by decide +kernel
theorem dL_law_1026 : decode cL_law 1026 = .ok (.iconst 0, 1) := by decide +kernel
theorem dL_law_1027 : decode cL_law 1027 = .ok (.ireturn, 1) := by decide +kernel
theorem dL_law_1028 : decode cL_law 1028 = .ok (.aload_n 1, 1) := by decide +kernel
theorem dL_law_1029 : decode cL_law 1029 = .ok (.aload_n 0, 1) := by decide +kernel
theorem dL_law_1030 : decode cL_law 1030 = .ok (.iload_n 3, 1) := by decide +kernel
theorem dL_law_1031 : decode cL_law 1031 = .ok (.iconst 1, 1) := by decide +kernel
theorem dL_law_1032 : decode cL_law 1032 = .ok (.iadd, 1) := by decide +kernel
theorem dL_law_1033 : decode cL_law 1033 = .ok (.iaload, 1) := by decide +kernel
theorem dL_law_1034 : decode cL_law 1034 = .ok (.invokevirtual 123, 3) := by decide +kernel
theorem dL_law_1037 : decode cL_law 1037 = .ok (.aload_n 2, 1) := by decide +kernel
theorem dL_law_1038 : decode cL_law 1038 = .ok (.aload_n 0, 1) := by decide +kernel
theorem dL_law_1039 : decode cL_law 1039 = .ok (.iload_n 3, 1) := by decide +kernel
theorem dL_law_1040 : decode cL_law 1040 = .ok (.iconst 1, 1) := by decide +kernel
theorem dL_law_1041 : decode cL_law 1041 = .ok (.iadd, 1) := by decide +kernel
theorem dL_law_1042 : decode cL_law 1042 = .ok (.iaload, 1) := by decide +kernel
theorem dL_law_1043 : decode cL_law 1043 = .ok (.invokevirtual 126, 3) := by decide +kernel
theorem dL_law_1046 : decode cL_law 1046 = .ok (.if_icmp .eq 192, 3) := by decide +kernel
theorem dL_law_1049 : decode cL_law 1049 = .ok (.iconst 0, 1) := by decide +kernel
theorem dL_law_1050 : decode cL_law 1050 = .ok (.ireturn, 1) := by decide +kernel
theorem dL_law_1051 : decode cL_law 1051 = .ok (.aload_n 1, 1) := by decide +kernel
theorem dL_law_1052 : decode cL_law 1052 = .ok (.aload_n 0, 1) := by decide +kernel
theorem dL_law_1053 : decode cL_law 1053 = .ok (.iload_n 3, 1) := by decide +kernel
theorem dL_law_1054 : decode cL_law 1054 = .ok (.iconst 1, 1) := by decide +kernel
theorem dL_law_1055 : decode cL_law 1055 = .ok (.iadd, 1) := by decide +kernel
theorem dL_law_1056 : decode cL_law 1056 = .ok (.iaload, 1) := by decide +kernel
theorem dL_law_1057 : decode cL_law 1057 = .ok (.invokevirtual 127, 3) := by decide +kernel
theorem dL_law_1060 : decode cL_law 1060 = .ok (.aload_n 2, 1) := by decide +kernel
theorem dL_law_1061 : decode cL_law 1061 = .ok (.aload_n 0, 1) := by decide +kernel
theorem dL_law_1062 : decode cL_law 1062 = .ok (.iload_n 3, 1) := by decide +kernel
theorem dL_law_1063 : decode cL_law 1063 = .ok (.iconst 1, 1) := by decide +kernel
theorem dL_law_1064 : decode cL_law 1064 = .ok (.iadd, 1) := by decide +kernel
theorem dL_law_1065 : decode cL_law 1065 = .ok (.iaload, 1) := by decide +kernel
theorem dL_law_1066 : decode cL_law 1066 = .ok (.invokevirtual 130, 3) := by decide +kernel
theorem dL_law_1069 : decode cL_law 1069 = .ok (.if_icmp .eq 169, 3) := by decide +kernel
theorem dL_law_1072 : decode cL_law 1072 = .ok (.iconst 0, 1) := by decide +kernel
theorem dL_law_1073 : decode cL_law 1073 = .ok (.ireturn, 1) := by decide +kernel
theorem dL_law_1074 : decode cL_law 1074 = .ok (.aload_n 1, 1) := by decide +kernel
theorem dL_law_1075 : decode cL_law 1075 = .ok (.aload_n 0, 1) := by decide +kernel
theorem dL_law_1076 : decode cL_law 1076 = .ok (.iload_n 3, 1) := by decide +kernel
theorem dL_law_1077 : decode cL_law 1077 = .ok (.iconst 1, 1) := by decide +kernel
theorem dL_law_1078 : decode cL_law 1078 = .ok (.iadd, 1) := by decide +kernel
theorem dL_law_1079 : decode cL_law 1079 = .ok (.iaload, 1) := by decide +kernel
theorem dL_law_1080 : decode cL_law 1080 = .ok (.aload_n 0, 1) := by decide +kernel
theorem dL_law_1081 : decode cL_law 1081 = .ok (.iload_n 3, 1) := by decide +kernel
theorem dL_law_1082 : decode cL_law 1082 = .ok (.iconst 2, 1) := by decide +kernel
theorem dL_law_1083 : decode cL_law 1083 = .ok (.iadd, 1) := by decide +kernel
theorem dL_law_1084 : decode cL_law 1084 = .ok (.iaload, 1) := by decide +kernel
theorem dL_law_1085 : decode cL_law 1085 = .ok (.ifCond .eq 7, 3) := by decide +kernel
theorem dL_law_1088 : decode cL_law 1088 = .ok (.iconst 1, 1) := by decide +kernel
theorem dL_law_1089 : decode cL_law 1089 = .ok (.goto 4, 3) := by decide +kernel
theorem dL_law_1092 : decode cL_law 1092 = .ok (.iconst 0, 1) := by decide +kernel
theorem dL_law_1093 : decode cL_law 1093 = .ok (.invokevirtual 131, 3) := by decide +kernel
theorem dL_law_1096 : decode cL_law 1096 = .ok (.aload_n 2, 1) := by decide +kernel
theorem dL_law_1097 : decode cL_law 1097 = .ok (.aload_n 0, 1) := by decide +kernel
theorem dL_law_1098 : decode cL_law 1098 = .ok (.iload_n 3, 1) := by decide +kernel
theorem dL_law_1099 : decode cL_law 1099 = .ok (.iconst 1, 1) := by decide +kernel
theorem dL_law_1100 : decode cL_law 1100 = .ok (.iadd, 1) := by decide +kernel
theorem dL_law_1101 : decode cL_law 1101 = .ok (.iaload, 1) := by decide +kernel
theorem dL_law_1102 : decode cL_law 1102 = .ok (.aload_n 0, 1) := by decide +kernel
theorem dL_law_1103 : decode cL_law 1103 = .ok (.iload_n 3, 1) := by decide +kernel
theorem dL_law_1104 : decode cL_law 1104 = .ok (.iconst 2, 1) := by decide +kernel
theorem dL_law_1105 : decode cL_law 1105 = .ok (.iadd, 1) := by decide +kernel
theorem dL_law_1106 : decode cL_law 1106 = .ok (.iaload, 1) := by decide +kernel
theorem dL_law_1107 : decode cL_law 1107 = .ok (.ifCond .eq 7, 3) := by decide +kernel
theorem dL_law_1110 : decode cL_law 1110 = .ok (.iconst 1, 1) := by decide +kernel
theorem dL_law_1111 : decode cL_law 1111 = .ok (.goto 4, 3) := by decide +kernel
theorem dL_law_1114 : decode cL_law 1114 = .ok (.iconst 0, 1) := by decide +kernel
theorem dL_law_1115 : decode cL_law 1115 = .ok (.invokevirtual 135, 3) := by decide +kernel
theorem dL_law_1118 : decode cL_law 1118 = .ok (.if_icmp .eq 120, 3) := by decide +kernel
theorem dL_law_1121 : decode cL_law 1121 = .ok (.iconst 0, 1) := by decide +kernel
theorem dL_law_1122 : decode cL_law 1122 = .ok (.ireturn, 1) := by decide +kernel
theorem dL_law_1123 : decode cL_law 1123 = .ok (.aload_n 1, 1) := by decide +kernel
theorem dL_law_1124 : decode cL_law 1124 = .ok (.aload_n 0, 1) := by decide +kernel
theorem dL_law_1125 : decode cL_law 1125 = .ok (.iload_n 3, 1) := by decide +kernel
theorem dL_law_1126 : decode cL_law 1126 = .ok (.iconst 1, 1) := by decide +kernel
theorem dL_law_1127 : decode cL_law 1127 = .ok (.iadd, 1) := by decide +kernel
theorem dL_law_1128 : decode cL_law 1128 = .ok (.iaload, 1) := by decide +kernel
theorem dL_law_1129 : decode cL_law 1129 = .ok (.aload_n 0, 1) := by decide +kernel
theorem dL_law_1130 : decode cL_law 1130 = .ok (.iload_n 3, 1) := by decide +kernel
theorem dL_law_1131 : decode cL_law 1131 = .ok (.iconst 2, 1) := by decide +kernel
theorem dL_law_1132 : decode cL_law 1132 = .ok (.iadd, 1) := by decide +kernel
theorem dL_law_1133 : decode cL_law 1133 = .ok (.iaload, 1) := by decide +kernel
theorem dL_law_1134 : decode cL_law 1134 = .ok (.invokevirtual 136, 3) := by decide +kernel
theorem dL_law_1137 : decode cL_law 1137 = .ok (.aload_n 2, 1) := by decide +kernel
theorem dL_law_1138 : decode cL_law 1138 = .ok (.aload_n 0, 1) := by decide +kernel
theorem dL_law_1139 : decode cL_law 1139 = .ok (.iload_n 3, 1) := by decide +kernel
theorem dL_law_1140 : decode cL_law 1140 = .ok (.iconst 1, 1) := by decide +kernel
theorem dL_law_1141 : decode cL_law 1141 = .ok (.iadd, 1) := by decide +kernel
theorem dL_law_1142 : decode cL_law 1142 = .ok (.iaload, 1) := by decide +kernel
theorem dL_law_1143 : decode cL_law 1143 = .ok (.aload_n 0, 1) := by decide +kernel
theorem dL_law_1144 : decode cL_law 1144 = .ok (.iload_n 3, 1) := by decide +kernel
theorem dL_law_1145 : decode cL_law 1145 = .ok (.iconst 2, 1) := by decide +kernel
theorem dL_law_1146 : decode cL_law 1146 = .ok (.iadd, 1) := by decide +kernel
theorem dL_law_1147 : decode cL_law 1147 = .ok (.iaload, 1) := by decide +kernel
theorem dL_law_1148 : decode cL_law 1148 = .ok (.invokevirtual 139, 3) := by decide +kernel
theorem dL_law_1151 : decode cL_law 1151 = .ok (.if_icmp .eq 87, 3) := by decide +kernel
theorem dL_law_1154 : decode cL_law 1154 = .ok (.iconst 0, 1) := by decide +kernel
theorem dL_law_1155 : decode cL_law 1155 = .ok (.ireturn, 1) := by decide +kernel
theorem dL_law_1156 : decode cL_law 1156 = .ok (.aload_n 1, 1) := by decide +kernel
theorem dL_law_1157 : decode cL_law 1157 = .ok (.aload_n 0, 1) := by decide +kernel
theorem dL_law_1158 : decode cL_law 1158 = .ok (.iload_n 3, 1) := by decide +kernel
theorem dL_law_1159 : decode cL_law 1159 = .ok (.iconst 1, 1) := by decide +kernel
theorem dL_law_1160 : decode cL_law 1160 = .ok (.iadd, 1) := by decide +kernel
theorem dL_law_1161 : decode cL_law 1161 = .ok (.iaload, 1) := by decide +kernel
theorem dL_law_1162 : decode cL_law 1162 = .ok (.invokevirtual 140, 3) := by decide +kernel
theorem dL_law_1165 : decode cL_law 1165 = .ok (.aload_n 2, 1) := by decide +kernel
theorem dL_law_1166 : decode cL_law 1166 = .ok (.aload_n 0, 1) := by decide +kernel
theorem dL_law_1167 : decode cL_law 1167 = .ok (.iload_n 3, 1) := by decide +kernel
theorem dL_law_1168 : decode cL_law 1168 = .ok (.iconst 1, 1) := by decide +kernel
theorem dL_law_1169 : decode cL_law 1169 = .ok (.iadd, 1) := by decide +kernel
theorem dL_law_1170 : decode cL_law 1170 = .ok (.iaload, 1) := by decide +kernel
theorem dL_law_1171 : decode cL_law 1171 = .ok (.invokevirtual 143, 3) := by decide +kernel
theorem dL_law_1174 : decode cL_law 1174 = .ok (.if_icmp .eq 64, 3) := by decide +kernel
theorem dL_law_1177 : decode cL_law 1177 = .ok (.iconst 0, 1) := by decide +kernel
theorem dL_law_1178 : decode cL_law 1178 = .ok (.ireturn, 1) := by decide +kernel
theorem dL_law_1179 : decode cL_law 1179 = .ok (.aload_n 1, 1) := by decide +kernel
theorem dL_law_1180 : decode cL_law 1180 = .ok (.aload_n 0, 1) := by decide +kernel
theorem dL_law_1181 : decode cL_law 1181 = .ok (.iload_n 3, 1) := by decide +kernel
theorem dL_law_1182 : decode cL_law 1182 = .ok (.iconst 1, 1) := by decide +kernel
theorem dL_law_1183 : decode cL_law 1183 = .ok (.iadd, 1) := by decide +kernel
theorem dL_law_1184 : decode cL_law 1184 = .ok (.iaload, 1) := by decide +kernel
theorem dL_law_1185 : decode cL_law 1185 = .ok (.invokevirtual 144, 3) := by decide +kernel
theorem dL_law_1188 : decode cL_law 1188 = .ok (.aload_n 2, 1) := by decide +kernel
theorem dL_law_1189 : decode cL_law 1189 = .ok (.aload_n 0, 1) := by decide +kernel
theorem dL_law_1190 : decode cL_law 1190 = .ok (.iload_n 3, 1) := by decide +kernel
theorem dL_law_1191 : decode cL_law 1191 = .ok (.iconst 1, 1) := by decide +kernel
theorem dL_law_1192 : decode cL_law 1192 = .ok (.iadd, 1) := by decide +kernel
theorem dL_law_1193 : decode cL_law 1193 = .ok (.iaload, 1) := by decide +kernel
theorem dL_law_1194 : decode cL_law 1194 = .ok (.invokevirtual 147, 3) := by decide +kernel
theorem dL_law_1197 : decode cL_law 1197 = .ok (.if_icmp .eq 41, 3) := by decide +kernel
theorem dL_law_1200 : decode cL_law 1200 = .ok (.iconst 0, 1) := by decide +kernel
theorem dL_law_1201 : decode cL_law 1201 = .ok (.ireturn, 1) := by decide +kernel
theorem dL_law_1202 : decode cL_law 1202 = .ok (.aload_n 1, 1) := by decide +kernel
theorem dL_law_1203 : decode cL_law 1203 = .ok (.invokevirtual 148, 3) := by decide +kernel
theorem dL_law_1206 : decode cL_law 1206 = .ok (.aload_n 2, 1) := by decide +kernel
theorem dL_law_1207 : decode cL_law 1207 = .ok (.invokevirtual 151, 3) := by decide +kernel
theorem dL_law_1210 : decode cL_law 1210 = .ok (.if_icmp .eq 28, 3) := by decide +kernel
theorem dL_law_1213 : decode cL_law 1213 = .ok (.iconst 0, 1) := by decide +kernel
theorem dL_law_1214 : decode cL_law 1214 = .ok (.ireturn, 1) := by decide +kernel
theorem dL_law_1215 : decode cL_law 1215 = .ok (.aload_n 1, 1) := by decide +kernel
theorem dL_law_1216 : decode cL_law 1216 = .ok (.aload_n 0, 1) := by decide +kernel
theorem dL_law_1217 : decode cL_law 1217 = .ok (.iload_n 3, 1) := by decide +kernel
theorem dL_law_1218 : decode cL_law 1218 = .ok (.iconst 1, 1) := by decide +kernel
theorem dL_law_1219 : decode cL_law 1219 = .ok (.iadd, 1) := by decide +kernel
theorem dL_law_1220 : decode cL_law 1220 = .ok (.iaload, 1) := by decide +kernel
theorem dL_law_1221 : decode cL_law 1221 = .ok (.invokevirtual 152, 3) := by decide +kernel
theorem dL_law_1224 : decode cL_law 1224 = .ok (.aload_n 2, 1) := by decide +kernel
theorem dL_law_1225 : decode cL_law 1225 = .ok (.aload_n 0, 1) := by decide +kernel
theorem dL_law_1226 : decode cL_law 1226 = .ok (.iload_n 3, 1) := by decide +kernel
theorem dL_law_1227 : decode cL_law 1227 = .ok (.iconst 1, 1) := by decide +kernel
theorem dL_law_1228 : decode cL_law 1228 = .ok (.iadd, 1) := by decide +kernel
theorem dL_law_1229 : decode cL_law 1229 = .ok (.iaload, 1) := by decide +kernel
theorem dL_law_1230 : decode cL_law 1230 = .ok (.invokevirtual 155, 3) := by decide +kernel
theorem dL_law_1233 : decode cL_law 1233 = .ok (.if_icmp .eq 5, 3) := by decide +kernel
theorem dL_law_1236 : decode cL_law 1236 = .ok (.iconst 0, 1) := by decide +kernel
theorem dL_law_1237 : decode cL_law 1237 = .ok (.ireturn, 1) := by decide +kernel
theorem dL_law_1238 : decode cL_law 1238 = .ok (.iinc 3 5, 3) := by decide +kernel
theorem dL_law_1241 : decode cL_law 1241 = .ok (.goto (-1223), 3) := by decide +kernel
theorem dL_law_1244 : decode cL_law 1244 = .ok (.iconst 1, 1) := by decide +kernel
theorem dL_law_1245 : decode cL_law 1245 = .ok (.ireturn, 1) := by decide +kernel
end
section
/-! A world that never grows: cells at fixed places behind a base, all that changes in them are numbers. -/
def Tb : List Cond := lw_tbl.filter goodWord
theorem Tb_mem {w : Cond} (i : Nat) (h : lw_tbl[i]? = some w) (hg : goodWord w = true) : w ∈ Tb := List.mem_filter.mpr ⟨List.mem_of_getElem? h, hg⟩
theorem Tb_good {w : Cond} (h : w ∈ Tb) : (w.onTables && w.keeps) = true ∨ ∃ ty, w = .arrayClass ty := good_of_word (List.mem_filter.mp h).2
/-- a cell's kind (below 20: an object of that class; 20 int[], 21 long[], 22 boolean[], 24.. arrays of references), its size, its references -/
abbrev LayT : Type := List (Nat × Nat × List (Option Nat))
abbrev MemT : Type := Nat → Int → Int
abbrev EE : Type := Launch × va_G × (Nat → ClassId) × Nat × LayT
abbrev eL (E : EE) : Launch := E.1
abbrev eD (E : EE) : va_G := E.2.1
abbrev eA (E : EE) : Nat → ClassId := E.2.2.1
abbrev eB (E : EE) : Nat := E.2.2.2.1
abbrev eY (E : EE) : LayT := E.2.2.2.2
abbrev XX : Type := Program × Env × State × MethodId × Array Value × List Frame × Method × Code
def iv (z : Int) : Value := .int (Int32.ofInt z)
def rf (E : EE) (k : Nat) : Value := .ref (eB E + k)
def fv (E : EE) (μ : MemT) (k : Nat) (x : Option Nat × Nat) : Value := match x.1 with
  | some r => rf E r
  | none => iv (μ k x.2)
def en (E : EE) (μ : MemT) (k : Nat) (q : Nat × Nat × List (Option Nat)) : va_E :=
  if q.1 < 20 then .inr (q.1, q.2.2.zipIdx.map (fv E μ k))
  else if q.1 = 21 then .inl (eA E 21, q.2.1, .inr (.inl (fun j => Int64.ofInt (μ k j))))
  else if q.1 < 24 then .inl (eA E q.1, q.2.1, .inl (fun j => Int32.ofInt (μ k j)))
  else .inl (eA E q.1, q.2.1, .inr (.inr (.inr (.inr (fun j => (q.2.2[j]?).join.map (fun r => eB E + r))))))
def wd (E : EE) (μ : MemT) : va_W := (eY E).zipIdx.map (fun x => (eB E + x.2, en E μ x.2 x.1))
theorem wd_at (E : EE) (μ : MemT) (k : Nat) : (wd E μ)[k]? = ((eY E)[k]?).map (fun q => (eB E + k, en E μ k q)) := by
  unfold wd
  rw [List.getElem?_map, List.getElem?_zipIdx]
  cases (eY E)[k]? with
  | none => rfl
  | some q => simp
theorem wd_of {E : EE} (μ : MemT) {k : Nat} {q : Nat × Nat × List (Option Nat)} (h : (eY E)[k]? = some q) : (wd E μ)[k]? = some (eB E + k, en E μ k q) := by
  rw [wd_at, h]; rfl
def Reg (E : EE) : Nat → Prop := fun q => eB E ≤ q ∧ q < eB E + (eY E).length
theorem wd_D (E : EE) (μ : MemT) : va_D (Reg E) (wd E μ) := by
  have key : ∀ (k : Nat) (p : Nat × va_E), (wd E μ)[k]? = some p → p.1 = eB E + k ∧ k < (eY E).length := by
    intro k p h
    rw [wd_at] at h
    cases hq : (eY E)[k]? with
    | none => rw [hq] at h; cases h
    | some q => rw [hq] at h; cases h; exact ⟨rfl, (List.getElem?_eq_some_iff.mp hq).1⟩
  refine ⟨fun i j p q hi hj e => ?_, fun k q h => ?_⟩
  · have h1 := (key i p hi).1
    have h2 := (key j q hj).1
    omega
  · have h1 := key k q h
    exact ⟨by omega, by omega⟩
def tyl (E : EE) : List (ClassId × FieldType) := [(eA E 20, .int), (eA E 21, .long), (eA E 22, .boolean), (eA E 24, .object "DotWar$Code"), (eA E 25, .object "DotWar$Reader"), (eA E 26, .object "DotWar$School"), (eA E 27, .array .int)]
/-- all that isn't a long is an int -/
def Ok (E : EE) (μ : MemT) : Prop := ∀ (k : Nat) (i : Int), (∀ n rs, (eY E)[k]? ≠ some (21, n, rs)) → -2147483648 ≤ μ k i ∧ μ k i < 2147483648
def up (μ : MemT) (k : Nat) (i z : Int) : MemT := fun a j => if a = k ∧ j = i then z else μ a j
theorem up_same (μ : MemT) (k : Nat) (i z : Int) : up μ k i z k i = z := by simp [up]
theorem up_cell {μ : MemT} {k a : Nat} {i j z : Int} (h : a ≠ k) : up μ k i z a j = μ a j := by simp [up, h]
theorem up_idx {μ : MemT} {k a : Nat} {i j z : Int} (h : j ≠ i) : up μ k i z a j = μ a j := by simp [up, h]
theorem ok_up {E : EE} {μ : MemT} (h : Ok E μ) {k : Nat} {i z : Int} (hz : -2147483648 ≤ z ∧ z < 2147483648) : Ok E (up μ k i z) := by
  intro a j ha
  unfold up
  by_cases e : a = k ∧ j = i
  · rw [if_pos e]; exact hz
  · rw [if_neg e]; exact h a j ha
theorem ok_upL {E : EE} {μ : MemT} (h : Ok E μ) {k n : Nat} {rs : List (Option Nat)} {i z : Int} (hk : (eY E)[k]? = some (21, n, rs)) : Ok E (up μ k i z) := by
  intro a j ha
  unfold up
  by_cases e : a = k ∧ j = i
  · exact absurd (by rw [e.1]; exact hk) (ha n rs)
  · rw [if_neg e]; exact h a j ha
def rm (d : Nat) : Room := { frames := d, cells := 0, slots := 0, locals := 64 * d }
abbrev Pst : Type := Option Value → MemT → Prop
def Qq (E : EE) (post : Pst) : Array Value → State → Outcome → State → Prop := fun _ st oc t => (∃ (r : Option Value) (μ : MemT), oc = .returned r ∧ post r μ ∧ Ok E μ ∧ va_P (eD E) vwCl (wd E μ) t.heap ∧ va_K (eD E) vwCl (tyl E) t) ∧ va_F (Reg E) st t
def Pp (E : EE) (as : List Value) (μ : MemT) : Array Value → State → Prop := va_Pc as (fun U => Ok E μ ∧ va_P (eD E) vwCl (wd E μ) U.heap ∧ va_K (eD E) vwCl (tyl E) U)
def lh (la : Array Slot) (n : Nat) (ls : List (Option Value)) : Prop := la.size = n ∧ lv_wf la ∧ ∀ (i : Nat) (v : Value), ls[i]? = some (some v) → la[i]? = some (.val v)
def JJ (E : EE) (X : XX) (d : Nat) (post : Pst) (n pc : Nat) (ls : List (Option Value)) (st : List Value) (μ : MemT) : Prop :=
  Ok E μ → ∀ (H : Heap) (locs : List Loc) (la : Array Slot), va_P (eD E) vwCl (wd E μ) H → va_S (Reg E) X.2.2.1.heap H locs → lh la n ls →
    W X.1 (eL E) X.2.1 (rm d) X.2.2.1 X.2.2.2.1 X.2.2.2.2.1 X.2.2.2.2.2.1 X.2.2.2.2.2.2.1 X.2.2.2.2.2.2.2 H locs 0 0 (MQ X.2.2.2.2.2.1 (Qq E post) X.2.2.2.2.1 X.2.2.1 0 0 (Reg E)) (F0 X.2.2.2.1 pc la st)
def GO (E : EE) (X : XX) (own : String) (cc : ByteArray) (n : Nat) (ret : Option FieldType) : Prop :=
  X.1.tables.exec = Jvm.exec ∧ X.2.2.2.2.2.2.2.code = cc ∧ X.2.2.2.2.2.2.2.maxLocals = n ∧ X.2.2.2.2.2.2.1.sig.returnType = ret ∧ X.2.2.1.vm.findClass own = some X.2.2.2.1.cls ∧ (∀ w ∈ Tb, w.before X.2.2.2.2.1 X.2.2.1 = true) ∧ va_K (eD E) vwCl (tyl E) X.2.2.1 ∧ X.2.2.2.2.2.2.1.locks = false
def CT (E : EE) (d : Nat) (y : MethodName) (as : List Value) (μ : MemT) (post : Pst) : Prop :=
  ∃ (cc : ByteArray) (n : Nat) (ret : Option FieldType), Cond.code y cc n ret ∈ Tb ∧ n ≤ 40 ∧ Met (eL E) y (Cond.code y cc n ret :: Tb) (rm d) (Pp E as μ) (Qq E post) 0 0 (Reg E)
def eb : List Value → List (Option Value)
  | [] => []
  | v :: vs => if v.category = 2 then some v :: none :: eb vs else some v :: eb vs
theorem eb_args : ∀ (vs : List Value) (b i : Nat) (v : Value), (eb vs)[i]? = some (some v) → (b + i, v) ∈ lv_args b vs
  | [], b, i, v, h => by simp [eb] at h
  | w :: vs, b, i, v, h => by
    unfold eb at h
    unfold lv_args
    by_cases c : w.category = 2
    · rw [if_pos c] at h ⊢
      match i, h with
      | 0, h => cases h; exact List.mem_cons_self
      | 1, h => cases h
      | i + 2, h =>
        have h1 := eb_args vs (b + 2) i v h
        rw [show b + (i + 2) = b + 2 + i by omega]
        exact List.mem_cons_of_mem _ h1
    · rw [if_neg c] at h ⊢
      match i, h with
      | 0, h => cases h; exact List.mem_cons_self
      | i + 1, h =>
        have h1 := eb_args vs (b + 1) i v h
        rw [show b + (i + 1) = b + 1 + i by omega]
        exact List.mem_cons_of_mem _ h1
theorem lh_entry (vs : List Value) {n : Nat} (hn : (lg_sl vs).length ≤ n) : lh ((lg_sl vs ++ List.replicate (n - (lg_sl vs).length) Slot.unset).toArray) n (eb vs ++ List.replicate (n - (eb vs).length) none) := by
  obtain ⟨h1, h2, h3⟩ := lv_entry vs hn
  refine ⟨h1, h2, fun i v h => ?_⟩
  by_cases c : i < (eb vs).length
  · rw [List.getElem?_append_left c] at h
    have := eb_args vs 0 i v h
    rw [Nat.zero_add] at this
    exact h3 _ this
  · rw [List.getElem?_append_right (by omega)] at h
    have := List.mem_of_getElem? h
    cases List.eq_of_mem_replicate this
theorem Pp_blind (E : EE) (as : List Value) (μ : MemT) : FrameBlind (Pp E as μ) := by
  intro a U g mk h
  obtain ⟨h1, h2, h3, h4⟩ := h
  exact ⟨h1, h2, h3, va_K.moved (u := U) (U := U.calling g mk a) (Vm.Alike.refl U.vm) h4⟩
theorem CT.ofJ {E : EE} {d : Nat} {y : MethodName} {as : List Value} {μ : MemT} {post : Pst} {cc : ByteArray} {n : Nat} {ret : Option FieldType} {own : String} (hy : plainName y.cls = true) (hown : y.cls = own) (hc : Cond.code y cc n ret ∈ Tb) (hn : n ≤ 40) (hl : (lg_sl as).length ≤ n) {ls : List (Option Value)} (hls : eb as ++ List.replicate (n - (eb as).length) none = ls)
    (body : ∀ X : XX, GO E X own cc n ret → JJ E X d post n 0 ls [] μ) : CT E d y as μ post := by
  refine ⟨cc, n, ret, hc, hn, Met.ofW hy rfl ?_⟩
  intro p e s m args below meth c s₁ B hml hv
  obtain ⟨rfl, hok, hP, hK⟩ := hv
  have hts := atoms_spec (ws := Cond.code y cc n ret :: Tb) B.pre
  have G : GO E (p, e, s, m, as.toArray, below, meth, c) own cc n ret := ⟨B.exec, B.bytes, hml, B.returns, by rw [← hown]; exact findClass_of_methodNamed B.named, fun w h => hts w (List.mem_cons_of_mem _ h), hK, B.notSynchronized⟩
  have h := body _ G hok s.heap [] _ hP va_S.rf (by rw [← hls]; exact lh_entry as hl)
  rw [lg_entry_eq]
  exact h
section JR
variable {E : EE} {X : XX} {d n pc : Nat} {post : Pst} {ls : List (Option Value)} {st : List Value} {μ : MemT} {own : String} {cc : ByteArray} {ret : Option FieldType}
/-- fewer known locals -/
def le_ : List (Option Value) → List (Option Value) → Prop
  | [], _ => True
  | none :: xs, _ :: ys => le_ xs ys
  | some v :: xs, y :: ys => y = some v ∧ le_ xs ys
  | none :: xs, [] => le_ xs []
  | some _ :: _, [] => False
theorem le_at : ∀ {xs ys : List (Option Value)}, le_ xs ys → ∀ (i : Nat) (v : Value), xs[i]? = some (some v) → ys[i]? = some (some v)
  | [], _, _, i, v, h => by simp at h
  | none :: xs, y :: ys, hl, i, v, h => by
    match i, h with
    | 0, h => cases h
    | i + 1, h => exact le_at (xs := xs) (ys := ys) hl i v h
  | none :: xs, [], hl, i, v, h => by
    match i, h with
    | 0, h => cases h
    | i + 1, h => have := le_at (xs := xs) (ys := []) hl i v h; simp at this
  | some w :: xs, y :: ys, hl, i, v, h => by
    match i, h with
    | 0, h => cases h; exact congrArg some hl.1
    | i + 1, h => exact le_at (xs := xs) (ys := ys) hl.2 i v h
  | some _ :: _, [], hl, i, v, h => absurd hl id
theorem j_weak {ls' : List (Option Value)} (k : JJ E X d post n pc ls' st μ) (h : le_ ls' ls) : JJ E X d post n pc ls st μ := fun ho H locs la hP hS hl => k ho H locs la hP hS ⟨hl.1, hl.2.1, fun i v q => hl.2.2 i v (le_at h i v q)⟩
theorem j_mem {μ' : MemT} (h : μ = μ') (k : JJ E X d post n pc ls st μ') : JJ E X d post n pc ls st μ := h ▸ k
theorem j_ok (k : Ok E μ → JJ E X d post n pc ls st μ) : JJ E X d post n pc ls st μ := fun ho => k ho ho
theorem j_st {st' : List Value} (h : st = st') (k : JJ E X d post n pc ls st' μ) : JJ E X d post n pc ls st μ := h ▸ k
/-- a step that leaves the heap and the locals -/
theorem j_go {pc' : Nat} {st' : List Value} (h : ∀ (H : Heap) (locs : List Loc) (la : Array Slot) (Q : State → Prop), lh la n ls → W X.1 (eL E) X.2.1 (rm d) X.2.2.1 X.2.2.2.1 X.2.2.2.2.1 X.2.2.2.2.2.1 X.2.2.2.2.2.2.1 X.2.2.2.2.2.2.2 H locs 0 0 Q (F0 X.2.2.2.1 pc' la st') → W X.1 (eL E) X.2.1 (rm d) X.2.2.1 X.2.2.2.1 X.2.2.2.2.1 X.2.2.2.2.2.1 X.2.2.2.2.2.2.1 X.2.2.2.2.2.2.2 H locs 0 0 Q (F0 X.2.2.2.1 pc la st))
    (k : JJ E X d post n pc' ls st' μ) : JJ E X d post n pc ls st μ := fun ho H locs la hP hS hl => h H locs la _ hl (k ho H locs la hP hS hl)
theorem j_iconst (G : GO E X own cc n ret) {z : Int} (hd : decode cc pc = .ok (.iconst z, 1)) (k : JJ E X d post n (pc + 1) ls (iv z :: st) μ) : JJ E X d post n pc ls st μ := j_go (fun _ _ _ _ _ w => lv_iconst G.1 G.2.1 hd rfl w) k
theorem j_bipush (G : GO E X own cc n ret) {z : Int} (hd : decode cc pc = .ok (.bipush z, 2)) (hz : (Int8.ofInt z).toInt32 = Int32.ofInt z) (k : JJ E X d post n (pc + 2) ls (iv z :: st) μ) : JJ E X d post n pc ls st μ := j_go (fun _ _ _ _ _ w => lv_bipush G.1 G.2.1 hd hz w) k
theorem j_sipush (G : GO E X own cc n ret) {z : Int} (hd : decode cc pc = .ok (.sipush z, 3)) (hz : (Int16.ofInt z).toInt32 = Int32.ofInt z) (k : JJ E X d post n (pc + 3) ls (iv z :: st) μ) : JJ E X d post n pc ls st μ := j_go (fun _ _ _ _ _ w => lv_sipush G.1 G.2.1 hd hz w) k
theorem j_ldc (G : GO E X own cc n ret) {i : Nat} {z : Int} {v : Int32} (hw : Cond.constant own i v ∈ Tb) (hd : decode cc pc = .ok (.ldc i, 2)) (hz : Int32.ofInt z = v) (k : JJ E X d post n (pc + 2) ls (iv z :: st) μ) : JJ E X d post n pc ls st μ := by
  subst hz
  exact j_go (fun _ _ _ _ _ w => lv_ldc G.1 G.2.1 G.2.2.2.2.1 (G.2.2.2.2.2.1 _ hw) hd w) k
theorem j_ldcw (G : GO E X own cc n ret) {i : Nat} {z : Int} {v : Int32} (hw : Cond.constant own i v ∈ Tb) (hd : decode cc pc = .ok (.ldc_w i, 3)) (hz : Int32.ofInt z = v) (k : JJ E X d post n (pc + 3) ls (iv z :: st) μ) : JJ E X d post n pc ls st μ := by
  subst hz
  exact j_go (fun _ _ _ _ _ w => lv_ldcw G.1 G.2.1 G.2.2.2.2.1 (G.2.2.2.2.2.1 _ hw) hd w) k
theorem j_ldc2 (G : GO E X own cc n ret) {i : Nat} {v : Int64} (hw : Cond.constantLong own i v ∈ Tb) (hd : decode cc pc = .ok (.ldc2_w i, 3)) (k : JJ E X d post n (pc + 3) ls (.long v :: st) μ) : JJ E X d post n pc ls st μ := j_go (fun _ _ _ _ _ w => lv_ldc2 G.1 G.2.1 G.2.2.2.2.1 (G.2.2.2.2.2.1 _ hw) hd w) k
theorem j_lconst (G : GO E X own cc n ret) {z : Fin 2} (hd : decode cc pc = .ok (.lconst z, 1)) (k : JJ E X d post n (pc + 1) ls (.long (Int64.ofNat z) :: st) μ) : JJ E X d post n pc ls st μ := j_go (fun _ _ _ _ _ w => lv_lconst G.1 G.2.1 hd rfl w) k
theorem j_null (G : GO E X own cc n ret) (hd : decode cc pc = .ok (.aconst_null, 1)) (k : JJ E X d post n (pc + 1) ls (.null :: st) μ) : JJ E X d post n pc ls st μ := j_go (fun _ _ _ _ _ w => lv_null G.1 G.2.1 hd w) k
theorem j_iload_n (G : GO E X own cc n ret) {i : Fin 4} {z : Int} (hd : decode cc pc = .ok (.iload_n i, 1)) (hv : ls[(i : Nat)]? = some (some (iv z))) (k : JJ E X d post n (pc + 1) ls (iv z :: st) μ) : JJ E X d post n pc ls st μ := j_go (fun _ _ _ _ hl w => lv_iload_n G.1 G.2.1 hd rfl (hl.2.2 _ _ hv) w) k
theorem j_iload (G : GO E X own cc n ret) {i : Nat} {z : Int} (hd : decode cc pc = .ok (.iload i, 2)) (hv : ls[i]? = some (some (iv z))) (k : JJ E X d post n (pc + 2) ls (iv z :: st) μ) : JJ E X d post n pc ls st μ := j_go (fun _ _ _ _ hl w => lv_iload G.1 G.2.1 hd (hl.2.2 _ _ hv) w) k
theorem j_lload_n (G : GO E X own cc n ret) {i : Fin 4} {z : Int64} (hd : decode cc pc = .ok (.lload_n i, 1)) (hv : ls[(i : Nat)]? = some (some (.long z))) (k : JJ E X d post n (pc + 1) ls (.long z :: st) μ) : JJ E X d post n pc ls st μ := j_go (fun _ _ _ _ hl w => lv_lload_n G.1 G.2.1 hd rfl (hl.2.2 _ _ hv) w) k
theorem j_lload (G : GO E X own cc n ret) {i : Nat} {z : Int64} (hd : decode cc pc = .ok (.lload i, 2)) (hv : ls[i]? = some (some (.long z))) (k : JJ E X d post n (pc + 2) ls (.long z :: st) μ) : JJ E X d post n pc ls st μ := j_go (fun _ _ _ _ hl w => lv_lload G.1 G.2.1 hd (hl.2.2 _ _ hv) w) k
theorem j_aload_n (G : GO E X own cc n ret) {i : Fin 4} {z : Nat} (hd : decode cc pc = .ok (.aload_n i, 1)) (hv : ls[(i : Nat)]? = some (some (rf E z))) (k : JJ E X d post n (pc + 1) ls (rf E z :: st) μ) : JJ E X d post n pc ls st μ := j_go (fun _ _ _ _ hl w => lv_aload_n G.1 G.2.1 hd rfl (hl.2.2 _ _ hv) w) k
theorem j_aload (G : GO E X own cc n ret) {i : Nat} {z : Nat} (hd : decode cc pc = .ok (.aload i, 2)) (hv : ls[i]? = some (some (rf E z))) (k : JJ E X d post n (pc + 2) ls (rf E z :: st) μ) : JJ E X d post n pc ls st μ := j_go (fun _ _ _ _ hl w => lv_aload G.1 G.2.1 hd (hl.2.2 _ _ hv) w) k
theorem j_aload_nN (G : GO E X own cc n ret) {i : Fin 4} (hd : decode cc pc = .ok (.aload_n i, 1)) (hv : ls[(i : Nat)]? = some (some .null)) (k : JJ E X d post n (pc + 1) ls (.null :: st) μ) : JJ E X d post n pc ls st μ := j_go (fun _ _ _ _ hl w => lv_aload_nN G.1 G.2.1 hd rfl (hl.2.2 _ _ hv) w) k
theorem j_aloadN (G : GO E X own cc n ret) {i : Nat} (hd : decode cc pc = .ok (.aload i, 2)) (hv : ls[i]? = some (some .null)) (k : JJ E X d post n (pc + 2) ls (.null :: st) μ) : JJ E X d post n pc ls st μ := j_go (fun _ _ _ _ hl w => lv_aloadN G.1 G.2.1 hd (hl.2.2 _ _ hv) w) k
theorem j_iadd (G : GO E X own cc n ret) {x y : Int} (hd : decode cc pc = .ok (.iadd, 1)) (k : JJ E X d post n (pc + 1) ls (iv (x + y) :: st) μ) : JJ E X d post n pc ls (iv y :: iv x :: st) μ := j_go (fun _ _ _ _ _ w => lv_iadd G.1 G.2.1 hd (by rw [← Int32.ofInt_add]; exact w)) k
theorem j_isub (G : GO E X own cc n ret) {x y : Int} (hd : decode cc pc = .ok (.isub, 1)) (k : JJ E X d post n (pc + 1) ls (iv (x - y) :: st) μ) : JJ E X d post n pc ls (iv y :: iv x :: st) μ := j_go (fun _ _ _ _ _ w => lv_isub G.1 G.2.1 hd (by rw [← Int32.ofInt_sub]; exact w)) k
theorem j_imul (G : GO E X own cc n ret) {x y : Int} (hd : decode cc pc = .ok (.imul, 1)) (k : JJ E X d post n (pc + 1) ls (iv (x * y) :: st) μ) : JJ E X d post n pc ls (iv y :: iv x :: st) μ := j_go (fun _ _ _ _ _ w => lv_imul G.1 G.2.1 hd (by rw [← Int32.ofInt_mul]; exact w)) k
theorem ofI_toInt {z : Int} (h : -2147483648 ≤ z ∧ z < 2147483648) : (Int32.ofInt z).toInt = z := Int32.toInt_ofInt_of_le (by omega) (by omega)
theorem ofI_inj {x y : Int} (hx : -2147483648 ≤ x ∧ x < 2147483648) (hy : -2147483648 ≤ y ∧ y < 2147483648) : Int32.ofInt x = Int32.ofInt y ↔ x = y := ⟨fun h => by rw [← ofI_toInt hx, h, ofI_toInt hy], fun h => by rw [h]⟩
theorem ofI_lt {x y : Int} (hx : -2147483648 ≤ x ∧ x < 2147483648) (hy : -2147483648 ≤ y ∧ y < 2147483648) : Int32.ofInt x < Int32.ofInt y ↔ x < y := by rw [Int32.lt_iff_toInt_lt, ofI_toInt hx, ofI_toInt hy]
theorem ofI_le {x y : Int} (hx : -2147483648 ≤ x ∧ x < 2147483648) (hy : -2147483648 ≤ y ∧ y < 2147483648) : Int32.ofInt x ≤ Int32.ofInt y ↔ x ≤ y := by rw [Int32.le_iff_toInt_le, ofI_toInt hx, ofI_toInt hy]
theorem ofI_rng (x : Int32) : -2147483648 ≤ x.toInt ∧ x.toInt < 2147483648 := by
  have h1 := Int32.le_toInt x
  have h2 := Int32.toInt_lt x
  omega
theorem ofI_div {x y : Int} (hx : 0 ≤ x ∧ x < 2147483648) (hy : 0 < y ∧ y < 2147483648) : Int32.ofInt x / Int32.ofInt y = Int32.ofInt (x / y) := by
  apply Int32.toInt_inj.mp
  rw [Int32.toInt_div, ofI_toInt (by omega), ofI_toInt (by omega), Int.tdiv_eq_ediv_of_nonneg hx.1]
  have h1 : 0 ≤ x / y := Int.ediv_nonneg hx.1 (by omega)
  have h2 : x / y ≤ x := Int.ediv_le_self _ hx.1
  rw [ofI_toInt (by omega)]
  exact Int.bmod_eq_of_le (by omega) (by omega)
theorem j_idiv (G : GO E X own cc n ret) {x y : Int} (hd : decode cc pc = .ok (.idiv, 1)) (hx : 0 ≤ x ∧ x < 2147483648) (hy : 0 < y ∧ y < 2147483648) (k : JJ E X d post n (pc + 1) ls (iv (x / y) :: st) μ) : JJ E X d post n pc ls (iv y :: iv x :: st) μ := j_go (fun _ _ _ _ _ w => lv_idiv G.1 G.2.1 hd (fun h => by have := (ofI_inj (x := y) (y := 0) (by omega) (by omega)).mp h; omega) (by rw [ofI_div hx hy]; exact w)) k
theorem j_irem (G : GO E X own cc n ret) {x y : Int} (hd : decode cc pc = .ok (.irem, 1)) (hx : 0 ≤ x ∧ x < 2147483648) (hy : 0 < y ∧ y < 2147483648) (k : JJ E X d post n (pc + 1) ls (iv (x % y) :: st) μ) : JJ E X d post n pc ls (iv y :: iv x :: st) μ := j_go (fun _ _ _ _ _ w => lv_irem G.1 G.2.1 hd (fun h => by have := (ofI_inj (x := y) (y := 0) (by omega) (by omega)).mp h; omega) (by rw [ofI_div hx hy, ← Int32.ofInt_mul, ← Int32.ofInt_sub, show x - x / y * y = x % y by rw [Int.emod_def, Int.mul_comm]]; exact w)) k
def and32 (x y : Int) : Int := (Int32.ofInt x &&& Int32.ofInt y).toInt
def or32 (x y : Int) : Int := (Int32.ofInt x ||| Int32.ofInt y).toInt
def xor32 (x y : Int) : Int := (Int32.ofInt x ^^^ Int32.ofInt y).toInt
def shl32 (x y : Int) : Int := (Int32.ofInt x <<< (Int32.ofInt y &&& 31)).toInt
def shr32 (x y : Int) : Int := (Int32.ofInt x >>> (Int32.ofInt y &&& 31)).toInt
theorem iv_toInt (x : Int32) : iv x.toInt = .int x := by unfold iv; rw [Int32.ofInt_toInt]
theorem j_iand (G : GO E X own cc n ret) {x y : Int} (hd : decode cc pc = .ok (.iand, 1)) (k : JJ E X d post n (pc + 1) ls (iv (and32 x y) :: st) μ) : JJ E X d post n pc ls (iv y :: iv x :: st) μ := j_go (fun _ _ _ _ _ w => lv_iand G.1 G.2.1 hd (by rw [and32, iv_toInt] at w; exact w)) k
theorem j_ior (G : GO E X own cc n ret) {x y : Int} (hd : decode cc pc = .ok (.ior, 1)) (k : JJ E X d post n (pc + 1) ls (iv (or32 x y) :: st) μ) : JJ E X d post n pc ls (iv y :: iv x :: st) μ := j_go (fun _ _ _ _ _ w => lv_ior G.1 G.2.1 hd (by rw [or32, iv_toInt] at w; exact w)) k
theorem j_ixor (G : GO E X own cc n ret) {x y : Int} (hd : decode cc pc = .ok (.ixor, 1)) (k : JJ E X d post n (pc + 1) ls (iv (xor32 x y) :: st) μ) : JJ E X d post n pc ls (iv y :: iv x :: st) μ := j_go (fun _ _ _ _ _ w => lv_ixor G.1 G.2.1 hd (by rw [xor32, iv_toInt] at w; exact w)) k
theorem j_ishl (G : GO E X own cc n ret) {x y : Int} (hd : decode cc pc = .ok (.ishl, 1)) (k : JJ E X d post n (pc + 1) ls (iv (shl32 x y) :: st) μ) : JJ E X d post n pc ls (iv y :: iv x :: st) μ := j_go (fun _ _ _ _ _ w => lv_ishl G.1 G.2.1 hd (by rw [shl32, iv_toInt] at w; exact w)) k
theorem j_ishr (G : GO E X own cc n ret) {x y : Int} (hd : decode cc pc = .ok (.ishr, 1)) (k : JJ E X d post n (pc + 1) ls (iv (shr32 x y) :: st) μ) : JJ E X d post n pc ls (iv y :: iv x :: st) μ := j_go (fun _ _ _ _ _ w => lv_ishr G.1 G.2.1 hd (by rw [shr32, iv_toInt] at w; exact w)) k
theorem ofI_i2l {x : Int} (hx : -2147483648 ≤ x ∧ x < 2147483648) : (Int32.ofInt x).toInt64 = Int64.ofInt x := Int32.toInt64_ofInt (by rw [show Int32.minValue.toInt = -2147483648 from by decide]; exact hx.1) (by rw [show Int32.maxValue.toInt = 2147483647 from by decide]; omega)
theorem j_i2l (G : GO E X own cc n ret) {x : Int} (hx : -2147483648 ≤ x ∧ x < 2147483648) (hd : decode cc pc = .ok (.i2l, 1)) (k : JJ E X d post n (pc + 1) ls (.long (Int64.ofInt x) :: st) μ) : JJ E X d post n pc ls (iv x :: st) μ := j_go (fun _ _ _ _ _ w => lv_i2l G.1 G.2.1 hd (ofI_i2l hx) w) k
theorem j_dup (G : GO E X own cc n ret) {v : Value} (hd : decode cc pc = .ok (.dup, 1)) (hc : v.category = 1) (k : JJ E X d post n (pc + 1) ls (v :: v :: st) μ) : JJ E X d post n pc ls (v :: st) μ := j_go (fun _ _ _ _ _ w => lv_dup G.1 G.2.1 hd hc w) k
theorem j_pop (G : GO E X own cc n ret) {v : Value} (hd : decode cc pc = .ok (.pop, 1)) (hc : v.category = 1) (k : JJ E X d post n (pc + 1) ls st μ) : JJ E X d post n pc ls (v :: st) μ := j_go (fun _ _ _ _ _ w => lv_pop G.1 G.2.1 hd hc w) k
theorem j_dup2 (G : GO E X own cc n ret) {v w : Value} (hd : decode cc pc = .ok (.dup2, 1)) (hc : v.category = 1) (hc2 : w.category = 1) (k : JJ E X d post n (pc + 1) ls (v :: w :: v :: w :: st) μ) : JJ E X d post n pc ls (v :: w :: st) μ := j_go (fun _ _ _ _ _ q => lv_dup2_11 G.1 G.2.1 hd hc hc2 q) k
theorem j_goto (G : GO E X own cc n ret) {off : Int} {tgt : Nat} (hd : decode cc pc = .ok (.goto off, 3)) (ht : (pc : Int) + off = (tgt : Int)) (k : JJ E X d post n tgt ls st μ) : JJ E X d post n pc ls st μ := j_go (fun _ _ _ _ _ w => lv_goto G.1 G.2.1 hd ht w) k
end JR
end
section
section JS
variable {E : EE} {X : XX} {d n pc : Nat} {post : Pst} {ls : List (Option Value)} {st : List Value} {μ : MemT} {own : String} {cc : ByteArray} {ret : Option FieldType}
theorem j_icmp_lt (G : GO E X own cc n ret) {x y off : Int} {tgt : Nat} (hd : decode cc pc = .ok (.if_icmp .lt off, 3)) (ht : (pc : Int) + off = (tgt : Int)) (hx : -2147483648 ≤ x ∧ x < 2147483648) (hy : -2147483648 ≤ y ∧ y < 2147483648) (kt : x < y → JJ E X d post n tgt ls st μ) (kf : y ≤ x → JJ E X d post n (pc + 3) ls st μ) : JJ E X d post n pc ls (iv y :: iv x :: st) μ := by
  intro ho H locs la hP hS hl
  have kt2 := fun q => kt q ho H locs la hP hS hl
  have kf2 := fun q => kf q ho H locs la hP hS hl
  clear kt kf
  generalize MQ X.2.2.2.2.2.1 (Qq E post) X.2.2.2.2.1 X.2.2.1 0 0 (Reg E) = Q at kt2 kf2 ⊢
  have kt := kt2
  have kf := kf2
  exact lv_icmp_lt G.1 G.2.1 hd ht (fun q => kt ((ofI_lt hx hy).mp q)) (fun q => kf (Int.not_lt.mp (fun e => q ((ofI_lt hx hy).mpr e))))
theorem j_if_lt (G : GO E X own cc n ret) {x off : Int} {tgt : Nat} (hd : decode cc pc = .ok (.ifCond .lt off, 3)) (ht : (pc : Int) + off = (tgt : Int)) (hx : -2147483648 ≤ x ∧ x < 2147483648) (kt : x < 0 → JJ E X d post n tgt ls st μ) (kf : 0 ≤ x → JJ E X d post n (pc + 3) ls st μ) : JJ E X d post n pc ls (iv x :: st) μ := by
  intro ho H locs la hP hS hl
  have hy : -2147483648 ≤ (0 : Int) ∧ (0 : Int) < 2147483648 := by decide
  have kt2 := fun q => kt q ho H locs la hP hS hl
  have kf2 := fun q => kf q ho H locs la hP hS hl
  clear kt kf
  generalize MQ X.2.2.2.2.2.1 (Qq E post) X.2.2.2.2.1 X.2.2.1 0 0 (Reg E) = Q at kt2 kf2 ⊢
  have kt := kt2
  have kf := kf2
  exact lv_if_lt G.1 G.2.1 hd ht (fun q => kt ((ofI_lt hx hy).mp q)) (fun q => kf (Int.not_lt.mp (fun e => q ((ofI_lt hx hy).mpr e))))
theorem j_icmp_ge (G : GO E X own cc n ret) {x y off : Int} {tgt : Nat} (hd : decode cc pc = .ok (.if_icmp .ge off, 3)) (ht : (pc : Int) + off = (tgt : Int)) (hx : -2147483648 ≤ x ∧ x < 2147483648) (hy : -2147483648 ≤ y ∧ y < 2147483648) (kt : y ≤ x → JJ E X d post n tgt ls st μ) (kf : x < y → JJ E X d post n (pc + 3) ls st μ) : JJ E X d post n pc ls (iv y :: iv x :: st) μ := by
  intro ho H locs la hP hS hl
  have kt2 := fun q => kt q ho H locs la hP hS hl
  have kf2 := fun q => kf q ho H locs la hP hS hl
  clear kt kf
  generalize MQ X.2.2.2.2.2.1 (Qq E post) X.2.2.2.2.1 X.2.2.1 0 0 (Reg E) = Q at kt2 kf2 ⊢
  have kt := kt2
  have kf := kf2
  exact lv_icmp_ge G.1 G.2.1 hd ht (fun q => kt ((ofI_le hy hx).mp q)) (fun q => kf (Int.not_le.mp (fun e => q ((ofI_le hy hx).mpr e))))
theorem j_if_ge (G : GO E X own cc n ret) {x off : Int} {tgt : Nat} (hd : decode cc pc = .ok (.ifCond .ge off, 3)) (ht : (pc : Int) + off = (tgt : Int)) (hx : -2147483648 ≤ x ∧ x < 2147483648) (kt : 0 ≤ x → JJ E X d post n tgt ls st μ) (kf : x < 0 → JJ E X d post n (pc + 3) ls st μ) : JJ E X d post n pc ls (iv x :: st) μ := by
  intro ho H locs la hP hS hl
  have hy : -2147483648 ≤ (0 : Int) ∧ (0 : Int) < 2147483648 := by decide
  have kt2 := fun q => kt q ho H locs la hP hS hl
  have kf2 := fun q => kf q ho H locs la hP hS hl
  clear kt kf
  generalize MQ X.2.2.2.2.2.1 (Qq E post) X.2.2.2.2.1 X.2.2.1 0 0 (Reg E) = Q at kt2 kf2 ⊢
  have kt := kt2
  have kf := kf2
  exact lv_if_ge G.1 G.2.1 hd ht (fun q => kt ((ofI_le hy hx).mp q)) (fun q => kf (Int.not_le.mp (fun e => q ((ofI_le hy hx).mpr e))))
theorem j_icmp_gt (G : GO E X own cc n ret) {x y off : Int} {tgt : Nat} (hd : decode cc pc = .ok (.if_icmp .gt off, 3)) (ht : (pc : Int) + off = (tgt : Int)) (hx : -2147483648 ≤ x ∧ x < 2147483648) (hy : -2147483648 ≤ y ∧ y < 2147483648) (kt : y < x → JJ E X d post n tgt ls st μ) (kf : x ≤ y → JJ E X d post n (pc + 3) ls st μ) : JJ E X d post n pc ls (iv y :: iv x :: st) μ := by
  intro ho H locs la hP hS hl
  have kt2 := fun q => kt q ho H locs la hP hS hl
  have kf2 := fun q => kf q ho H locs la hP hS hl
  clear kt kf
  generalize MQ X.2.2.2.2.2.1 (Qq E post) X.2.2.2.2.1 X.2.2.1 0 0 (Reg E) = Q at kt2 kf2 ⊢
  have kt := kt2
  have kf := kf2
  exact lv_icmp_gt G.1 G.2.1 hd ht (fun q => kt ((ofI_lt hy hx).mp q)) (fun q => kf (Int.not_lt.mp (fun e => q ((ofI_lt hy hx).mpr e))))
theorem j_if_gt (G : GO E X own cc n ret) {x off : Int} {tgt : Nat} (hd : decode cc pc = .ok (.ifCond .gt off, 3)) (ht : (pc : Int) + off = (tgt : Int)) (hx : -2147483648 ≤ x ∧ x < 2147483648) (kt : 0 < x → JJ E X d post n tgt ls st μ) (kf : x ≤ 0 → JJ E X d post n (pc + 3) ls st μ) : JJ E X d post n pc ls (iv x :: st) μ := by
  intro ho H locs la hP hS hl
  have hy : -2147483648 ≤ (0 : Int) ∧ (0 : Int) < 2147483648 := by decide
  have kt2 := fun q => kt q ho H locs la hP hS hl
  have kf2 := fun q => kf q ho H locs la hP hS hl
  clear kt kf
  generalize MQ X.2.2.2.2.2.1 (Qq E post) X.2.2.2.2.1 X.2.2.1 0 0 (Reg E) = Q at kt2 kf2 ⊢
  have kt := kt2
  have kf := kf2
  exact lv_if_gt G.1 G.2.1 hd ht (fun q => kt ((ofI_lt hy hx).mp q)) (fun q => kf (Int.not_lt.mp (fun e => q ((ofI_lt hy hx).mpr e))))
theorem j_icmp_le (G : GO E X own cc n ret) {x y off : Int} {tgt : Nat} (hd : decode cc pc = .ok (.if_icmp .le off, 3)) (ht : (pc : Int) + off = (tgt : Int)) (hx : -2147483648 ≤ x ∧ x < 2147483648) (hy : -2147483648 ≤ y ∧ y < 2147483648) (kt : x ≤ y → JJ E X d post n tgt ls st μ) (kf : y < x → JJ E X d post n (pc + 3) ls st μ) : JJ E X d post n pc ls (iv y :: iv x :: st) μ := by
  intro ho H locs la hP hS hl
  have kt2 := fun q => kt q ho H locs la hP hS hl
  have kf2 := fun q => kf q ho H locs la hP hS hl
  clear kt kf
  generalize MQ X.2.2.2.2.2.1 (Qq E post) X.2.2.2.2.1 X.2.2.1 0 0 (Reg E) = Q at kt2 kf2 ⊢
  have kt := kt2
  have kf := kf2
  exact lv_icmp_le G.1 G.2.1 hd ht (fun q => kt ((ofI_le hx hy).mp q)) (fun q => kf (Int.not_le.mp (fun e => q ((ofI_le hx hy).mpr e))))
theorem j_if_le (G : GO E X own cc n ret) {x off : Int} {tgt : Nat} (hd : decode cc pc = .ok (.ifCond .le off, 3)) (ht : (pc : Int) + off = (tgt : Int)) (hx : -2147483648 ≤ x ∧ x < 2147483648) (kt : x ≤ 0 → JJ E X d post n tgt ls st μ) (kf : 0 < x → JJ E X d post n (pc + 3) ls st μ) : JJ E X d post n pc ls (iv x :: st) μ := by
  intro ho H locs la hP hS hl
  have hy : -2147483648 ≤ (0 : Int) ∧ (0 : Int) < 2147483648 := by decide
  have kt2 := fun q => kt q ho H locs la hP hS hl
  have kf2 := fun q => kf q ho H locs la hP hS hl
  clear kt kf
  generalize MQ X.2.2.2.2.2.1 (Qq E post) X.2.2.2.2.1 X.2.2.1 0 0 (Reg E) = Q at kt2 kf2 ⊢
  have kt := kt2
  have kf := kf2
  exact lv_if_le G.1 G.2.1 hd ht (fun q => kt ((ofI_le hx hy).mp q)) (fun q => kf (Int.not_le.mp (fun e => q ((ofI_le hx hy).mpr e))))
theorem j_icmp_eq (G : GO E X own cc n ret) {x y off : Int} {tgt : Nat} (hd : decode cc pc = .ok (.if_icmp .eq off, 3)) (ht : (pc : Int) + off = (tgt : Int)) (hx : -2147483648 ≤ x ∧ x < 2147483648) (hy : -2147483648 ≤ y ∧ y < 2147483648) (kt : x = y → JJ E X d post n tgt ls st μ) (kf : x ≠ y → JJ E X d post n (pc + 3) ls st μ) : JJ E X d post n pc ls (iv y :: iv x :: st) μ := by
  intro ho H locs la hP hS hl
  have kt2 := fun q => kt q ho H locs la hP hS hl
  have kf2 := fun q => kf q ho H locs la hP hS hl
  clear kt kf
  generalize MQ X.2.2.2.2.2.1 (Qq E post) X.2.2.2.2.1 X.2.2.1 0 0 (Reg E) = Q at kt2 kf2 ⊢
  have kt := kt2
  have kf := kf2
  exact lv_icmp_eq G.1 G.2.1 hd ht (fun q => kt ((ofI_inj hx hy).mp q)) (fun q => kf (id (fun e => q ((ofI_inj hx hy).mpr e))))
theorem j_if_eq (G : GO E X own cc n ret) {x off : Int} {tgt : Nat} (hd : decode cc pc = .ok (.ifCond .eq off, 3)) (ht : (pc : Int) + off = (tgt : Int)) (hx : -2147483648 ≤ x ∧ x < 2147483648) (kt : x = 0 → JJ E X d post n tgt ls st μ) (kf : x ≠ 0 → JJ E X d post n (pc + 3) ls st μ) : JJ E X d post n pc ls (iv x :: st) μ := by
  intro ho H locs la hP hS hl
  have hy : -2147483648 ≤ (0 : Int) ∧ (0 : Int) < 2147483648 := by decide
  have kt2 := fun q => kt q ho H locs la hP hS hl
  have kf2 := fun q => kf q ho H locs la hP hS hl
  clear kt kf
  generalize MQ X.2.2.2.2.2.1 (Qq E post) X.2.2.2.2.1 X.2.2.1 0 0 (Reg E) = Q at kt2 kf2 ⊢
  have kt := kt2
  have kf := kf2
  exact lv_if_eq G.1 G.2.1 hd ht (fun q => kt ((ofI_inj hx hy).mp q)) (fun q => kf (id (fun e => q ((ofI_inj hx hy).mpr e))))
theorem j_icmp_ne (G : GO E X own cc n ret) {x y off : Int} {tgt : Nat} (hd : decode cc pc = .ok (.if_icmp .ne off, 3)) (ht : (pc : Int) + off = (tgt : Int)) (hx : -2147483648 ≤ x ∧ x < 2147483648) (hy : -2147483648 ≤ y ∧ y < 2147483648) (kt : x ≠ y → JJ E X d post n tgt ls st μ) (kf : x = y → JJ E X d post n (pc + 3) ls st μ) : JJ E X d post n pc ls (iv y :: iv x :: st) μ := by
  intro ho H locs la hP hS hl
  have kt2 := fun q => kt q ho H locs la hP hS hl
  have kf2 := fun q => kf q ho H locs la hP hS hl
  clear kt kf
  generalize MQ X.2.2.2.2.2.1 (Qq E post) X.2.2.2.2.1 X.2.2.1 0 0 (Reg E) = Q at kt2 kf2 ⊢
  have kt := kt2
  have kf := kf2
  exact lv_icmp_ne G.1 G.2.1 hd ht (fun q => kt (fun e => q ((ofI_inj hx hy).mpr e))) (fun q => kf ((ofI_inj hx hy).mp q))
theorem j_if_ne (G : GO E X own cc n ret) {x off : Int} {tgt : Nat} (hd : decode cc pc = .ok (.ifCond .ne off, 3)) (ht : (pc : Int) + off = (tgt : Int)) (hx : -2147483648 ≤ x ∧ x < 2147483648) (kt : x ≠ 0 → JJ E X d post n tgt ls st μ) (kf : x = 0 → JJ E X d post n (pc + 3) ls st μ) : JJ E X d post n pc ls (iv x :: st) μ := by
  intro ho H locs la hP hS hl
  have hy : -2147483648 ≤ (0 : Int) ∧ (0 : Int) < 2147483648 := by decide
  have kt2 := fun q => kt q ho H locs la hP hS hl
  have kf2 := fun q => kf q ho H locs la hP hS hl
  clear kt kf
  generalize MQ X.2.2.2.2.2.1 (Qq E post) X.2.2.2.2.1 X.2.2.1 0 0 (Reg E) = Q at kt2 kf2 ⊢
  have kt := kt2
  have kf := kf2
  exact lv_if_ne G.1 G.2.1 hd ht (fun q => kt (fun e => q ((ofI_inj hx hy).mpr e))) (fun q => kf ((ofI_inj hx hy).mp q))
theorem j_ifnull (G : GO E X own cc n ret) {k : Nat} {off : Int} (hd : decode cc pc = .ok (.ifnull off, 3)) (kk : JJ E X d post n (pc + 3) ls st μ) : JJ E X d post n pc ls (rf E k :: st) μ := j_go (fun _ _ _ _ _ w => lv_ifnull G.1 G.2.1 hd w) kk
theorem j_ifnullN (G : GO E X own cc n ret) {off : Int} {tgt : Nat} (hd : decode cc pc = .ok (.ifnull off, 3)) (ht : (pc : Int) + off = (tgt : Int)) (kk : JJ E X d post n tgt ls st μ) : JJ E X d post n pc ls (.null :: st) μ := j_go (fun _ _ _ _ _ w => lv_ifnullN G.1 G.2.1 hd ht w) kk
theorem j_ifnonnull (G : GO E X own cc n ret) {k : Nat} {off : Int} {tgt : Nat} (hd : decode cc pc = .ok (.ifnonnull off, 3)) (ht : (pc : Int) + off = (tgt : Int)) (kk : JJ E X d post n tgt ls st μ) : JJ E X d post n pc ls (rf E k :: st) μ := j_go (fun _ _ _ _ _ w => lv_ifnonnull G.1 G.2.1 hd ht w) kk
theorem j_ifnonnullN (G : GO E X own cc n ret) {off : Int} (hd : decode cc pc = .ok (.ifnonnull off, 3)) (kk : JJ E X d post n (pc + 3) ls st μ) : JJ E X d post n pc ls (.null :: st) μ := j_go (fun _ _ _ _ _ w => lv_ifnonnullN G.1 G.2.1 hd w) kk
theorem j_tableOut (G : GO E X own cc n ret) {dflt lo hi x : Int} {offs : Array Int} {len tgt : Nat} (hd : decode cc pc = .ok (.tableswitch dflt lo hi offs, len)) (hx : -2147483648 ≤ x ∧ x < 2147483648) (h : x < lo ∨ hi < x) (ht : (pc : Int) + dflt = (tgt : Int)) (kk : JJ E X d post n tgt ls st μ) : JJ E X d post n pc ls (iv x :: st) μ := j_go (fun _ _ _ _ _ w => lv_tableOut G.1 G.2.1 hd (by rw [ofI_toInt hx]; exact h) ht w) kk
theorem j_tableIn (G : GO E X own cc n ret) {dflt lo hi x off : Int} {offs : Array Int} {len tgt : Nat} (hd : decode cc pc = .ok (.tableswitch dflt lo hi offs, len)) (hx : -2147483648 ≤ x ∧ x < 2147483648) (h : lo ≤ x ∧ x ≤ hi) (ho : offs[(x - lo).toNat]? = some off) (ht : (pc : Int) + off = (tgt : Int)) (kk : JJ E X d post n tgt ls st μ) : JJ E X d post n pc ls (iv x :: st) μ := j_go (fun _ _ _ _ _ w => lv_tableIn G.1 G.2.1 hd (by rw [ofI_toInt hx]; omega) (by rw [ofI_toInt hx]; omega) (by rw [ofI_toInt hx]; exact ho) ht w) kk
theorem j_lookup (G : GO E X own cc n ret) {dflt x off : Int} {ps : Array (Int × Int)} {len tgt : Nat} (hd : decode cc pc = .ok (.lookupswitch dflt ps, len)) (hx : -2147483648 ≤ x ∧ x < 2147483648) (hp : (ps.toList.zip (ps.toList.drop 1)).all (fun (a, next) => a.1 < next.1) = true) (ho : Op.lookupswitch.offset ps.toList dflt x = off) (ht : (pc : Int) + off = (tgt : Int)) (kk : JJ E X d post n tgt ls st μ) : JJ E X d post n pc ls (iv x :: st) μ := j_go (fun _ _ _ _ _ w => lv_lookup G.1 G.2.1 hd hp (by rw [ofI_toInt hx]; exact ho) ht w) kk
theorem j_lcmp (G : GO E X own cc n ret) {x y : Int64} (hd : decode cc pc = .ok (.lcmp, 1)) (kk : JJ E X d post n (pc + 1) ls (iv (lg_cmp x y).toInt :: st) μ) : JJ E X d post n pc ls (.long y :: .long x :: st) μ := j_go (fun _ _ _ _ _ w => W.lcmp G.1 G.2.1 hd (by rw [iv_toInt] at w; exact w)) kk
theorem j_lor (G : GO E X own cc n ret) {x y : Int64} (hd : decode cc pc = .ok (.lor, 1)) (kk : JJ E X d post n (pc + 1) ls (.long (x ||| y) :: st) μ) : JJ E X d post n pc ls (.long y :: .long x :: st) μ := j_go (fun _ _ _ _ _ w => lv_lor G.1 G.2.1 hd w) kk
theorem j_land (G : GO E X own cc n ret) {x y : Int64} (hd : decode cc pc = .ok (.land, 1)) (kk : JJ E X d post n (pc + 1) ls (.long (x &&& y) :: st) μ) : JJ E X d post n pc ls (.long y :: .long x :: st) μ := j_go (fun _ _ _ _ _ w => lv_land G.1 G.2.1 hd w) kk
theorem j_lshl (G : GO E X own cc n ret) {x : Int64} {y : Int} (hd : decode cc pc = .ok (.lshl, 1)) (kk : JJ E X d post n (pc + 1) ls (.long (x <<< ((Int32.ofInt y).toInt64 &&& 63)) :: st) μ) : JJ E X d post n pc ls (iv y :: .long x :: st) μ := j_go (fun _ _ _ _ _ w => lv_lshl G.1 G.2.1 hd rfl w) kk
theorem j_lshr (G : GO E X own cc n ret) {x : Int64} {y : Int} (hd : decode cc pc = .ok (.lshr, 1)) (kk : JJ E X d post n (pc + 1) ls (.long (x >>> ((Int32.ofInt y).toInt64 &&& 63)) :: st) μ) : JJ E X d post n pc ls (iv y :: .long x :: st) μ := j_go (fun _ _ _ _ _ w => lv_lshr G.1 G.2.1 hd rfl w) kk
theorem j_lushr (G : GO E X own cc n ret) {x : Int64} {y : Int} (hd : decode cc pc = .ok (.lushr, 1)) (kk : JJ E X d post n (pc + 1) ls (.long ((x.toUInt64 >>> ((Int32.ofInt y).toInt64.toUInt64 &&& Int64.toUInt64 63)).toInt64) :: st) μ) : JJ E X d post n pc ls (iv y :: .long x :: st) μ := j_go (fun _ _ _ _ _ w => lv_lushr G.1 G.2.1 hd rfl w) kk
theorem j_l2i (G : GO E X own cc n ret) {x : Int64} (hd : decode cc pc = .ok (.l2i, 1)) (kk : JJ E X d post n (pc + 1) ls (iv x.toInt32.toInt :: st) μ) : JJ E X d post n pc ls (.long x :: st) μ := j_go (fun _ _ _ _ _ w => lv_l2i G.1 G.2.1 hd rfl (by rw [iv_toInt] at w; exact w)) kk
theorem j_iushr (G : GO E X own cc n ret) {x y : Int} (hd : decode cc pc = .ok (.iushr, 1)) (kk : JJ E X d post n (pc + 1) ls (iv (((Int32.ofInt x).toUInt32 >>> ((Int32.ofInt y).toUInt32 &&& Int32.toUInt32 31)).toInt32).toInt :: st) μ) : JJ E X d post n pc ls (iv y :: iv x :: st) μ := j_go (fun _ _ _ _ _ w => lv_iushr G.1 G.2.1 hd rfl (by rw [iv_toInt] at w; exact w)) kk
def prs (ls : List (Option Value)) : List (Nat × Value) := ls.zipIdx.filterMap (fun x => x.1.map (fun v => (x.2, v)))
theorem mem_prs {ls : List (Option Value)} {i : Nat} {v : Value} : (i, v) ∈ prs ls ↔ ls[i]? = some (some v) := by
  unfold prs
  rw [List.mem_filterMap]
  constructor
  · rintro ⟨⟨o, j⟩, h1, h2⟩
    have h3 := List.mem_zipIdx_iff_getElem?.mp h1
    cases o with
    | none => cases h2
    | some w => cases h2; exact h3
  · intro h
    exact ⟨(some v, i), List.mem_zipIdx_iff_getElem?.mpr h, rfl⟩
theorem lh_has {la : Array Slot} (h : lh la n ls) : lv_has la n (prs ls) := ⟨h.1, h.2.1, fun q hq => h.2.2 q.1 q.2 (mem_prs.mp hq)⟩
def okS (ls : List (Option Value)) (i : Nat) : Bool := match i with
  | 0 => true
  | i + 1 => match ls[i]? with
    | some (some w) => w.category == 1
    | _ => true
theorem lh_store {la : Array Slot} {i : Nat} {v : Value} (ok : okS ls i = true) (h : lv_has la n ((i, v) :: (prs ls).filter (fun q => !(q.1 == i) && !(q.1 + 1 == i && q.2.category == 2)))) : lh la n (ls.set i (some v)) := by
  refine ⟨h.1, h.2.1, fun j w hj => ?_⟩
  by_cases e : j = i
  · subst e
    have hlt : j < ls.length := by
      have := (List.getElem?_eq_some_iff.mp hj).1
      rwa [List.length_set] at this
    rw [List.getElem?_set_self hlt] at hj
    have hj := Option.some.inj (Option.some.inj hj)
    subst hj
    exact h.2.2 (j, v) List.mem_cons_self
  · rw [List.getElem?_set_ne (fun q => e q.symm)] at hj
    refine h.2.2 (j, w) (List.mem_cons_of_mem _ (List.mem_filter.mpr ⟨mem_prs.mpr hj, ?_⟩))
    by_cases e2 : j + 1 = i
    · subst e2
      have ok2 : (w.category == 1) = true := by
        unfold okS at ok
        simp only [hj] at ok
        exact ok
      have : w.category = 1 := by simpa using ok2
      simp [this]
    · simp [e, e2]
theorem lh_store2 {la : Array Slot} {i : Nat} {v : Value} (ok : okS ls i = true) (h : lv_has la n ((i, v) :: (prs ls).filter (fun q => !(q.1 == i) && (!(q.1 == i + 1) && !(q.1 + 1 == i && q.2.category == 2))))) : lh la n ((ls.set i (some v)).set (i + 1) none) := by
  refine ⟨h.1, h.2.1, fun j w hj => ?_⟩
  by_cases e1 : j = i + 1
  · subst e1
    by_cases hlt : i + 1 < (ls.set i (some v)).length
    · rw [List.getElem?_set_self hlt] at hj
      cases hj
    · rw [List.getElem?_eq_none (by rw [List.length_set]; omega)] at hj
      cases hj
  · rw [List.getElem?_set_ne (fun q => e1 q.symm)] at hj
    by_cases e : j = i
    · subst e
      have hlt : j < ls.length := by
        have := (List.getElem?_eq_some_iff.mp hj).1
        rwa [List.length_set] at this
      rw [List.getElem?_set_self hlt] at hj
      have hj := Option.some.inj (Option.some.inj hj)
      subst hj
      exact h.2.2 (j, v) List.mem_cons_self
    · rw [List.getElem?_set_ne (fun q => e q.symm)] at hj
      refine h.2.2 (j, w) (List.mem_cons_of_mem _ (List.mem_filter.mpr ⟨mem_prs.mpr hj, ?_⟩))
      by_cases e2 : j + 1 = i
      · subst e2
        have ok2 : (w.category == 1) = true := by
          unfold okS at ok
          simp only [hj] at ok
          exact ok
        have : w.category = 1 := by simpa using ok2
        simp [this]
        omega
      · simp [e, e2, e1]

theorem j_istore_nG (G : GO E X own cc n ret) {i : Fin 4} {z : Int} (hd : decode cc pc = .ok (.istore_n i, 1)) (hn : (i : Nat) < n) (ok : okS ls i = true) (kk : JJ E X d post n (pc + 1) (ls.set i (some (iv z))) st μ) : JJ E X d post n pc ls (iv z :: st) μ := fun ho H locs la hP hS hl => lv_istore_n G.1 G.2.1 hd rfl (lh_has hl) hn rfl (fun la2 h2 => kk ho H locs la2 hP hS (lh_store ok h2))
theorem j_istoreG (G : GO E X own cc n ret) {i : Nat} {z : Int} (hd : decode cc pc = .ok (.istore i, 2)) (hn : i < n) (ok : okS ls i = true) (kk : JJ E X d post n (pc + 2) (ls.set i (some (iv z))) st μ) : JJ E X d post n pc ls (iv z :: st) μ := fun ho H locs la hP hS hl => lv_istore G.1 G.2.1 hd (lh_has hl) hn rfl (fun la2 h2 => kk ho H locs la2 hP hS (lh_store ok h2))
theorem j_astore_nG (G : GO E X own cc n ret) {i : Fin 4} {z : Nat} (hd : decode cc pc = .ok (.astore_n i, 1)) (hn : (i : Nat) < n) (ok : okS ls i = true) (kk : JJ E X d post n (pc + 1) (ls.set i (some (rf E z))) st μ) : JJ E X d post n pc ls (rf E z :: st) μ := fun ho H locs la hP hS hl => lv_astore_n G.1 G.2.1 hd rfl (lh_has hl) hn rfl (fun la2 h2 => kk ho H locs la2 hP hS (lh_store ok h2))
theorem j_astoreG (G : GO E X own cc n ret) {i : Nat} {z : Nat} (hd : decode cc pc = .ok (.astore i, 2)) (hn : i < n) (ok : okS ls i = true) (kk : JJ E X d post n (pc + 2) (ls.set i (some (rf E z))) st μ) : JJ E X d post n pc ls (rf E z :: st) μ := fun ho H locs la hP hS hl => lv_astore G.1 G.2.1 hd (lh_has hl) hn rfl (fun la2 h2 => kk ho H locs la2 hP hS (lh_store ok h2))
theorem j_astore_nGN (G : GO E X own cc n ret) {i : Fin 4}  (hd : decode cc pc = .ok (.astore_n i, 1)) (hn : (i : Nat) < n) (ok : okS ls i = true) (kk : JJ E X d post n (pc + 1) (ls.set i (some (.null))) st μ) : JJ E X d post n pc ls (.null :: st) μ := fun ho H locs la hP hS hl => lv_astore_nN G.1 G.2.1 hd rfl (lh_has hl) hn rfl (fun la2 h2 => kk ho H locs la2 hP hS (lh_store ok h2))
theorem j_astoreGN (G : GO E X own cc n ret) {i : Nat}  (hd : decode cc pc = .ok (.astore i, 2)) (hn : i < n) (ok : okS ls i = true) (kk : JJ E X d post n (pc + 2) (ls.set i (some (.null))) st μ) : JJ E X d post n pc ls (.null :: st) μ := fun ho H locs la hP hS hl => lv_astoreN G.1 G.2.1 hd (lh_has hl) hn rfl (fun la2 h2 => kk ho H locs la2 hP hS (lh_store ok h2))
theorem j_lstore_nG (G : GO E X own cc n ret) {i : Fin 4} {z : Int64} (hd : decode cc pc = .ok (.lstore_n i, 1)) (hn : (i : Nat) + 1 < n) (ok : okS ls i = true) (kk : JJ E X d post n (pc + 1) ((ls.set i (some (.long z))).set (i + 1) none) st μ) : JJ E X d post n pc ls (.long z :: st) μ := fun ho H locs la hP hS hl => lv_lstore_n G.1 G.2.1 hd rfl (lh_has hl) hn rfl (fun la2 h2 => kk ho H locs la2 hP hS (lh_store2 ok h2))
theorem j_lstoreG (G : GO E X own cc n ret) {i : Nat} {z : Int64} (hd : decode cc pc = .ok (.lstore i, 2)) (hn : i + 1 < n) (ok : okS ls i = true) (kk : JJ E X d post n (pc + 2) ((ls.set i (some (.long z))).set (i + 1) none) st μ) : JJ E X d post n pc ls (.long z :: st) μ := fun ho H locs la hP hS hl => lv_lstore G.1 G.2.1 hd (lh_has hl) hn rfl (fun la2 h2 => kk ho H locs la2 hP hS (lh_store2 ok h2))
theorem j_iincG (G : GO E X own cc n ret) {i : Nat} {z c : Int} (hd : decode cc pc = .ok (.iinc i c, 3)) (hn : i < n) (hv : ls[i]? = some (some (iv z))) (ok : okS ls i = true) (kk : JJ E X d post n (pc + 3) (ls.set i (some (iv (z + c)))) st μ) : JJ E X d post n pc ls st μ := fun ho H locs la hP hS hl => by
  obtain ⟨k, hk⟩ := List.getElem?_of_mem (mem_prs.mpr hv)
  exact lv_iinc (k := k) (x := Int32.ofInt z) G.1 G.2.1 hd (lh_has hl) hk (by rw [← Int32.ofInt_add]) hn rfl (fun la2 h2 => kk ho H locs la2 hP hS (lh_store ok h2))

theorem j_istore0 (G : GO E X own cc n ret) {z : Int} {a0 : Option Value} {t : List (Option Value)} (hd : decode cc pc = .ok (.istore_n 0, 1)) (hn : 0 < n) (ok : okS (a0 :: t) 0 = true) (kk : JJ E X d post n (pc + 1) (some (iv z) :: t) st μ) : JJ E X d post n pc (a0 :: t) (iv z :: st) μ := j_istore_nG (i := 0) G hd hn ok kk
theorem j_astore0 (G : GO E X own cc n ret) {z : Nat} {a0 : Option Value} {t : List (Option Value)} (hd : decode cc pc = .ok (.astore_n 0, 1)) (hn : 0 < n) (ok : okS (a0 :: t) 0 = true) (kk : JJ E X d post n (pc + 1) (some (rf E z) :: t) st μ) : JJ E X d post n pc (a0 :: t) (rf E z :: st) μ := j_astore_nG (i := 0) G hd hn ok kk
theorem j_astoreN0 (G : GO E X own cc n ret)  {a0 : Option Value} {t : List (Option Value)} (hd : decode cc pc = .ok (.astore_n 0, 1)) (hn : 0 < n) (ok : okS (a0 :: t) 0 = true) (kk : JJ E X d post n (pc + 1) (some (.null) :: t) st μ) : JJ E X d post n pc (a0 :: t) (.null :: st) μ := j_astore_nGN (i := 0) G hd hn ok kk
theorem j_iinc0 (G : GO E X own cc n ret) {z c : Int} {a0 : Option Value} {t : List (Option Value)} (hd : decode cc pc = .ok (.iinc 0 c, 3)) (hn : 0 < n) (ha : a0 = some (iv z)) (ok : okS (a0 :: t) 0 = true) (kk : JJ E X d post n (pc + 3) (some (iv (z + c)) :: t) st μ) : JJ E X d post n pc (a0 :: t) st μ := j_iincG (i := 0) G hd hn (by rw [ha]; rfl) ok kk
theorem j_lstore0 (G : GO E X own cc n ret) {z : Int64} {a0 a1 : Option Value} {t : List (Option Value)} (hd : decode cc pc = .ok (.lstore_n 0, 1)) (hn : 1 < n) (ok : okS (a0 :: a1 :: t) 0 = true) (kk : JJ E X d post n (pc + 1) (some (.long z) :: none :: t) st μ) : JJ E X d post n pc (a0 :: a1 :: t) (.long z :: st) μ := j_lstore_nG (i := 0) G hd hn ok kk
theorem j_istore1 (G : GO E X own cc n ret) {z : Int} {a0 a1 : Option Value} {t : List (Option Value)} (hd : decode cc pc = .ok (.istore_n 1, 1)) (hn : 1 < n) (ok : okS (a0 :: a1 :: t) 1 = true) (kk : JJ E X d post n (pc + 1) (a0 :: some (iv z) :: t) st μ) : JJ E X d post n pc (a0 :: a1 :: t) (iv z :: st) μ := j_istore_nG (i := 1) G hd hn ok kk
theorem j_astore1 (G : GO E X own cc n ret) {z : Nat} {a0 a1 : Option Value} {t : List (Option Value)} (hd : decode cc pc = .ok (.astore_n 1, 1)) (hn : 1 < n) (ok : okS (a0 :: a1 :: t) 1 = true) (kk : JJ E X d post n (pc + 1) (a0 :: some (rf E z) :: t) st μ) : JJ E X d post n pc (a0 :: a1 :: t) (rf E z :: st) μ := j_astore_nG (i := 1) G hd hn ok kk
theorem j_astoreN1 (G : GO E X own cc n ret)  {a0 a1 : Option Value} {t : List (Option Value)} (hd : decode cc pc = .ok (.astore_n 1, 1)) (hn : 1 < n) (ok : okS (a0 :: a1 :: t) 1 = true) (kk : JJ E X d post n (pc + 1) (a0 :: some (.null) :: t) st μ) : JJ E X d post n pc (a0 :: a1 :: t) (.null :: st) μ := j_astore_nGN (i := 1) G hd hn ok kk
theorem j_iinc1 (G : GO E X own cc n ret) {z c : Int} {a0 a1 : Option Value} {t : List (Option Value)} (hd : decode cc pc = .ok (.iinc 1 c, 3)) (hn : 1 < n) (ha : a1 = some (iv z)) (ok : okS (a0 :: a1 :: t) 1 = true) (kk : JJ E X d post n (pc + 3) (a0 :: some (iv (z + c)) :: t) st μ) : JJ E X d post n pc (a0 :: a1 :: t) st μ := j_iincG (i := 1) G hd hn (by rw [ha]; rfl) ok kk
theorem j_lstore1 (G : GO E X own cc n ret) {z : Int64} {a0 a1 a2 : Option Value} {t : List (Option Value)} (hd : decode cc pc = .ok (.lstore_n 1, 1)) (hn : 2 < n) (ok : okS (a0 :: a1 :: a2 :: t) 1 = true) (kk : JJ E X d post n (pc + 1) (a0 :: some (.long z) :: none :: t) st μ) : JJ E X d post n pc (a0 :: a1 :: a2 :: t) (.long z :: st) μ := j_lstore_nG (i := 1) G hd hn ok kk
theorem j_istore2 (G : GO E X own cc n ret) {z : Int} {a0 a1 a2 : Option Value} {t : List (Option Value)} (hd : decode cc pc = .ok (.istore_n 2, 1)) (hn : 2 < n) (ok : okS (a0 :: a1 :: a2 :: t) 2 = true) (kk : JJ E X d post n (pc + 1) (a0 :: a1 :: some (iv z) :: t) st μ) : JJ E X d post n pc (a0 :: a1 :: a2 :: t) (iv z :: st) μ := j_istore_nG (i := 2) G hd hn ok kk
theorem j_astore2 (G : GO E X own cc n ret) {z : Nat} {a0 a1 a2 : Option Value} {t : List (Option Value)} (hd : decode cc pc = .ok (.astore_n 2, 1)) (hn : 2 < n) (ok : okS (a0 :: a1 :: a2 :: t) 2 = true) (kk : JJ E X d post n (pc + 1) (a0 :: a1 :: some (rf E z) :: t) st μ) : JJ E X d post n pc (a0 :: a1 :: a2 :: t) (rf E z :: st) μ := j_astore_nG (i := 2) G hd hn ok kk
theorem j_astoreN2 (G : GO E X own cc n ret)  {a0 a1 a2 : Option Value} {t : List (Option Value)} (hd : decode cc pc = .ok (.astore_n 2, 1)) (hn : 2 < n) (ok : okS (a0 :: a1 :: a2 :: t) 2 = true) (kk : JJ E X d post n (pc + 1) (a0 :: a1 :: some (.null) :: t) st μ) : JJ E X d post n pc (a0 :: a1 :: a2 :: t) (.null :: st) μ := j_astore_nGN (i := 2) G hd hn ok kk
theorem j_iinc2 (G : GO E X own cc n ret) {z c : Int} {a0 a1 a2 : Option Value} {t : List (Option Value)} (hd : decode cc pc = .ok (.iinc 2 c, 3)) (hn : 2 < n) (ha : a2 = some (iv z)) (ok : okS (a0 :: a1 :: a2 :: t) 2 = true) (kk : JJ E X d post n (pc + 3) (a0 :: a1 :: some (iv (z + c)) :: t) st μ) : JJ E X d post n pc (a0 :: a1 :: a2 :: t) st μ := j_iincG (i := 2) G hd hn (by rw [ha]; rfl) ok kk
theorem j_lstore2 (G : GO E X own cc n ret) {z : Int64} {a0 a1 a2 a3 : Option Value} {t : List (Option Value)} (hd : decode cc pc = .ok (.lstore_n 2, 1)) (hn : 3 < n) (ok : okS (a0 :: a1 :: a2 :: a3 :: t) 2 = true) (kk : JJ E X d post n (pc + 1) (a0 :: a1 :: some (.long z) :: none :: t) st μ) : JJ E X d post n pc (a0 :: a1 :: a2 :: a3 :: t) (.long z :: st) μ := j_lstore_nG (i := 2) G hd hn ok kk
theorem j_istore3 (G : GO E X own cc n ret) {z : Int} {a0 a1 a2 a3 : Option Value} {t : List (Option Value)} (hd : decode cc pc = .ok (.istore_n 3, 1)) (hn : 3 < n) (ok : okS (a0 :: a1 :: a2 :: a3 :: t) 3 = true) (kk : JJ E X d post n (pc + 1) (a0 :: a1 :: a2 :: some (iv z) :: t) st μ) : JJ E X d post n pc (a0 :: a1 :: a2 :: a3 :: t) (iv z :: st) μ := j_istore_nG (i := 3) G hd hn ok kk
theorem j_astore3 (G : GO E X own cc n ret) {z : Nat} {a0 a1 a2 a3 : Option Value} {t : List (Option Value)} (hd : decode cc pc = .ok (.astore_n 3, 1)) (hn : 3 < n) (ok : okS (a0 :: a1 :: a2 :: a3 :: t) 3 = true) (kk : JJ E X d post n (pc + 1) (a0 :: a1 :: a2 :: some (rf E z) :: t) st μ) : JJ E X d post n pc (a0 :: a1 :: a2 :: a3 :: t) (rf E z :: st) μ := j_astore_nG (i := 3) G hd hn ok kk
theorem j_astoreN3 (G : GO E X own cc n ret)  {a0 a1 a2 a3 : Option Value} {t : List (Option Value)} (hd : decode cc pc = .ok (.astore_n 3, 1)) (hn : 3 < n) (ok : okS (a0 :: a1 :: a2 :: a3 :: t) 3 = true) (kk : JJ E X d post n (pc + 1) (a0 :: a1 :: a2 :: some (.null) :: t) st μ) : JJ E X d post n pc (a0 :: a1 :: a2 :: a3 :: t) (.null :: st) μ := j_astore_nGN (i := 3) G hd hn ok kk
theorem j_iinc3 (G : GO E X own cc n ret) {z c : Int} {a0 a1 a2 a3 : Option Value} {t : List (Option Value)} (hd : decode cc pc = .ok (.iinc 3 c, 3)) (hn : 3 < n) (ha : a3 = some (iv z)) (ok : okS (a0 :: a1 :: a2 :: a3 :: t) 3 = true) (kk : JJ E X d post n (pc + 3) (a0 :: a1 :: a2 :: some (iv (z + c)) :: t) st μ) : JJ E X d post n pc (a0 :: a1 :: a2 :: a3 :: t) st μ := j_iincG (i := 3) G hd hn (by rw [ha]; rfl) ok kk
theorem j_lstore3 (G : GO E X own cc n ret) {z : Int64} {a0 a1 a2 a3 a4 : Option Value} {t : List (Option Value)} (hd : decode cc pc = .ok (.lstore_n 3, 1)) (hn : 4 < n) (ok : okS (a0 :: a1 :: a2 :: a3 :: a4 :: t) 3 = true) (kk : JJ E X d post n (pc + 1) (a0 :: a1 :: a2 :: some (.long z) :: none :: t) st μ) : JJ E X d post n pc (a0 :: a1 :: a2 :: a3 :: a4 :: t) (.long z :: st) μ := j_lstore_nG (i := 3) G hd hn ok kk
theorem j_istore4 (G : GO E X own cc n ret) {z : Int} {a0 a1 a2 a3 a4 : Option Value} {t : List (Option Value)} (hd : decode cc pc = .ok (.istore 4, 2)) (hn : 4 < n) (ok : okS (a0 :: a1 :: a2 :: a3 :: a4 :: t) 4 = true) (kk : JJ E X d post n (pc + 2) (a0 :: a1 :: a2 :: a3 :: some (iv z) :: t) st μ) : JJ E X d post n pc (a0 :: a1 :: a2 :: a3 :: a4 :: t) (iv z :: st) μ := j_istoreG (i := 4) G hd hn ok kk
theorem j_astore4 (G : GO E X own cc n ret) {z : Nat} {a0 a1 a2 a3 a4 : Option Value} {t : List (Option Value)} (hd : decode cc pc = .ok (.astore 4, 2)) (hn : 4 < n) (ok : okS (a0 :: a1 :: a2 :: a3 :: a4 :: t) 4 = true) (kk : JJ E X d post n (pc + 2) (a0 :: a1 :: a2 :: a3 :: some (rf E z) :: t) st μ) : JJ E X d post n pc (a0 :: a1 :: a2 :: a3 :: a4 :: t) (rf E z :: st) μ := j_astoreG (i := 4) G hd hn ok kk
theorem j_astoreN4 (G : GO E X own cc n ret)  {a0 a1 a2 a3 a4 : Option Value} {t : List (Option Value)} (hd : decode cc pc = .ok (.astore 4, 2)) (hn : 4 < n) (ok : okS (a0 :: a1 :: a2 :: a3 :: a4 :: t) 4 = true) (kk : JJ E X d post n (pc + 2) (a0 :: a1 :: a2 :: a3 :: some (.null) :: t) st μ) : JJ E X d post n pc (a0 :: a1 :: a2 :: a3 :: a4 :: t) (.null :: st) μ := j_astoreGN (i := 4) G hd hn ok kk
theorem j_iinc4 (G : GO E X own cc n ret) {z c : Int} {a0 a1 a2 a3 a4 : Option Value} {t : List (Option Value)} (hd : decode cc pc = .ok (.iinc 4 c, 3)) (hn : 4 < n) (ha : a4 = some (iv z)) (ok : okS (a0 :: a1 :: a2 :: a3 :: a4 :: t) 4 = true) (kk : JJ E X d post n (pc + 3) (a0 :: a1 :: a2 :: a3 :: some (iv (z + c)) :: t) st μ) : JJ E X d post n pc (a0 :: a1 :: a2 :: a3 :: a4 :: t) st μ := j_iincG (i := 4) G hd hn (by rw [ha]; rfl) ok kk
theorem j_lstore4 (G : GO E X own cc n ret) {z : Int64} {a0 a1 a2 a3 a4 a5 : Option Value} {t : List (Option Value)} (hd : decode cc pc = .ok (.lstore 4, 2)) (hn : 5 < n) (ok : okS (a0 :: a1 :: a2 :: a3 :: a4 :: a5 :: t) 4 = true) (kk : JJ E X d post n (pc + 2) (a0 :: a1 :: a2 :: a3 :: some (.long z) :: none :: t) st μ) : JJ E X d post n pc (a0 :: a1 :: a2 :: a3 :: a4 :: a5 :: t) (.long z :: st) μ := j_lstoreG (i := 4) G hd hn ok kk
theorem j_istore5 (G : GO E X own cc n ret) {z : Int} {a0 a1 a2 a3 a4 a5 : Option Value} {t : List (Option Value)} (hd : decode cc pc = .ok (.istore 5, 2)) (hn : 5 < n) (ok : okS (a0 :: a1 :: a2 :: a3 :: a4 :: a5 :: t) 5 = true) (kk : JJ E X d post n (pc + 2) (a0 :: a1 :: a2 :: a3 :: a4 :: some (iv z) :: t) st μ) : JJ E X d post n pc (a0 :: a1 :: a2 :: a3 :: a4 :: a5 :: t) (iv z :: st) μ := j_istoreG (i := 5) G hd hn ok kk
theorem j_astore5 (G : GO E X own cc n ret) {z : Nat} {a0 a1 a2 a3 a4 a5 : Option Value} {t : List (Option Value)} (hd : decode cc pc = .ok (.astore 5, 2)) (hn : 5 < n) (ok : okS (a0 :: a1 :: a2 :: a3 :: a4 :: a5 :: t) 5 = true) (kk : JJ E X d post n (pc + 2) (a0 :: a1 :: a2 :: a3 :: a4 :: some (rf E z) :: t) st μ) : JJ E X d post n pc (a0 :: a1 :: a2 :: a3 :: a4 :: a5 :: t) (rf E z :: st) μ := j_astoreG (i := 5) G hd hn ok kk
theorem j_astoreN5 (G : GO E X own cc n ret)  {a0 a1 a2 a3 a4 a5 : Option Value} {t : List (Option Value)} (hd : decode cc pc = .ok (.astore 5, 2)) (hn : 5 < n) (ok : okS (a0 :: a1 :: a2 :: a3 :: a4 :: a5 :: t) 5 = true) (kk : JJ E X d post n (pc + 2) (a0 :: a1 :: a2 :: a3 :: a4 :: some (.null) :: t) st μ) : JJ E X d post n pc (a0 :: a1 :: a2 :: a3 :: a4 :: a5 :: t) (.null :: st) μ := j_astoreGN (i := 5) G hd hn ok kk
theorem j_iinc5 (G : GO E X own cc n ret) {z c : Int} {a0 a1 a2 a3 a4 a5 : Option Value} {t : List (Option Value)} (hd : decode cc pc = .ok (.iinc 5 c, 3)) (hn : 5 < n) (ha : a5 = some (iv z)) (ok : okS (a0 :: a1 :: a2 :: a3 :: a4 :: a5 :: t) 5 = true) (kk : JJ E X d post n (pc + 3) (a0 :: a1 :: a2 :: a3 :: a4 :: some (iv (z + c)) :: t) st μ) : JJ E X d post n pc (a0 :: a1 :: a2 :: a3 :: a4 :: a5 :: t) st μ := j_iincG (i := 5) G hd hn (by rw [ha]; rfl) ok kk
theorem j_lstore5 (G : GO E X own cc n ret) {z : Int64} {a0 a1 a2 a3 a4 a5 a6 : Option Value} {t : List (Option Value)} (hd : decode cc pc = .ok (.lstore 5, 2)) (hn : 6 < n) (ok : okS (a0 :: a1 :: a2 :: a3 :: a4 :: a5 :: a6 :: t) 5 = true) (kk : JJ E X d post n (pc + 2) (a0 :: a1 :: a2 :: a3 :: a4 :: some (.long z) :: none :: t) st μ) : JJ E X d post n pc (a0 :: a1 :: a2 :: a3 :: a4 :: a5 :: a6 :: t) (.long z :: st) μ := j_lstoreG (i := 5) G hd hn ok kk
theorem j_istore6 (G : GO E X own cc n ret) {z : Int} {a0 a1 a2 a3 a4 a5 a6 : Option Value} {t : List (Option Value)} (hd : decode cc pc = .ok (.istore 6, 2)) (hn : 6 < n) (ok : okS (a0 :: a1 :: a2 :: a3 :: a4 :: a5 :: a6 :: t) 6 = true) (kk : JJ E X d post n (pc + 2) (a0 :: a1 :: a2 :: a3 :: a4 :: a5 :: some (iv z) :: t) st μ) : JJ E X d post n pc (a0 :: a1 :: a2 :: a3 :: a4 :: a5 :: a6 :: t) (iv z :: st) μ := j_istoreG (i := 6) G hd hn ok kk
theorem j_astore6 (G : GO E X own cc n ret) {z : Nat} {a0 a1 a2 a3 a4 a5 a6 : Option Value} {t : List (Option Value)} (hd : decode cc pc = .ok (.astore 6, 2)) (hn : 6 < n) (ok : okS (a0 :: a1 :: a2 :: a3 :: a4 :: a5 :: a6 :: t) 6 = true) (kk : JJ E X d post n (pc + 2) (a0 :: a1 :: a2 :: a3 :: a4 :: a5 :: some (rf E z) :: t) st μ) : JJ E X d post n pc (a0 :: a1 :: a2 :: a3 :: a4 :: a5 :: a6 :: t) (rf E z :: st) μ := j_astoreG (i := 6) G hd hn ok kk
theorem j_astoreN6 (G : GO E X own cc n ret)  {a0 a1 a2 a3 a4 a5 a6 : Option Value} {t : List (Option Value)} (hd : decode cc pc = .ok (.astore 6, 2)) (hn : 6 < n) (ok : okS (a0 :: a1 :: a2 :: a3 :: a4 :: a5 :: a6 :: t) 6 = true) (kk : JJ E X d post n (pc + 2) (a0 :: a1 :: a2 :: a3 :: a4 :: a5 :: some (.null) :: t) st μ) : JJ E X d post n pc (a0 :: a1 :: a2 :: a3 :: a4 :: a5 :: a6 :: t) (.null :: st) μ := j_astoreGN (i := 6) G hd hn ok kk
theorem j_iinc6 (G : GO E X own cc n ret) {z c : Int} {a0 a1 a2 a3 a4 a5 a6 : Option Value} {t : List (Option Value)} (hd : decode cc pc = .ok (.iinc 6 c, 3)) (hn : 6 < n) (ha : a6 = some (iv z)) (ok : okS (a0 :: a1 :: a2 :: a3 :: a4 :: a5 :: a6 :: t) 6 = true) (kk : JJ E X d post n (pc + 3) (a0 :: a1 :: a2 :: a3 :: a4 :: a5 :: some (iv (z + c)) :: t) st μ) : JJ E X d post n pc (a0 :: a1 :: a2 :: a3 :: a4 :: a5 :: a6 :: t) st μ := j_iincG (i := 6) G hd hn (by rw [ha]; rfl) ok kk
theorem j_lstore6 (G : GO E X own cc n ret) {z : Int64} {a0 a1 a2 a3 a4 a5 a6 a7 : Option Value} {t : List (Option Value)} (hd : decode cc pc = .ok (.lstore 6, 2)) (hn : 7 < n) (ok : okS (a0 :: a1 :: a2 :: a3 :: a4 :: a5 :: a6 :: a7 :: t) 6 = true) (kk : JJ E X d post n (pc + 2) (a0 :: a1 :: a2 :: a3 :: a4 :: a5 :: some (.long z) :: none :: t) st μ) : JJ E X d post n pc (a0 :: a1 :: a2 :: a3 :: a4 :: a5 :: a6 :: a7 :: t) (.long z :: st) μ := j_lstoreG (i := 6) G hd hn ok kk
theorem j_istore7 (G : GO E X own cc n ret) {z : Int} {a0 a1 a2 a3 a4 a5 a6 a7 : Option Value} {t : List (Option Value)} (hd : decode cc pc = .ok (.istore 7, 2)) (hn : 7 < n) (ok : okS (a0 :: a1 :: a2 :: a3 :: a4 :: a5 :: a6 :: a7 :: t) 7 = true) (kk : JJ E X d post n (pc + 2) (a0 :: a1 :: a2 :: a3 :: a4 :: a5 :: a6 :: some (iv z) :: t) st μ) : JJ E X d post n pc (a0 :: a1 :: a2 :: a3 :: a4 :: a5 :: a6 :: a7 :: t) (iv z :: st) μ := j_istoreG (i := 7) G hd hn ok kk
theorem j_astore7 (G : GO E X own cc n ret) {z : Nat} {a0 a1 a2 a3 a4 a5 a6 a7 : Option Value} {t : List (Option Value)} (hd : decode cc pc = .ok (.astore 7, 2)) (hn : 7 < n) (ok : okS (a0 :: a1 :: a2 :: a3 :: a4 :: a5 :: a6 :: a7 :: t) 7 = true) (kk : JJ E X d post n (pc + 2) (a0 :: a1 :: a2 :: a3 :: a4 :: a5 :: a6 :: some (rf E z) :: t) st μ) : JJ E X d post n pc (a0 :: a1 :: a2 :: a3 :: a4 :: a5 :: a6 :: a7 :: t) (rf E z :: st) μ := j_astoreG (i := 7) G hd hn ok kk
theorem j_astoreN7 (G : GO E X own cc n ret)  {a0 a1 a2 a3 a4 a5 a6 a7 : Option Value} {t : List (Option Value)} (hd : decode cc pc = .ok (.astore 7, 2)) (hn : 7 < n) (ok : okS (a0 :: a1 :: a2 :: a3 :: a4 :: a5 :: a6 :: a7 :: t) 7 = true) (kk : JJ E X d post n (pc + 2) (a0 :: a1 :: a2 :: a3 :: a4 :: a5 :: a6 :: some (.null) :: t) st μ) : JJ E X d post n pc (a0 :: a1 :: a2 :: a3 :: a4 :: a5 :: a6 :: a7 :: t) (.null :: st) μ := j_astoreGN (i := 7) G hd hn ok kk
theorem j_iinc7 (G : GO E X own cc n ret) {z c : Int} {a0 a1 a2 a3 a4 a5 a6 a7 : Option Value} {t : List (Option Value)} (hd : decode cc pc = .ok (.iinc 7 c, 3)) (hn : 7 < n) (ha : a7 = some (iv z)) (ok : okS (a0 :: a1 :: a2 :: a3 :: a4 :: a5 :: a6 :: a7 :: t) 7 = true) (kk : JJ E X d post n (pc + 3) (a0 :: a1 :: a2 :: a3 :: a4 :: a5 :: a6 :: some (iv (z + c)) :: t) st μ) : JJ E X d post n pc (a0 :: a1 :: a2 :: a3 :: a4 :: a5 :: a6 :: a7 :: t) st μ := j_iincG (i := 7) G hd hn (by rw [ha]; rfl) ok kk
theorem j_lstore7 (G : GO E X own cc n ret) {z : Int64} {a0 a1 a2 a3 a4 a5 a6 a7 a8 : Option Value} {t : List (Option Value)} (hd : decode cc pc = .ok (.lstore 7, 2)) (hn : 8 < n) (ok : okS (a0 :: a1 :: a2 :: a3 :: a4 :: a5 :: a6 :: a7 :: a8 :: t) 7 = true) (kk : JJ E X d post n (pc + 2) (a0 :: a1 :: a2 :: a3 :: a4 :: a5 :: a6 :: some (.long z) :: none :: t) st μ) : JJ E X d post n pc (a0 :: a1 :: a2 :: a3 :: a4 :: a5 :: a6 :: a7 :: a8 :: t) (.long z :: st) μ := j_lstoreG (i := 7) G hd hn ok kk
theorem j_istore8 (G : GO E X own cc n ret) {z : Int} {a0 a1 a2 a3 a4 a5 a6 a7 a8 : Option Value} {t : List (Option Value)} (hd : decode cc pc = .ok (.istore 8, 2)) (hn : 8 < n) (ok : okS (a0 :: a1 :: a2 :: a3 :: a4 :: a5 :: a6 :: a7 :: a8 :: t) 8 = true) (kk : JJ E X d post n (pc + 2) (a0 :: a1 :: a2 :: a3 :: a4 :: a5 :: a6 :: a7 :: some (iv z) :: t) st μ) : JJ E X d post n pc (a0 :: a1 :: a2 :: a3 :: a4 :: a5 :: a6 :: a7 :: a8 :: t) (iv z :: st) μ := j_istoreG (i := 8) G hd hn ok kk
theorem j_astore8 (G : GO E X own cc n ret) {z : Nat} {a0 a1 a2 a3 a4 a5 a6 a7 a8 : Option Value} {t : List (Option Value)} (hd : decode cc pc = .ok (.astore 8, 2)) (hn : 8 < n) (ok : okS (a0 :: a1 :: a2 :: a3 :: a4 :: a5 :: a6 :: a7 :: a8 :: t) 8 = true) (kk : JJ E X d post n (pc + 2) (a0 :: a1 :: a2 :: a3 :: a4 :: a5 :: a6 :: a7 :: some (rf E z) :: t) st μ) : JJ E X d post n pc (a0 :: a1 :: a2 :: a3 :: a4 :: a5 :: a6 :: a7 :: a8 :: t) (rf E z :: st) μ := j_astoreG (i := 8) G hd hn ok kk
theorem j_astoreN8 (G : GO E X own cc n ret)  {a0 a1 a2 a3 a4 a5 a6 a7 a8 : Option Value} {t : List (Option Value)} (hd : decode cc pc = .ok (.astore 8, 2)) (hn : 8 < n) (ok : okS (a0 :: a1 :: a2 :: a3 :: a4 :: a5 :: a6 :: a7 :: a8 :: t) 8 = true) (kk : JJ E X d post n (pc + 2) (a0 :: a1 :: a2 :: a3 :: a4 :: a5 :: a6 :: a7 :: some (.null) :: t) st μ) : JJ E X d post n pc (a0 :: a1 :: a2 :: a3 :: a4 :: a5 :: a6 :: a7 :: a8 :: t) (.null :: st) μ := j_astoreGN (i := 8) G hd hn ok kk
theorem j_iinc8 (G : GO E X own cc n ret) {z c : Int} {a0 a1 a2 a3 a4 a5 a6 a7 a8 : Option Value} {t : List (Option Value)} (hd : decode cc pc = .ok (.iinc 8 c, 3)) (hn : 8 < n) (ha : a8 = some (iv z)) (ok : okS (a0 :: a1 :: a2 :: a3 :: a4 :: a5 :: a6 :: a7 :: a8 :: t) 8 = true) (kk : JJ E X d post n (pc + 3) (a0 :: a1 :: a2 :: a3 :: a4 :: a5 :: a6 :: a7 :: some (iv (z + c)) :: t) st μ) : JJ E X d post n pc (a0 :: a1 :: a2 :: a3 :: a4 :: a5 :: a6 :: a7 :: a8 :: t) st μ := j_iincG (i := 8) G hd hn (by rw [ha]; rfl) ok kk
theorem j_istore9 (G : GO E X own cc n ret) {z : Int} {a0 a1 a2 a3 a4 a5 a6 a7 a8 a9 : Option Value} {t : List (Option Value)} (hd : decode cc pc = .ok (.istore 9, 2)) (hn : 9 < n) (ok : okS (a0 :: a1 :: a2 :: a3 :: a4 :: a5 :: a6 :: a7 :: a8 :: a9 :: t) 9 = true) (kk : JJ E X d post n (pc + 2) (a0 :: a1 :: a2 :: a3 :: a4 :: a5 :: a6 :: a7 :: a8 :: some (iv z) :: t) st μ) : JJ E X d post n pc (a0 :: a1 :: a2 :: a3 :: a4 :: a5 :: a6 :: a7 :: a8 :: a9 :: t) (iv z :: st) μ := j_istoreG (i := 9) G hd hn ok kk
theorem j_astore9 (G : GO E X own cc n ret) {z : Nat} {a0 a1 a2 a3 a4 a5 a6 a7 a8 a9 : Option Value} {t : List (Option Value)} (hd : decode cc pc = .ok (.astore 9, 2)) (hn : 9 < n) (ok : okS (a0 :: a1 :: a2 :: a3 :: a4 :: a5 :: a6 :: a7 :: a8 :: a9 :: t) 9 = true) (kk : JJ E X d post n (pc + 2) (a0 :: a1 :: a2 :: a3 :: a4 :: a5 :: a6 :: a7 :: a8 :: some (rf E z) :: t) st μ) : JJ E X d post n pc (a0 :: a1 :: a2 :: a3 :: a4 :: a5 :: a6 :: a7 :: a8 :: a9 :: t) (rf E z :: st) μ := j_astoreG (i := 9) G hd hn ok kk
theorem j_astoreN9 (G : GO E X own cc n ret)  {a0 a1 a2 a3 a4 a5 a6 a7 a8 a9 : Option Value} {t : List (Option Value)} (hd : decode cc pc = .ok (.astore 9, 2)) (hn : 9 < n) (ok : okS (a0 :: a1 :: a2 :: a3 :: a4 :: a5 :: a6 :: a7 :: a8 :: a9 :: t) 9 = true) (kk : JJ E X d post n (pc + 2) (a0 :: a1 :: a2 :: a3 :: a4 :: a5 :: a6 :: a7 :: a8 :: some (.null) :: t) st μ) : JJ E X d post n pc (a0 :: a1 :: a2 :: a3 :: a4 :: a5 :: a6 :: a7 :: a8 :: a9 :: t) (.null :: st) μ := j_astoreGN (i := 9) G hd hn ok kk
theorem j_iinc9 (G : GO E X own cc n ret) {z c : Int} {a0 a1 a2 a3 a4 a5 a6 a7 a8 a9 : Option Value} {t : List (Option Value)} (hd : decode cc pc = .ok (.iinc 9 c, 3)) (hn : 9 < n) (ha : a9 = some (iv z)) (ok : okS (a0 :: a1 :: a2 :: a3 :: a4 :: a5 :: a6 :: a7 :: a8 :: a9 :: t) 9 = true) (kk : JJ E X d post n (pc + 3) (a0 :: a1 :: a2 :: a3 :: a4 :: a5 :: a6 :: a7 :: a8 :: some (iv (z + c)) :: t) st μ) : JJ E X d post n pc (a0 :: a1 :: a2 :: a3 :: a4 :: a5 :: a6 :: a7 :: a8 :: a9 :: t) st μ := j_iincG (i := 9) G hd hn (by rw [ha]; rfl) ok kk
theorem j_istore10 (G : GO E X own cc n ret) {z : Int} {a0 a1 a2 a3 a4 a5 a6 a7 a8 a9 a10 : Option Value} {t : List (Option Value)} (hd : decode cc pc = .ok (.istore 10, 2)) (hn : 10 < n) (ok : okS (a0 :: a1 :: a2 :: a3 :: a4 :: a5 :: a6 :: a7 :: a8 :: a9 :: a10 :: t) 10 = true) (kk : JJ E X d post n (pc + 2) (a0 :: a1 :: a2 :: a3 :: a4 :: a5 :: a6 :: a7 :: a8 :: a9 :: some (iv z) :: t) st μ) : JJ E X d post n pc (a0 :: a1 :: a2 :: a3 :: a4 :: a5 :: a6 :: a7 :: a8 :: a9 :: a10 :: t) (iv z :: st) μ := j_istoreG (i := 10) G hd hn ok kk
theorem j_astore10 (G : GO E X own cc n ret) {z : Nat} {a0 a1 a2 a3 a4 a5 a6 a7 a8 a9 a10 : Option Value} {t : List (Option Value)} (hd : decode cc pc = .ok (.astore 10, 2)) (hn : 10 < n) (ok : okS (a0 :: a1 :: a2 :: a3 :: a4 :: a5 :: a6 :: a7 :: a8 :: a9 :: a10 :: t) 10 = true) (kk : JJ E X d post n (pc + 2) (a0 :: a1 :: a2 :: a3 :: a4 :: a5 :: a6 :: a7 :: a8 :: a9 :: some (rf E z) :: t) st μ) : JJ E X d post n pc (a0 :: a1 :: a2 :: a3 :: a4 :: a5 :: a6 :: a7 :: a8 :: a9 :: a10 :: t) (rf E z :: st) μ := j_astoreG (i := 10) G hd hn ok kk
theorem j_astoreN10 (G : GO E X own cc n ret)  {a0 a1 a2 a3 a4 a5 a6 a7 a8 a9 a10 : Option Value} {t : List (Option Value)} (hd : decode cc pc = .ok (.astore 10, 2)) (hn : 10 < n) (ok : okS (a0 :: a1 :: a2 :: a3 :: a4 :: a5 :: a6 :: a7 :: a8 :: a9 :: a10 :: t) 10 = true) (kk : JJ E X d post n (pc + 2) (a0 :: a1 :: a2 :: a3 :: a4 :: a5 :: a6 :: a7 :: a8 :: a9 :: some (.null) :: t) st μ) : JJ E X d post n pc (a0 :: a1 :: a2 :: a3 :: a4 :: a5 :: a6 :: a7 :: a8 :: a9 :: a10 :: t) (.null :: st) μ := j_astoreGN (i := 10) G hd hn ok kk
theorem j_iinc10 (G : GO E X own cc n ret) {z c : Int} {a0 a1 a2 a3 a4 a5 a6 a7 a8 a9 a10 : Option Value} {t : List (Option Value)} (hd : decode cc pc = .ok (.iinc 10 c, 3)) (hn : 10 < n) (ha : a10 = some (iv z)) (ok : okS (a0 :: a1 :: a2 :: a3 :: a4 :: a5 :: a6 :: a7 :: a8 :: a9 :: a10 :: t) 10 = true) (kk : JJ E X d post n (pc + 3) (a0 :: a1 :: a2 :: a3 :: a4 :: a5 :: a6 :: a7 :: a8 :: a9 :: some (iv (z + c)) :: t) st μ) : JJ E X d post n pc (a0 :: a1 :: a2 :: a3 :: a4 :: a5 :: a6 :: a7 :: a8 :: a9 :: a10 :: t) st μ := j_iincG (i := 10) G hd hn (by rw [ha]; rfl) ok kk
theorem j_istore11 (G : GO E X own cc n ret) {z : Int} {a0 a1 a2 a3 a4 a5 a6 a7 a8 a9 a10 a11 : Option Value} {t : List (Option Value)} (hd : decode cc pc = .ok (.istore 11, 2)) (hn : 11 < n) (ok : okS (a0 :: a1 :: a2 :: a3 :: a4 :: a5 :: a6 :: a7 :: a8 :: a9 :: a10 :: a11 :: t) 11 = true) (kk : JJ E X d post n (pc + 2) (a0 :: a1 :: a2 :: a3 :: a4 :: a5 :: a6 :: a7 :: a8 :: a9 :: a10 :: some (iv z) :: t) st μ) : JJ E X d post n pc (a0 :: a1 :: a2 :: a3 :: a4 :: a5 :: a6 :: a7 :: a8 :: a9 :: a10 :: a11 :: t) (iv z :: st) μ := j_istoreG (i := 11) G hd hn ok kk
theorem j_astore11 (G : GO E X own cc n ret) {z : Nat} {a0 a1 a2 a3 a4 a5 a6 a7 a8 a9 a10 a11 : Option Value} {t : List (Option Value)} (hd : decode cc pc = .ok (.astore 11, 2)) (hn : 11 < n) (ok : okS (a0 :: a1 :: a2 :: a3 :: a4 :: a5 :: a6 :: a7 :: a8 :: a9 :: a10 :: a11 :: t) 11 = true) (kk : JJ E X d post n (pc + 2) (a0 :: a1 :: a2 :: a3 :: a4 :: a5 :: a6 :: a7 :: a8 :: a9 :: a10 :: some (rf E z) :: t) st μ) : JJ E X d post n pc (a0 :: a1 :: a2 :: a3 :: a4 :: a5 :: a6 :: a7 :: a8 :: a9 :: a10 :: a11 :: t) (rf E z :: st) μ := j_astoreG (i := 11) G hd hn ok kk
theorem j_astoreN11 (G : GO E X own cc n ret)  {a0 a1 a2 a3 a4 a5 a6 a7 a8 a9 a10 a11 : Option Value} {t : List (Option Value)} (hd : decode cc pc = .ok (.astore 11, 2)) (hn : 11 < n) (ok : okS (a0 :: a1 :: a2 :: a3 :: a4 :: a5 :: a6 :: a7 :: a8 :: a9 :: a10 :: a11 :: t) 11 = true) (kk : JJ E X d post n (pc + 2) (a0 :: a1 :: a2 :: a3 :: a4 :: a5 :: a6 :: a7 :: a8 :: a9 :: a10 :: some (.null) :: t) st μ) : JJ E X d post n pc (a0 :: a1 :: a2 :: a3 :: a4 :: a5 :: a6 :: a7 :: a8 :: a9 :: a10 :: a11 :: t) (.null :: st) μ := j_astoreGN (i := 11) G hd hn ok kk
theorem j_iinc11 (G : GO E X own cc n ret) {z c : Int} {a0 a1 a2 a3 a4 a5 a6 a7 a8 a9 a10 a11 : Option Value} {t : List (Option Value)} (hd : decode cc pc = .ok (.iinc 11 c, 3)) (hn : 11 < n) (ha : a11 = some (iv z)) (ok : okS (a0 :: a1 :: a2 :: a3 :: a4 :: a5 :: a6 :: a7 :: a8 :: a9 :: a10 :: a11 :: t) 11 = true) (kk : JJ E X d post n (pc + 3) (a0 :: a1 :: a2 :: a3 :: a4 :: a5 :: a6 :: a7 :: a8 :: a9 :: a10 :: some (iv (z + c)) :: t) st μ) : JJ E X d post n pc (a0 :: a1 :: a2 :: a3 :: a4 :: a5 :: a6 :: a7 :: a8 :: a9 :: a10 :: a11 :: t) st μ := j_iincG (i := 11) G hd hn (by rw [ha]; rfl) ok kk
theorem j_istore12 (G : GO E X own cc n ret) {z : Int} {a0 a1 a2 a3 a4 a5 a6 a7 a8 a9 a10 a11 a12 : Option Value} {t : List (Option Value)} (hd : decode cc pc = .ok (.istore 12, 2)) (hn : 12 < n) (ok : okS (a0 :: a1 :: a2 :: a3 :: a4 :: a5 :: a6 :: a7 :: a8 :: a9 :: a10 :: a11 :: a12 :: t) 12 = true) (kk : JJ E X d post n (pc + 2) (a0 :: a1 :: a2 :: a3 :: a4 :: a5 :: a6 :: a7 :: a8 :: a9 :: a10 :: a11 :: some (iv z) :: t) st μ) : JJ E X d post n pc (a0 :: a1 :: a2 :: a3 :: a4 :: a5 :: a6 :: a7 :: a8 :: a9 :: a10 :: a11 :: a12 :: t) (iv z :: st) μ := j_istoreG (i := 12) G hd hn ok kk
theorem j_astore12 (G : GO E X own cc n ret) {z : Nat} {a0 a1 a2 a3 a4 a5 a6 a7 a8 a9 a10 a11 a12 : Option Value} {t : List (Option Value)} (hd : decode cc pc = .ok (.astore 12, 2)) (hn : 12 < n) (ok : okS (a0 :: a1 :: a2 :: a3 :: a4 :: a5 :: a6 :: a7 :: a8 :: a9 :: a10 :: a11 :: a12 :: t) 12 = true) (kk : JJ E X d post n (pc + 2) (a0 :: a1 :: a2 :: a3 :: a4 :: a5 :: a6 :: a7 :: a8 :: a9 :: a10 :: a11 :: some (rf E z) :: t) st μ) : JJ E X d post n pc (a0 :: a1 :: a2 :: a3 :: a4 :: a5 :: a6 :: a7 :: a8 :: a9 :: a10 :: a11 :: a12 :: t) (rf E z :: st) μ := j_astoreG (i := 12) G hd hn ok kk
theorem j_astoreN12 (G : GO E X own cc n ret)  {a0 a1 a2 a3 a4 a5 a6 a7 a8 a9 a10 a11 a12 : Option Value} {t : List (Option Value)} (hd : decode cc pc = .ok (.astore 12, 2)) (hn : 12 < n) (ok : okS (a0 :: a1 :: a2 :: a3 :: a4 :: a5 :: a6 :: a7 :: a8 :: a9 :: a10 :: a11 :: a12 :: t) 12 = true) (kk : JJ E X d post n (pc + 2) (a0 :: a1 :: a2 :: a3 :: a4 :: a5 :: a6 :: a7 :: a8 :: a9 :: a10 :: a11 :: some (.null) :: t) st μ) : JJ E X d post n pc (a0 :: a1 :: a2 :: a3 :: a4 :: a5 :: a6 :: a7 :: a8 :: a9 :: a10 :: a11 :: a12 :: t) (.null :: st) μ := j_astoreGN (i := 12) G hd hn ok kk
theorem j_iinc12 (G : GO E X own cc n ret) {z c : Int} {a0 a1 a2 a3 a4 a5 a6 a7 a8 a9 a10 a11 a12 : Option Value} {t : List (Option Value)} (hd : decode cc pc = .ok (.iinc 12 c, 3)) (hn : 12 < n) (ha : a12 = some (iv z)) (ok : okS (a0 :: a1 :: a2 :: a3 :: a4 :: a5 :: a6 :: a7 :: a8 :: a9 :: a10 :: a11 :: a12 :: t) 12 = true) (kk : JJ E X d post n (pc + 3) (a0 :: a1 :: a2 :: a3 :: a4 :: a5 :: a6 :: a7 :: a8 :: a9 :: a10 :: a11 :: some (iv (z + c)) :: t) st μ) : JJ E X d post n pc (a0 :: a1 :: a2 :: a3 :: a4 :: a5 :: a6 :: a7 :: a8 :: a9 :: a10 :: a11 :: a12 :: t) st μ := j_iincG (i := 12) G hd hn (by rw [ha]; rfl) ok kk
theorem j_istore13 (G : GO E X own cc n ret) {z : Int} {a0 a1 a2 a3 a4 a5 a6 a7 a8 a9 a10 a11 a12 a13 : Option Value} {t : List (Option Value)} (hd : decode cc pc = .ok (.istore 13, 2)) (hn : 13 < n) (ok : okS (a0 :: a1 :: a2 :: a3 :: a4 :: a5 :: a6 :: a7 :: a8 :: a9 :: a10 :: a11 :: a12 :: a13 :: t) 13 = true) (kk : JJ E X d post n (pc + 2) (a0 :: a1 :: a2 :: a3 :: a4 :: a5 :: a6 :: a7 :: a8 :: a9 :: a10 :: a11 :: a12 :: some (iv z) :: t) st μ) : JJ E X d post n pc (a0 :: a1 :: a2 :: a3 :: a4 :: a5 :: a6 :: a7 :: a8 :: a9 :: a10 :: a11 :: a12 :: a13 :: t) (iv z :: st) μ := j_istoreG (i := 13) G hd hn ok kk
theorem j_astore13 (G : GO E X own cc n ret) {z : Nat} {a0 a1 a2 a3 a4 a5 a6 a7 a8 a9 a10 a11 a12 a13 : Option Value} {t : List (Option Value)} (hd : decode cc pc = .ok (.astore 13, 2)) (hn : 13 < n) (ok : okS (a0 :: a1 :: a2 :: a3 :: a4 :: a5 :: a6 :: a7 :: a8 :: a9 :: a10 :: a11 :: a12 :: a13 :: t) 13 = true) (kk : JJ E X d post n (pc + 2) (a0 :: a1 :: a2 :: a3 :: a4 :: a5 :: a6 :: a7 :: a8 :: a9 :: a10 :: a11 :: a12 :: some (rf E z) :: t) st μ) : JJ E X d post n pc (a0 :: a1 :: a2 :: a3 :: a4 :: a5 :: a6 :: a7 :: a8 :: a9 :: a10 :: a11 :: a12 :: a13 :: t) (rf E z :: st) μ := j_astoreG (i := 13) G hd hn ok kk
theorem j_astoreN13 (G : GO E X own cc n ret)  {a0 a1 a2 a3 a4 a5 a6 a7 a8 a9 a10 a11 a12 a13 : Option Value} {t : List (Option Value)} (hd : decode cc pc = .ok (.astore 13, 2)) (hn : 13 < n) (ok : okS (a0 :: a1 :: a2 :: a3 :: a4 :: a5 :: a6 :: a7 :: a8 :: a9 :: a10 :: a11 :: a12 :: a13 :: t) 13 = true) (kk : JJ E X d post n (pc + 2) (a0 :: a1 :: a2 :: a3 :: a4 :: a5 :: a6 :: a7 :: a8 :: a9 :: a10 :: a11 :: a12 :: some (.null) :: t) st μ) : JJ E X d post n pc (a0 :: a1 :: a2 :: a3 :: a4 :: a5 :: a6 :: a7 :: a8 :: a9 :: a10 :: a11 :: a12 :: a13 :: t) (.null :: st) μ := j_astoreGN (i := 13) G hd hn ok kk
theorem j_iinc13 (G : GO E X own cc n ret) {z c : Int} {a0 a1 a2 a3 a4 a5 a6 a7 a8 a9 a10 a11 a12 a13 : Option Value} {t : List (Option Value)} (hd : decode cc pc = .ok (.iinc 13 c, 3)) (hn : 13 < n) (ha : a13 = some (iv z)) (ok : okS (a0 :: a1 :: a2 :: a3 :: a4 :: a5 :: a6 :: a7 :: a8 :: a9 :: a10 :: a11 :: a12 :: a13 :: t) 13 = true) (kk : JJ E X d post n (pc + 3) (a0 :: a1 :: a2 :: a3 :: a4 :: a5 :: a6 :: a7 :: a8 :: a9 :: a10 :: a11 :: a12 :: some (iv (z + c)) :: t) st μ) : JJ E X d post n pc (a0 :: a1 :: a2 :: a3 :: a4 :: a5 :: a6 :: a7 :: a8 :: a9 :: a10 :: a11 :: a12 :: a13 :: t) st μ := j_iincG (i := 13) G hd hn (by rw [ha]; rfl) ok kk
theorem j_istore14 (G : GO E X own cc n ret) {z : Int} {a0 a1 a2 a3 a4 a5 a6 a7 a8 a9 a10 a11 a12 a13 a14 : Option Value} {t : List (Option Value)} (hd : decode cc pc = .ok (.istore 14, 2)) (hn : 14 < n) (ok : okS (a0 :: a1 :: a2 :: a3 :: a4 :: a5 :: a6 :: a7 :: a8 :: a9 :: a10 :: a11 :: a12 :: a13 :: a14 :: t) 14 = true) (kk : JJ E X d post n (pc + 2) (a0 :: a1 :: a2 :: a3 :: a4 :: a5 :: a6 :: a7 :: a8 :: a9 :: a10 :: a11 :: a12 :: a13 :: some (iv z) :: t) st μ) : JJ E X d post n pc (a0 :: a1 :: a2 :: a3 :: a4 :: a5 :: a6 :: a7 :: a8 :: a9 :: a10 :: a11 :: a12 :: a13 :: a14 :: t) (iv z :: st) μ := j_istoreG (i := 14) G hd hn ok kk
theorem j_astore14 (G : GO E X own cc n ret) {z : Nat} {a0 a1 a2 a3 a4 a5 a6 a7 a8 a9 a10 a11 a12 a13 a14 : Option Value} {t : List (Option Value)} (hd : decode cc pc = .ok (.astore 14, 2)) (hn : 14 < n) (ok : okS (a0 :: a1 :: a2 :: a3 :: a4 :: a5 :: a6 :: a7 :: a8 :: a9 :: a10 :: a11 :: a12 :: a13 :: a14 :: t) 14 = true) (kk : JJ E X d post n (pc + 2) (a0 :: a1 :: a2 :: a3 :: a4 :: a5 :: a6 :: a7 :: a8 :: a9 :: a10 :: a11 :: a12 :: a13 :: some (rf E z) :: t) st μ) : JJ E X d post n pc (a0 :: a1 :: a2 :: a3 :: a4 :: a5 :: a6 :: a7 :: a8 :: a9 :: a10 :: a11 :: a12 :: a13 :: a14 :: t) (rf E z :: st) μ := j_astoreG (i := 14) G hd hn ok kk
theorem j_astoreN14 (G : GO E X own cc n ret)  {a0 a1 a2 a3 a4 a5 a6 a7 a8 a9 a10 a11 a12 a13 a14 : Option Value} {t : List (Option Value)} (hd : decode cc pc = .ok (.astore 14, 2)) (hn : 14 < n) (ok : okS (a0 :: a1 :: a2 :: a3 :: a4 :: a5 :: a6 :: a7 :: a8 :: a9 :: a10 :: a11 :: a12 :: a13 :: a14 :: t) 14 = true) (kk : JJ E X d post n (pc + 2) (a0 :: a1 :: a2 :: a3 :: a4 :: a5 :: a6 :: a7 :: a8 :: a9 :: a10 :: a11 :: a12 :: a13 :: some (.null) :: t) st μ) : JJ E X d post n pc (a0 :: a1 :: a2 :: a3 :: a4 :: a5 :: a6 :: a7 :: a8 :: a9 :: a10 :: a11 :: a12 :: a13 :: a14 :: t) (.null :: st) μ := j_astoreGN (i := 14) G hd hn ok kk
theorem j_iinc14 (G : GO E X own cc n ret) {z c : Int} {a0 a1 a2 a3 a4 a5 a6 a7 a8 a9 a10 a11 a12 a13 a14 : Option Value} {t : List (Option Value)} (hd : decode cc pc = .ok (.iinc 14 c, 3)) (hn : 14 < n) (ha : a14 = some (iv z)) (ok : okS (a0 :: a1 :: a2 :: a3 :: a4 :: a5 :: a6 :: a7 :: a8 :: a9 :: a10 :: a11 :: a12 :: a13 :: a14 :: t) 14 = true) (kk : JJ E X d post n (pc + 3) (a0 :: a1 :: a2 :: a3 :: a4 :: a5 :: a6 :: a7 :: a8 :: a9 :: a10 :: a11 :: a12 :: a13 :: some (iv (z + c)) :: t) st μ) : JJ E X d post n pc (a0 :: a1 :: a2 :: a3 :: a4 :: a5 :: a6 :: a7 :: a8 :: a9 :: a10 :: a11 :: a12 :: a13 :: a14 :: t) st μ := j_iincG (i := 14) G hd hn (by rw [ha]; rfl) ok kk
end JS
end
section
section JH
variable {E : EE} {X : XX} {d n pc : Nat} {post : Pst} {ls : List (Option Value)} {st : List Value} {μ : MemT} {own : String} {cc : ByteArray} {ret : Option FieldType}
theorem en_congr {E : EE} {μ μ2 : MemT} {k : Nat} (h : μ k = μ2 k) (q : Nat × Nat × List (Option Nat)) : en E μ k q = en E μ2 k q := by
  unfold en
  have h1 : fv E μ k = fv E μ2 k := by funext x; unfold fv; rw [h]
  rw [h1, h]
theorem wd_set {μ2 : MemT} {k : Nat} {q : Nat × Nat × List (Option Nat)} {en2 : va_E} (hk : (eY E)[k]? = some q) (he : en2 = en E μ2 k q) (hm : ∀ j, j ≠ k → μ2 j = μ j) : (wd E μ).set k (eB E + k, en2) = wd E μ2 := by
  apply List.ext_getElem?
  intro j
  by_cases c : j = k
  · subst c
    have hlt : j < (wd E μ).length := (List.getElem?_eq_some_iff.mp (wd_of μ hk)).1
    rw [List.getElem?_set_self hlt, wd_of μ2 hk, he]
  · rw [List.getElem?_set_ne (fun z => c z.symm), wd_at, wd_at]
    cases hq : (eY E)[j]? with
    | none => rfl
    | some q2 => rw [Option.map_some, Option.map_some, en_congr (hm j c)]
theorem up_other {k : Nat} {i z : Int} : ∀ j, j ≠ k → up μ k i z j = μ j := by
  intro j h
  funext i2
  exact up_cell h
def FL (own : String) (idx ci f : Nat) : Prop := ci < 20 ∧ ∃ (C : String) (T : u_T) (N : Nat) (ty0 : Nat → FieldType), vwCl[ci]? = some (C, T, N) ∧ f < N ∧ Cond.fieldLink own idx (T f).1 (T f).2.1 (T f).2.2.1 ∈ Tb ∧ (∀ w ∈ u_ws C T N, w ∈ Tb) ∧ (∀ k, k < N → parseFieldDescriptor (T k).2.2.1 = some (ty0 k)) ∧ (∀ a, a < N → ∀ b, b < N → a ≠ b → (T a).2.1 ≠ (T b).2.1)
def FP (own : String) (idx ci f : Nat) : Prop := ci < 20 ∧ ∃ (C : String) (T : u_T) (N : Nat) (ty0 : Nat → FieldType), vwCl[ci]? = some (C, T, N) ∧ f < N ∧ Cond.fieldLink own idx (T f).1 (T f).2.1 (T f).2.2.1 ∈ Tb ∧ (∀ w ∈ u_ws C T N, w ∈ Tb) ∧ (∀ k, k < N → parseFieldDescriptor (T k).2.2.1 = some (ty0 k)) ∧ (∀ a, a < N → ∀ b, b < N → a ≠ b → (T a).2.1 ≠ (T b).2.1) ∧ (T f).2.2.2 = false ∧ parseFieldDescriptor (T f).2.2.1 = some .int
theorem en_obj {k ci nn : Nat} {rs : List (Option Nat)} (hci : ci < 20) : en E μ k (ci, nn, rs) = .inr (ci, rs.zipIdx.map (fv E μ k)) := if_pos hci
theorem fs_at {k f : Nat} {rs : List (Option Nat)} {o : Option Nat} (hr : rs[f]? = some o) : (rs.zipIdx.map (fv E μ k))[f]? = some (fv E μ k (o, f)) := by
  rw [List.getElem?_map, List.getElem?_zipIdx, hr]
  simp
theorem j_getr (G : GO E X own cc n ret) {idx ci f k nn r : Nat} {rs : List (Option Nat)} (hF : FL own idx ci f) (hd : decode cc pc = .ok (.getfield idx, 3)) (hk : (eY E)[k]? = some (ci, nn, rs)) (hr : rs[f]? = some (some r)) (kk : JJ E X d post n (pc + 3) ls (rf E r :: st) μ) : JJ E X d post n pc ls (rf E k :: st) μ := by
  intro ho H locs la hP hS hl
  obtain ⟨hci, C, T, N, ty0, h1, h2, h3, h4, h5, h6⟩ := hF
  have hw := wd_of μ hk
  rw [en_obj hci] at hw
  exact va_get G.1 G.2.1 G.2.2.2.2.2.1 h4 G.2.2.2.2.1 G.2.2.2.2.2.2.1 hP k hw h1 f h2 (G.2.2.2.2.2.1 _ h3) (fun _ z => z) (fs_at hr) hd (kk ho H locs la hP hS hl)
theorem j_geti (G : GO E X own cc n ret) {idx ci f k nn : Nat} {rs : List (Option Nat)} (hF : FL own idx ci f) (hd : decode cc pc = .ok (.getfield idx, 3)) (fi : Int) (hfi : ((f : Nat) : Int) = fi) (hk : (eY E)[k]? = some (ci, nn, rs)) (hr : rs[f]? = some none) (kk : (-2147483648 ≤ μ k fi ∧ μ k fi < 2147483648) → JJ E X d post n (pc + 3) ls (iv (μ k fi) :: st) μ) : JJ E X d post n pc ls (rf E k :: st) μ := by
  intro ho H locs la hP hS hl
  obtain ⟨hci, C, T, N, ty0, h1, h2, h3, h4, h5, h6⟩ := hF
  subst hfi
  have hw := wd_of μ hk
  rw [en_obj hci] at hw
  have hrg := ho k f (fun a b z => by rw [hk] at z; cases z; omega)
  exact va_get G.1 G.2.1 G.2.2.2.2.2.1 h4 G.2.2.2.2.1 G.2.2.2.2.2.2.1 hP k hw h1 f h2 (G.2.2.2.2.2.1 _ h3) (fun _ z => z) (fs_at hr) hd (kk hrg ho H locs la hP hS hl)
theorem fs_set {k f : Nat} {rs : List (Option Nat)} {z : Int} (hr : rs[f]? = some none) : (rs.zipIdx.map (fv E μ k)).set f (iv z) = rs.zipIdx.map (fv E (up μ k f z) k) := by
  apply List.ext_getElem?
  intro j
  by_cases c : j = f
  · subst c
    have hlt : j < (rs.zipIdx.map (fv E μ k)).length := (List.getElem?_eq_some_iff.mp (fs_at (E := E) (μ := μ) (k := k) hr)).1
    rw [List.getElem?_set_self hlt, fs_at hr]
    unfold fv
    rw [up_same]
  · rw [List.getElem?_set_ne (fun z => c z.symm)]
    cases hq : rs[j]? with
    | none =>
      rw [List.getElem?_map, List.getElem?_zipIdx, hq, List.getElem?_map, List.getElem?_zipIdx, hq]
      rfl
    | some o =>
      rw [fs_at hq, fs_at hq]
      cases o with
      | some r => rfl
      | none =>
        unfold fv
        rw [up_idx (by omega)]
theorem j_puti (G : GO E X own cc n ret) {idx ci f k nn : Nat} {rs : List (Option Nat)} {z : Int} (hF : FP own idx ci f) (hd : decode cc pc = .ok (.putfield idx, 3)) (fi : Int) (hfi : ((f : Nat) : Int) = fi) (hk : (eY E)[k]? = some (ci, nn, rs)) (hr : rs[f]? = some none) (hz : -2147483648 ≤ z ∧ z < 2147483648) (kk : JJ E X d post n (pc + 3) ls st (up μ k fi z)) : JJ E X d post n pc ls (iv z :: rf E k :: st) μ := by
  intro ho H locs la hP hS hl
  obtain ⟨hci, C, T, N, ty0, h1, h2, h3, h4, h5, h6, h7, h8⟩ := hF
  subst hfi
  have hw := wd_of μ hk
  rw [en_obj hci] at hw
  have hlen : f < (rs.zipIdx.map (fv E μ k)).length := (List.getElem?_eq_some_iff.mp (fs_at (E := E) (μ := μ) (k := k) hr)).1
  refine va_put G.1 G.2.1 G.2.2.2.2.2.1 h4 ty0 h5 h6 G.2.2.2.2.1 G.2.2.2.2.2.2.1 hP (wd_D E μ) hS k hw h1 f h2 (G.2.2.2.2.2.1 _ h3) (fun _ z => z) h7 h8 (v := iv z) rfl rfl hlen hd (fun H1 locs1 hP1 hD1 hS1 => ?_)
  rw [fs_set hr, wd_set hk (en_obj hci).symm up_other] at hP1
  exact kk (ok_up ho hz) H1 locs1 la hP1 hS1 hl
theorem ix_in {i : Int} {nn : Nat} (hi : 0 ≤ i ∧ i < (nn : Int) ∧ i < 2147483648) : vp_in (Int32.ofInt i) nn ∧ (((Int32.ofInt i).toNatClampNeg : Nat) : Int) = i := by
  have h1 : (Int32.ofInt i).toNatClampNeg = i.toNat := Int32.toNatClampNeg_ofInt_of_le (by omega) (by omega)
  refine ⟨?_, by rw [h1]; omega⟩
  rw [vp_in_iff, ofI_toInt (by omega)]
  exact ⟨hi.1, hi.2.1⟩
theorem en_int {k nn : Nat} {rs : List (Option Nat)} : en E μ k (20, nn, rs) = .inl (eA E 20, nn, .inl (fun j => Int32.ofInt (μ k j))) := rfl
theorem en_long {k nn : Nat} {rs : List (Option Nat)} : en E μ k (21, nn, rs) = .inl (eA E 21, nn, .inr (.inl (fun j => Int64.ofInt (μ k j)))) := rfl
theorem en_bool {k nn : Nat} {rs : List (Option Nat)} : en E μ k (22, nn, rs) = .inl (eA E 22, nn, .inl (fun j => Int32.ofInt (μ k j))) := rfl
theorem j_iaload (G : GO E X own cc n ret) {k nn : Nat} {i : Int} {rs : List (Option Nat)} (hd : decode cc pc = .ok (.iaload, 1)) (hk : (eY E)[k]? = some (20, nn, rs)) (hi : 0 ≤ i ∧ i < (nn : Int) ∧ i < 2147483648) (kk : (-2147483648 ≤ μ k i ∧ μ k i < 2147483648) → JJ E X d post n (pc + 1) ls (iv (μ k i) :: st) μ) : JJ E X d post n pc ls (iv i :: rf E k :: st) μ := by
  intro ho H locs la hP hS hl
  obtain ⟨h1, h2⟩ := ix_in hi
  have hrg := ho k i (fun a b z => by rw [hk] at z; cases z)
  refine va_iald G.1 G.2.1 G.2.2.2.2.2.2.1 hP k 0 (wd_of μ hk) rfl h1 hd ?_
  rw [h2]
  exact kk hrg ho H locs la hP hS hl
theorem j_baload (G : GO E X own cc n ret) {k nn : Nat} {i : Int} {rs : List (Option Nat)} (hd : decode cc pc = .ok (.baload, 1)) (hk : (eY E)[k]? = some (22, nn, rs)) (hi : 0 ≤ i ∧ i < (nn : Int) ∧ i < 2147483648) (kk : (-2147483648 ≤ μ k i ∧ μ k i < 2147483648) → JJ E X d post n (pc + 1) ls (iv (μ k i) :: st) μ) : JJ E X d post n pc ls (iv i :: rf E k :: st) μ := by
  intro ho H locs la hP hS hl
  obtain ⟨h1, h2⟩ := ix_in hi
  have hrg := ho k i (fun a b z => by rw [hk] at z; cases z)
  refine va_zald G.1 G.2.1 G.2.2.2.2.2.2.1 hP k 2 (wd_of μ hk) rfl h1 hd ?_
  rw [h2]
  exact kk hrg ho H locs la hP hS hl
theorem j_laload (G : GO E X own cc n ret) {k nn : Nat} {i : Int} {rs : List (Option Nat)} (hd : decode cc pc = .ok (.laload, 1)) (hk : (eY E)[k]? = some (21, nn, rs)) (hi : 0 ≤ i ∧ i < (nn : Int) ∧ i < 2147483648) (kk : JJ E X d post n (pc + 1) ls (.long (Int64.ofInt (μ k i)) :: st) μ) : JJ E X d post n pc ls (iv i :: rf E k :: st) μ := by
  intro ho H locs la hP hS hl
  obtain ⟨h1, h2⟩ := ix_in hi
  refine va_lald G.1 G.2.1 G.2.2.2.2.2.2.1 hP k 1 (wd_of μ hk) rfl h1 hd ?_
  rw [h2]
  exact kk ho H locs la hP hS hl
def ao (t : Nat) : Option (Nat × FieldType) := match t with
  | 24 => some (3, .object "DotWar$Code")
  | 25 => some (4, .object "DotWar$Reader")
  | 26 => some (5, .object "DotWar$School")
  | 27 => some (6, .array .int)
  | _ => none
theorem j_aaload (G : GO E X own cc n ret) {k nn tg r : Nat} {i : Int} {rs : List (Option Nat)} (hd : decode cc pc = .ok (.aaload, 1)) (hk : (eY E)[k]? = some (tg, nn, rs)) (ht : tg = 24 ∨ tg = 25 ∨ tg = 26 ∨ tg = 27) (hi : 0 ≤ i ∧ i < (nn : Int) ∧ i < 2147483648) (hr : rs[i.toNat]? = some (some r)) (kk : JJ E X d post n (pc + 1) ls (rf E r :: st) μ) : JJ E X d post n pc ls (iv i :: rf E k :: st) μ := by
  intro ho H locs la hP hS hl
  obtain ⟨h1, h2⟩ := ix_in hi
  have h3 : (Int32.ofInt i).toNatClampNeg = i.toNat := Int32.toNatClampNeg_ofInt_of_le (by omega) (by omega)
  have hlt : (Int32.ofInt i).toNatClampNeg < nn := Nat.not_le.mp fun q => h1 (Or.inr q)
  have key : ∀ (tn : Nat) (ty : FieldType), (tyl E)[tn]? = some (eA E tg, ty) → ty.isReference = true → en E μ k (tg, nn, rs) = .inl (eA E tg, nn, .inr (.inr (.inr (.inr (fun j => (rs[j]?).join.map (fun r => eB E + r)))))) → W X.1 (eL E) X.2.1 (rm d) X.2.2.1 X.2.2.2.1 X.2.2.2.2.1 X.2.2.2.2.2.1 X.2.2.2.2.2.2.1 X.2.2.2.2.2.2.2 H locs 0 0 (MQ X.2.2.2.2.2.1 (Qq E post) X.2.2.2.2.1 X.2.2.1 0 0 (Reg E)) (F0 X.2.2.2.1 pc la (iv i :: rf E k :: st)) := by
    intro tn ty hty hrf he
    have hw := wd_of μ hk
    rw [he] at hw
    refine W.aald (v := rf E r) (ty := ty) G.1 G.2.1 (hP k _ hw) ((G.2.2.2.2.2.2.1.2 tn _ hty).1 nn (fun j => va_rf ((rs[j]?).join.map (fun r => eB E + r)))) hrf (fun q => by cases q) (by show ¬ (_ < 0 ∨ (arrV _ _ _).slots.size ≤ _); rw [arrV_size]; exact h1) (by show (arrV _ _ _).slots[_]? = _; rw [arrV_read _ _ hlt, h3]; show some (va_rf (Option.map (fun r => eB E + r) (rs[i.toNat]?).join)) = _; rw [hr]; rfl) rfl rfl hd ?_
    exact kk ho H locs la hP hS hl
  rcases ht with h | h | h | h <;> subst h
  · exact key 3 _ rfl rfl rfl
  · exact key 4 _ rfl rfl rfl
  · exact key 5 _ rfl rfl rfl
  · exact key 6 _ rfl rfl rfl
theorem j_alen (G : GO E X own cc n ret) {k nn : Nat} {rs : List (Option Nat)} (hd : decode cc pc = .ok (.arraylength, 1)) (hk : (eY E)[k]? = some (20, nn, rs)) (kk : JJ E X d post n (pc + 1) ls (iv nn :: st) μ) : JJ E X d post n pc ls (rf E k :: st) μ := by
  intro ho H locs la hP hS hl
  exact va_alen G.1 G.2.1 G.2.2.2.2.2.2.1 hP k 0 (wd_of μ hk) rfl (v := Int32.ofInt nn) (Int32.ofInt_eq_ofNat).symm hd (kk ho H locs la hP hS hl)
theorem j_iastore (G : GO E X own cc n ret) {k nn : Nat} {i z : Int} {rs : List (Option Nat)} (hd : decode cc pc = .ok (.iastore, 1)) (hk : (eY E)[k]? = some (20, nn, rs)) (hi : 0 ≤ i ∧ i < (nn : Int) ∧ i < 2147483648) (hz : -2147483648 ≤ z ∧ z < 2147483648) (kk : JJ E X d post n (pc + 1) ls st (up μ k i z)) : JJ E X d post n pc ls (iv z :: iv i :: rf E k :: st) μ := by
  intro ho H locs la hP hS hl
  obtain ⟨h1, h2⟩ := ix_in hi
  refine va_iast G.1 G.2.1 G.2.2.2.2.2.2.1 hP (wd_D E μ) hS k 0 (wd_of μ hk) rfl h1 hd (fun H1 locs1 hP1 hD1 hS1 => ?_)
  rw [wd_set (μ2 := up μ k i z) hk ?_ up_other] at hP1
  · exact kk (ok_up ho hz) H1 locs1 la hP1 hS1 hl
  · rw [en_int]
    refine congrArg (fun f => (Sum.inl (eA E 20, nn, Sum.inl f) : va_E)) (funext fun j => ?_)
    unfold upd
    by_cases c : j = (Int32.ofInt i).toNatClampNeg
    · rw [if_pos c, c, h2, up_same]
    · rw [if_neg c, up_idx (by omega)]
theorem j_bastore (G : GO E X own cc n ret) {k nn : Nat} {i z : Int} {rs : List (Option Nat)} (hd : decode cc pc = .ok (.bastore, 1)) (hk : (eY E)[k]? = some (22, nn, rs)) (hi : 0 ≤ i ∧ i < (nn : Int) ∧ i < 2147483648) (hz : z = 0 ∨ z = 1) (kk : JJ E X d post n (pc + 1) ls st (up μ k i z)) : JJ E X d post n pc ls (iv z :: iv i :: rf E k :: st) μ := by
  intro ho H locs la hP hS hl
  obtain ⟨h1, h2⟩ := ix_in hi
  have hnar : vp_nar .boolean (Int32.ofInt z) = Int32.ofInt z := by rcases hz with h | h <;> subst h <;> decide
  refine va_zast G.1 G.2.1 G.2.2.2.2.2.2.1 hP (wd_D E μ) hS k 2 (wd_of μ hk) rfl h1 hd (fun H1 locs1 hP1 hD1 hS1 => ?_)
  rw [wd_set (μ2 := up μ k i z) hk ?_ up_other] at hP1
  · exact kk (ok_up ho (by omega)) H1 locs1 la hP1 hS1 hl
  · rw [en_bool]
    refine congrArg (fun f => (Sum.inl (eA E 22, nn, Sum.inl f) : va_E)) (funext fun j => ?_)
    unfold upd
    by_cases c : j = (Int32.ofInt i).toNatClampNeg
    · rw [if_pos c, c, h2, up_same, hnar]
    · rw [if_neg c, up_idx (by omega)]
theorem j_lastore (G : GO E X own cc n ret) {k nn : Nat} {i : Int} {z : Int64} {rs : List (Option Nat)} (hd : decode cc pc = .ok (.lastore, 1)) (hk : (eY E)[k]? = some (21, nn, rs)) (hi : 0 ≤ i ∧ i < (nn : Int) ∧ i < 2147483648) (kk : JJ E X d post n (pc + 1) ls st (up μ k i z.toInt)) : JJ E X d post n pc ls (.long z :: iv i :: rf E k :: st) μ := by
  intro ho H locs la hP hS hl
  obtain ⟨h1, h2⟩ := ix_in hi
  refine va_last G.1 G.2.1 G.2.2.2.2.2.2.1 hP (wd_D E μ) hS k 1 (wd_of μ hk) rfl h1 hd (fun H1 locs1 hP1 hD1 hS1 => ?_)
  rw [wd_set (μ2 := up μ k i z.toInt) hk ?_ up_other] at hP1
  · exact kk (ok_upL ho hk) H1 locs1 la hP1 hS1 hl
  · rw [en_long]
    refine congrArg (fun f => (Sum.inl (eA E 21, nn, Sum.inr (Sum.inl f)) : va_E)) (funext fun j => ?_)
    unfold vp_updL
    by_cases c : j = (Int32.ofInt i).toNatClampNeg
    · rw [if_pos c, c, h2, up_same, Int64.ofInt_toInt]
    · rw [if_neg c, up_idx (by omega)]
/-- the ends of a method -/
theorem qq_of (G : GO E X own cc n ret) {r : Option Value} {H : Heap} {locs : List Loc} (hp : post r μ) (ho : Ok E μ) (hP : va_P (eD E) vwCl (wd E μ) H) (hS : va_S (Reg E) X.2.2.1.heap H locs) : ∀ t : State, t.heap = H → X.2.2.1.WarmedH t.vm → Qq E post X.2.2.2.2.1 X.2.2.1 (.returned r) t := fun t ht hW => ⟨⟨r, μ, rfl, hp, ho, by rw [ht]; exact hP, va_K.moved hW.alike G.2.2.2.2.2.2.1⟩, hS.F ht⟩
theorem j_ireturn (G : GO E X own cc n (some .int)) {z : Int} (hd : decode cc pc = .ok (.ireturn, 1)) (hp : post (some (iv z)) μ) : JJ E X d post n pc ls [iv z] μ := fun ho H locs la hP hS hl => W.iret G.1 G.2.1 G.2.2.2.1 (qq_of G hp ho hP hS) hS.2.2 hd G.2.2.2.2.2.2.2
theorem j_zreturn (G : GO E X own cc n (some .boolean)) {z : Int} (hd : decode cc pc = .ok (.ireturn, 1)) (hz : z = 0 ∨ z = 1) (hp : post (some (iv z)) μ) : JJ E X d post n pc ls [iv z] μ := fun ho H locs la hP hS hl => W.zret G.1 G.2.1 G.2.2.2.1 (by rcases hz with h | h <;> subst h <;> decide) (qq_of G hp ho hP hS) hS.2.2 hd G.2.2.2.2.2.2.2
theorem j_lreturn (G : GO E X own cc n (some .long)) {z : Int64} (hd : decode cc pc = .ok (.lreturn, 1)) (hp : post (some (.long z)) μ) : JJ E X d post n pc ls [.long z] μ := fun ho H locs la hP hS hl => W.lret G.1 G.2.1 G.2.2.2.1 (qq_of G hp ho hP hS) hS.2.2 hd G.2.2.2.2.2.2.2
theorem j_return (G : GO E X own cc n none) (hd : decode cc pc = .ok (.return_, 1)) (hp : post none μ) : JJ E X d post n pc ls [] μ := fun ho H locs la hP hS hl => W.vret G.1 G.2.1 G.2.2.2.1 (qq_of G hp ho hP hS) hS.2.2 hd G.2.2.2.2.2.2.2
theorem j_areturn {C : String} (G : GO E X own cc n (some (.object C))) {k : Nat} (hd : decode cc pc = .ok (.areturn, 1)) (hp : post (some (rf E k)) μ) : JJ E X d post n pc ls [rf E k] μ := fun ho H locs la hP hS hl => W.aret G.1 G.2.1 G.2.2.2.1 (Or.inl ⟨_, rfl⟩) (Or.inr ⟨_, rfl⟩) (qq_of G hp ho hP hS) hS.2.2 hd G.2.2.2.2.2.2.2
theorem j_areturnN {C : String} (G : GO E X own cc n (some (.object C))) (hd : decode cc pc = .ok (.areturn, 1)) (hp : post (some .null) μ) : JJ E X d post n pc ls [.null] μ := fun ho H locs la hP hS hl => W.aret G.1 G.2.1 G.2.2.2.1 (Or.inl ⟨_, rfl⟩) (Or.inl rfl) (qq_of G hp ho hP hS) hS.2.2 hd G.2.2.2.2.2.2.2
/-- calls -/
def MV (own : String) (idx : Nat) (C : String) (y : MethodName) (na : Nat) : Prop := Cond.methodLink own idx y ∈ Tb ∧ Cond.instanceMethod y ∈ Tb ∧ Cond.selects C y y ∈ Tb ∧ Cond.initialized C ∈ Tb ∧ y.cls = C ∧ (y.cls ≠ "java/lang/invoke/MethodHandle" ∧ y.cls ≠ "java/lang/invoke/VarHandle") ∧ (parseMethodDescriptor y.desc).map (fun d => d.parameters.length) = some na
def MS (own : String) (idx : Nat) (y : MethodName) (na : Nat) : Prop := Cond.methodLink own idx y ∈ Tb ∧ Cond.static y ∈ Tb ∧ Cond.initialized y.cls ∈ Tb ∧ (y.cls ≠ "java/lang/invoke/MethodHandle" ∧ y.cls ≠ "java/lang/invoke/VarHandle") ∧ (parseMethodDescriptor y.desc).map (fun d => d.parameters.length) = some na
theorem j_run {d2 : Nat} {As stk : List Value} {H : Heap} {locs : List Loc} {la : Array Slot} {Pq : Pst} {a : Array Value} {g : JFrame} (hg : g = F0 X.2.2.2.1 pc la stk) (hr : va_Run X.1 (eL E) X.2.1 (rm d) X.2.2.1 X.2.2.2.1 X.2.2.2.2.1 X.2.2.2.2.2.1 X.2.2.2.2.2.2.1 X.2.2.2.2.2.2.2 H locs 0 0 0 0 g st (Qq E Pq a) (Reg E)) (hS : va_S (Reg E) X.2.2.1.heap H locs) (hl : lh la n ls) (kk : ∀ r μ2, Pq r μ2 → JJ E X d post n (pc + 3) ls (r.toList ++ st) μ2) :
    W X.1 (eL E) X.2.1 (rm d) X.2.2.1 X.2.2.2.1 X.2.2.2.2.1 X.2.2.2.2.2.1 X.2.2.2.2.2.2.1 X.2.2.2.2.2.2.2 H locs 0 0 (MQ X.2.2.2.2.2.1 (Qq E post) X.2.2.2.2.1 X.2.2.1 0 0 (Reg E)) (F0 X.2.2.2.1 pc la stk) := by
  subst hg
  intro T hT Xs
  obtain ⟨v, st₀, t, T', L, h0, X', hL, e1, e2, ⟨⟨r, μ2, hv, hp, ho2, hP2, hK2⟩, hz, hk⟩, sg⟩ := hr T hT Xs
  cases hv
  rw [h0] at hz hk
  have hS2 : va_S (Reg E) X.2.2.1.heap T'.heap (locs ++ L) := ⟨Nat.le_trans hS.1 (by rw [e1]; exact hz), fun q h1 h2 => by rw [e1, hk q (Nat.lt_of_lt_of_le h1 hS.1) h2]; exact hS.2.1 q h1 h2, fun q hq => by
    rcases List.mem_append.mp hq with h | h
    · exact hS.2.2 q h
    · exact hL q h⟩
  obtain ⟨t2, a1, b1⟩ := kk v μ2 hp ho2 T'.heap (locs ++ L) la (by rw [e1]; exact hP2) hS2 hl T' rfl X'
  exact ⟨t2, sg t2 a1, b1⟩
theorem j_callV (G : GO E X own cc n ret) {idx k ci nn na d2 : Nat} {rs : List (Option Nat)} {C : String} {T : u_T} {N : Nat} {y : MethodName} {As stk : List Value} {Pq : Pst} (hM : MV own idx C y na) (hd : decode cc pc = .ok (.invokevirtual idx, 3)) (hc : CT E d2 y (rf E k :: As) μ Pq) (hk : (eY E)[k]? = some (ci, nn, rs)) (hci : ci < 20) (hv : vwCl[ci]? = some (C, T, N)) (hn : As.length = na) (hst : stk = As.reverse ++ rf E k :: st) (hcat : (st.map fun v => v.category).sum ≤ 8) (hdd : d2 < d) (kk : ∀ r μ2, Pq r μ2 → JJ E X d post n (pc + 3) ls (r.toList ++ st) μ2) : JJ E X d post n pc ls stk μ := by
  intro ho H locs la hP hS hl
  obtain ⟨m1, m2, m3, m4, m5, m6, m7⟩ := hM
  obtain ⟨cc2, n2, ret2, c1, c2, c3⟩ := hc
  have hw := wd_of μ hk
  rw [en_obj hci] at hw
  have hts := G.2.2.2.2.2.1
  refine j_run (d2 := d2) (As := As) rfl (va_runV (As := As) (rest := st) (Ts := Tb) (C := C) (b := eB E + k) (n := na) ⟨G.1, G.2.1, G.2.2.1, G.2.2.2.2.1, hts⟩ c3 ⟨⟨rfl, rfl, ?_, ?_, pay_in hts (fun w hw => ?_), List.mem_cons_self, hts _ c1, hts _ (by rw [m5]; exact m4), m6, fun sig h => ?_, hts _ m1⟩, hts _ m2, hts _ m3⟩ ⟨Pp_blind _ _ _, va_recv G.2.2.2.2.2.2.1 hP hv hw, fun U hU hW => ⟨rfl, ho, by rw [hU]; exact hP, va_K.moved hW.alike G.2.2.2.2.2.2.1⟩⟩ rfl hn hl.1 hst (lv_room hcat) hd ⟨Nat.zero_le _, Nat.zero_le _⟩) hS hl kk
  · show d2 + 1 ≤ d
    omega
  · show 8 + (n2 + 11) + 64 * d2 ≤ 64 * d
    omega
  · rcases List.mem_cons.mp hw with h | h
    · exact ⟨h ▸ c1, Tb_good (h ▸ c1)⟩
    · exact ⟨h, Tb_good h⟩
  · rw [h] at m7
    exact (Option.some.inj m7).symm
theorem j_callS (G : GO E X own cc n ret) {idx na d2 : Nat} {y : MethodName} {As stk : List Value} {Pq : Pst} (hM : MS own idx y na) (hd : decode cc pc = .ok (.invokestatic idx, 3)) (hc : CT E d2 y As μ Pq) (hn : As.length = na) (hst : stk = As.reverse ++ st) (hcat : (st.map fun v => v.category).sum ≤ 8) (hdd : d2 < d) (kk : ∀ r μ2, Pq r μ2 → JJ E X d post n (pc + 3) ls (r.toList ++ st) μ2) : JJ E X d post n pc ls stk μ := by
  intro ho H locs la hP hS hl
  obtain ⟨m1, m2, m3, m6, m7⟩ := hM
  obtain ⟨cc2, n2, ret2, c1, c2, c3⟩ := hc
  have hts := G.2.2.2.2.2.1
  refine j_run (d2 := d2) (As := As) rfl (va_runS (As := As) (rest := st) (Ts := Tb) (n := na) ⟨G.1, G.2.1, G.2.2.1, G.2.2.2.2.1, hts⟩ c3 ⟨⟨rfl, rfl, ?_, ?_, pay_in hts (fun w hw => ?_), List.mem_cons_self, hts _ c1, hts _ m3, m6, fun sig h => ?_, hts _ m1⟩, hts _ m2⟩ ⟨Pp_blind _ _ _, fun U hU hW => ⟨rfl, ho, by rw [hU]; exact hP, va_K.moved hW.alike G.2.2.2.2.2.2.1⟩⟩ rfl hn hl.1 hst (lv_room hcat) hd ⟨Nat.zero_le _, Nat.zero_le _⟩) hS hl kk
  · show d2 + 1 ≤ d
    omega
  · show 8 + (n2 + 11) + 64 * d2 ≤ 64 * d
    omega
  · rcases List.mem_cons.mp hw with h | h
    · exact ⟨h ▸ c1, Tb_good (h ▸ c1)⟩
    · exact ⟨h, Tb_good h⟩
  · rw [h] at m7
    exact (Option.some.inj m7).symm
/-- a contract's end: this value, that memory -/
def rI (z : Int) (μ0 : MemT) : Pst := fun r μ2 => r = some (iv z) ∧ μ2 = μ0
def rV (v : Value) (μ0 : MemT) : Pst := fun r μ2 => r = some v ∧ μ2 = μ0
def rN (μ0 : MemT) : Pst := fun r μ2 => r = none ∧ μ2 = μ0
/-- a number that the rest says something of -/
def rP (Pr : Int → MemT → Prop) : Pst := fun r μ2 => ∃ z, r = some (iv z) ∧ Pr z μ2
def rM (Pr : MemT → Prop) : Pst := fun r μ2 => r = none ∧ Pr μ2
theorem kI {z : Int} {μ0 : MemT} (kk : JJ E X d post n pc ls (iv z :: st) μ0) : ∀ r μ2, rI z μ0 r μ2 → JJ E X d post n pc ls (r.toList ++ st) μ2 := fun r μ2 h => by
  obtain ⟨h1, h2⟩ := h
  subst h1; subst h2
  exact kk
theorem kV {v : Value} {μ0 : MemT} (kk : JJ E X d post n pc ls (v :: st) μ0) : ∀ r μ2, rV v μ0 r μ2 → JJ E X d post n pc ls (r.toList ++ st) μ2 := fun r μ2 h => by
  obtain ⟨h1, h2⟩ := h
  subst h1; subst h2
  exact kk
theorem kN {μ0 : MemT} (kk : JJ E X d post n pc ls st μ0) : ∀ r μ2, rN μ0 r μ2 → JJ E X d post n pc ls (r.toList ++ st) μ2 := fun r μ2 h => by
  obtain ⟨h1, h2⟩ := h
  subst h1; subst h2
  exact kk
theorem kP {Pr : Int → MemT → Prop} (kk : ∀ z μ2, Pr z μ2 → JJ E X d post n pc ls (iv z :: st) μ2) : ∀ r μ2, rP Pr r μ2 → JJ E X d post n pc ls (r.toList ++ st) μ2 := fun r μ2 h => by
  obtain ⟨z, h1, h2⟩ := h
  subst h1
  exact kk z μ2 h2
theorem kM {Pr : MemT → Prop} (kk : ∀ μ2, Pr μ2 → JJ E X d post n pc ls st μ2) : ∀ r μ2, rM Pr r μ2 → JJ E X d post n pc ls (r.toList ++ st) μ2 := fun r μ2 h => by
  obtain ⟨h1, h2⟩ := h
  subst h1
  exact kk μ2 h2
end JH
end
