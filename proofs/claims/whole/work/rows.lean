section
-- ===== PART A: goes FIRST, ahead of the names: the tables' words, and 'selects' of the private methods out of them =====
/-- a private method of a class that the tables say can be made, by its rows of tables_1 -/
def lw_okq (q : MethodName × Nat) : Prop := (q.1.cls ≠ "java/lang/invoke/MethodHandle" ∧ q.1.cls ≠ "java/lang/invoke/VarHandle") ∧ Cond.instantiable q.1.cls q.2 ∈ tables_1 ∧ Cond.privateMethod q.1 ∈ tables_1 ∧ Cond.instanceMethod q.1 ∈ tables_1
theorem lw_p0 : lw_okq (⟨"PosterSheet", "mayChange", "(I)Z"⟩, 10) := ⟨⟨by decide +kernel, by decide +kernel⟩, List.mem_of_getElem? (i := 19) (by decide +kernel), List.mem_of_getElem? (i := 260) (by decide +kernel), List.mem_of_getElem? (i := 261) (by decide +kernel)⟩
theorem lw_p1 : lw_okq (⟨"PosterSheet", "mayAnswer", "(I)Z"⟩, 10) := ⟨⟨by decide +kernel, by decide +kernel⟩, List.mem_of_getElem? (i := 19) (by decide +kernel), List.mem_of_getElem? (i := 264) (by decide +kernel), List.mem_of_getElem? (i := 265) (by decide +kernel)⟩
theorem lw_p2 : lw_okq (⟨"PosterSheet$Layout", "measure", "()V"⟩, 11) := ⟨⟨by decide +kernel, by decide +kernel⟩, List.mem_of_getElem? (i := 27) (by decide +kernel), List.mem_of_getElem? (i := 288) (by decide +kernel), List.mem_of_getElem? (i := 289) (by decide +kernel)⟩
theorem lw_p3 : lw_okq (⟨"PosterSheet$Layout", "isTrait", "(II)Z"⟩, 11) := ⟨⟨by decide +kernel, by decide +kernel⟩, List.mem_of_getElem? (i := 27) (by decide +kernel), List.mem_of_getElem? (i := 340) (by decide +kernel), List.mem_of_getElem? (i := 341) (by decide +kernel)⟩
theorem lw_p4 : lw_okq (⟨"PosterSheet$Scales", "add", "(LPosterSheet$Layout;III)V"⟩, 3) := ⟨⟨by decide +kernel, by decide +kernel⟩, List.mem_of_getElem? (i := 116) (by decide +kernel), List.mem_of_getElem? (i := 515) (by decide +kernel), List.mem_of_getElem? (i := 516) (by decide +kernel)⟩
theorem lw_p5 : lw_okq (⟨"PosterSheet$Scales", "balance", "(LPosterSheet$Layout;)D"⟩, 3) := ⟨⟨by decide +kernel, by decide +kernel⟩, List.mem_of_getElem? (i := 116) (by decide +kernel), List.mem_of_getElem? (i := 528) (by decide +kernel), List.mem_of_getElem? (i := 529) (by decide +kernel)⟩
theorem lw_p6 : lw_okq (⟨"PosterSheet$Scales", "centreX", "(LPosterSheet$Layout;)D"⟩, 3) := ⟨⟨by decide +kernel, by decide +kernel⟩, List.mem_of_getElem? (i := 116) (by decide +kernel), List.mem_of_getElem? (i := 532) (by decide +kernel), List.mem_of_getElem? (i := 533) (by decide +kernel)⟩
theorem lw_p7 : lw_okq (⟨"PosterSheet$Scales", "centreY", "(LPosterSheet$Layout;)D"⟩, 3) := ⟨⟨by decide +kernel, by decide +kernel⟩, List.mem_of_getElem? (i := 116) (by decide +kernel), List.mem_of_getElem? (i := 536) (by decide +kernel), List.mem_of_getElem? (i := 537) (by decide +kernel)⟩
theorem lw_p8 : lw_okq (⟨"PosterSheet$Places", "first", "(LPosterSheet$Layout;I)I"⟩, 3) := ⟨⟨by decide +kernel, by decide +kernel⟩, List.mem_of_getElem? (i := 132) (by decide +kernel), List.mem_of_getElem? (i := 557) (by decide +kernel), List.mem_of_getElem? (i := 558) (by decide +kernel)⟩
theorem lw_p9 : lw_okq (⟨"PosterSheet$Places", "findClashes", "(LPosterSheet$Layout;)I"⟩, 3) := ⟨⟨by decide +kernel, by decide +kernel⟩, List.mem_of_getElem? (i := 132) (by decide +kernel), List.mem_of_getElem? (i := 577) (by decide +kernel), List.mem_of_getElem? (i := 578) (by decide +kernel)⟩
theorem lw_p10 : lw_okq (⟨"PosterSheet$Places", "hasNoClash", "(I)Z"⟩, 3) := ⟨⟨by decide +kernel, by decide +kernel⟩, List.mem_of_getElem? (i := 132) (by decide +kernel), List.mem_of_getElem? (i := 586) (by decide +kernel), List.mem_of_getElem? (i := 587) (by decide +kernel)⟩
theorem lw_p11 : lw_okq (⟨"PosterSheet$Places", "takeOffAll", "(LPosterSheet$Layout;I)V"⟩, 3) := ⟨⟨by decide +kernel, by decide +kernel⟩, List.mem_of_getElem? (i := 132) (by decide +kernel), List.mem_of_getElem? (i := 596) (by decide +kernel), List.mem_of_getElem? (i := 597) (by decide +kernel)⟩
theorem lw_p12 : lw_okq (⟨"PosterSheet$Places", "nearest", "(LPosterSheet$Layout;III)I"⟩, 3) := ⟨⟨by decide +kernel, by decide +kernel⟩, List.mem_of_getElem? (i := 132) (by decide +kernel), List.mem_of_getElem? (i := 600) (by decide +kernel), List.mem_of_getElem? (i := 601) (by decide +kernel)⟩
theorem lw_p13 : lw_okq (⟨"PosterSheet$White", "cover", "(LPosterSheet$Layout;I)V"⟩, 11) := ⟨⟨by decide +kernel, by decide +kernel⟩, List.mem_of_getElem? (i := 148) (by decide +kernel), List.mem_of_getElem? (i := 635) (by decide +kernel), List.mem_of_getElem? (i := 636) (by decide +kernel)⟩
theorem lw_p14 : lw_okq (⟨"PosterSheet$White", "countCells", "()V"⟩, 11) := ⟨⟨by decide +kernel, by decide +kernel⟩, List.mem_of_getElem? (i := 148) (by decide +kernel), List.mem_of_getElem? (i := 645) (by decide +kernel), List.mem_of_getElem? (i := 646) (by decide +kernel)⟩
theorem lw_p15 : lw_okq (⟨"PosterSheet$White", "findBlock", "()V"⟩, 11) := ⟨⟨by decide +kernel, by decide +kernel⟩, List.mem_of_getElem? (i := 148) (by decide +kernel), List.mem_of_getElem? (i := 649) (by decide +kernel), List.mem_of_getElem? (i := 650) (by decide +kernel)⟩
def lw_privs_1 : List (MethodName × Nat) := [(⟨"PosterSheet", "mayChange", "(I)Z"⟩, 10), (⟨"PosterSheet", "mayAnswer", "(I)Z"⟩, 10), (⟨"PosterSheet$Layout", "measure", "()V"⟩, 11), (⟨"PosterSheet$Layout", "isTrait", "(II)Z"⟩, 11), (⟨"PosterSheet$Scales", "add", "(LPosterSheet$Layout;III)V"⟩, 3), (⟨"PosterSheet$Scales", "balance", "(LPosterSheet$Layout;)D"⟩, 3), (⟨"PosterSheet$Scales", "centreX", "(LPosterSheet$Layout;)D"⟩, 3), (⟨"PosterSheet$Scales", "centreY", "(LPosterSheet$Layout;)D"⟩, 3), (⟨"PosterSheet$Places", "first", "(LPosterSheet$Layout;I)I"⟩, 3), (⟨"PosterSheet$Places", "findClashes", "(LPosterSheet$Layout;)I"⟩, 3), (⟨"PosterSheet$Places", "hasNoClash", "(I)Z"⟩, 3), (⟨"PosterSheet$Places", "takeOffAll", "(LPosterSheet$Layout;I)V"⟩, 3), (⟨"PosterSheet$Places", "nearest", "(LPosterSheet$Layout;III)I"⟩, 3), (⟨"PosterSheet$White", "cover", "(LPosterSheet$Layout;I)V"⟩, 11), (⟨"PosterSheet$White", "countCells", "()V"⟩, 11), (⟨"PosterSheet$White", "findBlock", "()V"⟩, 11)]
theorem lw_r1 : ∀ q ∈ lw_privs_1, lw_okq q := List.forall_mem_cons.mpr ⟨lw_p0, List.forall_mem_cons.mpr ⟨lw_p1, List.forall_mem_cons.mpr ⟨lw_p2, List.forall_mem_cons.mpr ⟨lw_p3, List.forall_mem_cons.mpr ⟨lw_p4, List.forall_mem_cons.mpr ⟨lw_p5, List.forall_mem_cons.mpr ⟨lw_p6, List.forall_mem_cons.mpr ⟨lw_p7, List.forall_mem_cons.mpr ⟨lw_p8, List.forall_mem_cons.mpr ⟨lw_p9, List.forall_mem_cons.mpr ⟨lw_p10, List.forall_mem_cons.mpr ⟨lw_p11, List.forall_mem_cons.mpr ⟨lw_p12, List.forall_mem_cons.mpr ⟨lw_p13, List.forall_mem_cons.mpr ⟨lw_p14, List.forall_mem_cons.mpr ⟨lw_p15, fun _ h => absurd h List.not_mem_nil⟩⟩⟩⟩⟩⟩⟩⟩⟩⟩⟩⟩⟩⟩⟩⟩
theorem lw_p16 : lw_okq (⟨"PosterSheet$White", "tryBlocks", "(II)V"⟩, 11) := ⟨⟨by decide +kernel, by decide +kernel⟩, List.mem_of_getElem? (i := 148) (by decide +kernel), List.mem_of_getElem? (i := 653) (by decide +kernel), List.mem_of_getElem? (i := 654) (by decide +kernel)⟩
theorem lw_p17 : lw_okq (⟨"PosterSheet$White", "countParts", "()V"⟩, 11) := ⟨⟨by decide +kernel, by decide +kernel⟩, List.mem_of_getElem? (i := 148) (by decide +kernel), List.mem_of_getElem? (i := 657) (by decide +kernel), List.mem_of_getElem? (i := 658) (by decide +kernel)⟩
theorem lw_p18 : lw_okq (⟨"PosterSheet$White", "reach", "(II)V"⟩, 11) := ⟨⟨by decide +kernel, by decide +kernel⟩, List.mem_of_getElem? (i := 148) (by decide +kernel), List.mem_of_getElem? (i := 661) (by decide +kernel), List.mem_of_getElem? (i := 662) (by decide +kernel)⟩
theorem lw_p19 : lw_okq (⟨"PosterSheet$White", "spread", "(I)V"⟩, 11) := ⟨⟨by decide +kernel, by decide +kernel⟩, List.mem_of_getElem? (i := 148) (by decide +kernel), List.mem_of_getElem? (i := 666) (by decide +kernel), List.mem_of_getElem? (i := 667) (by decide +kernel)⟩
theorem lw_p20 : lw_okq (⟨"PosterSheet$White", "share", "()F"⟩, 11) := ⟨⟨by decide +kernel, by decide +kernel⟩, List.mem_of_getElem? (i := 148) (by decide +kernel), List.mem_of_getElem? (i := 674) (by decide +kernel), List.mem_of_getElem? (i := 675) (by decide +kernel)⟩
theorem lw_p21 : lw_okq (⟨"PosterSheet$Layout", "badlyLyingBits", "()I"⟩, 11) := ⟨⟨by decide +kernel, by decide +kernel⟩, List.mem_of_getElem? (i := 27) (by decide +kernel), List.mem_of_getElem? (i := 702) (by decide +kernel), List.mem_of_getElem? (i := 703) (by decide +kernel)⟩
theorem lw_p22 : lw_okq (⟨"PosterSheet$Layout", "lyingWeight", "()I"⟩, 11) := ⟨⟨by decide +kernel, by decide +kernel⟩, List.mem_of_getElem? (i := 27) (by decide +kernel), List.mem_of_getElem? (i := 706) (by decide +kernel), List.mem_of_getElem? (i := 707) (by decide +kernel)⟩
theorem lw_p23 : lw_okq (⟨"PosterSheet$Layout", "lesserPairs", "()I"⟩, 11) := ⟨⟨by decide +kernel, by decide +kernel⟩, List.mem_of_getElem? (i := 27) (by decide +kernel), List.mem_of_getElem? (i := 710) (by decide +kernel), List.mem_of_getElem? (i := 711) (by decide +kernel)⟩
theorem lw_p24 : lw_okq (⟨"PosterSheet$Layout", "howManyBefore", "(I)I"⟩, 11) := ⟨⟨by decide +kernel, by decide +kernel⟩, List.mem_of_getElem? (i := 27) (by decide +kernel), List.mem_of_getElem? (i := 724) (by decide +kernel), List.mem_of_getElem? (i := 725) (by decide +kernel)⟩
theorem lw_p25 : lw_okq (⟨"PosterSheet$Series", "then", "(III)I"⟩, 2) := ⟨⟨by decide +kernel, by decide +kernel⟩, List.mem_of_getElem? (i := 33) (by decide +kernel), List.mem_of_getElem? (i := 757) (by decide +kernel), List.mem_of_getElem? (i := 758) (by decide +kernel)⟩
theorem lw_p26 : lw_okq (⟨"PosterSheet$Series", "lay", "(II)Z"⟩, 2) := ⟨⟨by decide +kernel, by decide +kernel⟩, List.mem_of_getElem? (i := 33) (by decide +kernel), List.mem_of_getElem? (i := 771) (by decide +kernel), List.mem_of_getElem? (i := 772) (by decide +kernel)⟩
theorem lw_p27 : lw_okq (⟨"PosterSheet$Series", "isAlike", "(LPosterSheet$Layout;II)Z"⟩, 2) := ⟨⟨by decide +kernel, by decide +kernel⟩, List.mem_of_getElem? (i := 33) (by decide +kernel), List.mem_of_getElem? (i := 775) (by decide +kernel), List.mem_of_getElem? (i := 776) (by decide +kernel)⟩
theorem lw_p28 : lw_okq (⟨"PosterSheet$Text", "skipBlanks", "()V"⟩, 6) := ⟨⟨by decide +kernel, by decide +kernel⟩, List.mem_of_getElem? (i := 188) (by decide +kernel), List.mem_of_getElem? (i := 813) (by decide +kernel), List.mem_of_getElem? (i := 814) (by decide +kernel)⟩
theorem lw_p29 : lw_okq (⟨"PosterSheet$Text", "here", "()I"⟩, 6) := ⟨⟨by decide +kernel, by decide +kernel⟩, List.mem_of_getElem? (i := 188) (by decide +kernel), List.mem_of_getElem? (i := 817) (by decide +kernel), List.mem_of_getElem? (i := 818) (by decide +kernel)⟩
theorem lw_p30 : lw_okq (⟨"PosterSheet$Text", "findOrder", "(I)Z"⟩, 6) := ⟨⟨by decide +kernel, by decide +kernel⟩, List.mem_of_getElem? (i := 188) (by decide +kernel), List.mem_of_getElem? (i := 821) (by decide +kernel), List.mem_of_getElem? (i := 822) (by decide +kernel)⟩
theorem lw_p31 : lw_okq (⟨"PosterSheet$Text", "findNumber", "(I)Z"⟩, 6) := ⟨⟨by decide +kernel, by decide +kernel⟩, List.mem_of_getElem? (i := 188) (by decide +kernel), List.mem_of_getElem? (i := 831) (by decide +kernel), List.mem_of_getElem? (i := 832) (by decide +kernel)⟩
def lw_privs_2 : List (MethodName × Nat) := [(⟨"PosterSheet$White", "tryBlocks", "(II)V"⟩, 11), (⟨"PosterSheet$White", "countParts", "()V"⟩, 11), (⟨"PosterSheet$White", "reach", "(II)V"⟩, 11), (⟨"PosterSheet$White", "spread", "(I)V"⟩, 11), (⟨"PosterSheet$White", "share", "()F"⟩, 11), (⟨"PosterSheet$Layout", "badlyLyingBits", "()I"⟩, 11), (⟨"PosterSheet$Layout", "lyingWeight", "()I"⟩, 11), (⟨"PosterSheet$Layout", "lesserPairs", "()I"⟩, 11), (⟨"PosterSheet$Layout", "howManyBefore", "(I)I"⟩, 11), (⟨"PosterSheet$Series", "then", "(III)I"⟩, 2), (⟨"PosterSheet$Series", "lay", "(II)Z"⟩, 2), (⟨"PosterSheet$Series", "isAlike", "(LPosterSheet$Layout;II)Z"⟩, 2), (⟨"PosterSheet$Text", "skipBlanks", "()V"⟩, 6), (⟨"PosterSheet$Text", "here", "()I"⟩, 6), (⟨"PosterSheet$Text", "findOrder", "(I)Z"⟩, 6), (⟨"PosterSheet$Text", "findNumber", "(I)Z"⟩, 6)]
theorem lw_r2 : ∀ q ∈ lw_privs_2, lw_okq q := List.forall_mem_cons.mpr ⟨lw_p16, List.forall_mem_cons.mpr ⟨lw_p17, List.forall_mem_cons.mpr ⟨lw_p18, List.forall_mem_cons.mpr ⟨lw_p19, List.forall_mem_cons.mpr ⟨lw_p20, List.forall_mem_cons.mpr ⟨lw_p21, List.forall_mem_cons.mpr ⟨lw_p22, List.forall_mem_cons.mpr ⟨lw_p23, List.forall_mem_cons.mpr ⟨lw_p24, List.forall_mem_cons.mpr ⟨lw_p25, List.forall_mem_cons.mpr ⟨lw_p26, List.forall_mem_cons.mpr ⟨lw_p27, List.forall_mem_cons.mpr ⟨lw_p28, List.forall_mem_cons.mpr ⟨lw_p29, List.forall_mem_cons.mpr ⟨lw_p30, List.forall_mem_cons.mpr ⟨lw_p31, fun _ h => absurd h List.not_mem_nil⟩⟩⟩⟩⟩⟩⟩⟩⟩⟩⟩⟩⟩⟩⟩⟩
theorem lw_p32 : lw_okq (⟨"PosterSheet$Text", "isFigureHere", "()Z"⟩, 6) := ⟨⟨by decide +kernel, by decide +kernel⟩, List.mem_of_getElem? (i := 188) (by decide +kernel), List.mem_of_getElem? (i := 835) (by decide +kernel), List.mem_of_getElem? (i := 836) (by decide +kernel)⟩
theorem lw_p33 : lw_okq (⟨"PosterSheet", "obeys", "(I)Z"⟩, 10) := ⟨⟨by decide +kernel, by decide +kernel⟩, List.mem_of_getElem? (i := 19) (by decide +kernel), List.mem_of_getElem? (i := 840) (by decide +kernel), List.mem_of_getElem? (i := 841) (by decide +kernel)⟩
theorem lw_p34 : lw_okq (⟨"PosterSheetModel", "isItem", "(I)Z"⟩, 16) := ⟨⟨by decide +kernel, by decide +kernel⟩, List.mem_of_getElem? (i := 879) (by decide +kernel), List.mem_of_getElem? (i := 939) (by decide +kernel), List.mem_of_getElem? (i := 940) (by decide +kernel)⟩
theorem lw_p35 : lw_okq (⟨"PosterSheetModel", "many", "()I"⟩, 16) := ⟨⟨by decide +kernel, by decide +kernel⟩, List.mem_of_getElem? (i := 879) (by decide +kernel), List.mem_of_getElem? (i := 943) (by decide +kernel), List.mem_of_getElem? (i := 944) (by decide +kernel)⟩
theorem lw_p36 : lw_okq (⟨"PosterSheetModel", "isFit", "(III)Z"⟩, 16) := ⟨⟨by decide +kernel, by decide +kernel⟩, List.mem_of_getElem? (i := 879) (by decide +kernel), List.mem_of_getElem? (i := 954) (by decide +kernel), List.mem_of_getElem? (i := 955) (by decide +kernel)⟩
theorem lw_p37 : lw_okq (⟨"PosterSheetModel", "isWithin", "(III)Z"⟩, 16) := ⟨⟨by decide +kernel, by decide +kernel⟩, List.mem_of_getElem? (i := 879) (by decide +kernel), List.mem_of_getElem? (i := 958) (by decide +kernel), List.mem_of_getElem? (i := 959) (by decide +kernel)⟩
theorem lw_p38 : lw_okq (⟨"PosterSheetModel", "wide", "(I)I"⟩, 16) := ⟨⟨by decide +kernel, by decide +kernel⟩, List.mem_of_getElem? (i := 879) (by decide +kernel), List.mem_of_getElem? (i := 962) (by decide +kernel), List.mem_of_getElem? (i := 963) (by decide +kernel)⟩
theorem lw_p39 : lw_okq (⟨"PosterSheetModel", "its", "(II)I"⟩, 16) := ⟨⟨by decide +kernel, by decide +kernel⟩, List.mem_of_getElem? (i := 879) (by decide +kernel), List.mem_of_getElem? (i := 966) (by decide +kernel), List.mem_of_getElem? (i := 967) (by decide +kernel)⟩
theorem lw_p40 : lw_okq (⟨"PosterSheetModel", "sideOf", "(I)F"⟩, 16) := ⟨⟨by decide +kernel, by decide +kernel⟩, List.mem_of_getElem? (i := 879) (by decide +kernel), List.mem_of_getElem? (i := 970) (by decide +kernel), List.mem_of_getElem? (i := 971) (by decide +kernel)⟩
theorem lw_p41 : lw_okq (⟨"PosterSheetModel", "high", "(I)I"⟩, 16) := ⟨⟨by decide +kernel, by decide +kernel⟩, List.mem_of_getElem? (i := 879) (by decide +kernel), List.mem_of_getElem? (i := 979) (by decide +kernel), List.mem_of_getElem? (i := 980) (by decide +kernel)⟩
theorem lw_p42 : lw_okq (⟨"PosterSheetModel", "isLine", "(I)Z"⟩, 16) := ⟨⟨by decide +kernel, by decide +kernel⟩, List.mem_of_getElem? (i := 879) (by decide +kernel), List.mem_of_getElem? (i := 983) (by decide +kernel), List.mem_of_getElem? (i := 984) (by decide +kernel)⟩
theorem lw_p43 : lw_okq (⟨"PosterSheetModel", "lineAt", "(I)I"⟩, 16) := ⟨⟨by decide +kernel, by decide +kernel⟩, List.mem_of_getElem? (i := 879) (by decide +kernel), List.mem_of_getElem? (i := 987) (by decide +kernel), List.mem_of_getElem? (i := 988) (by decide +kernel)⟩
theorem lw_p44 : lw_okq (⟨"PosterSheetModel", "lies", "(I)Z"⟩, 16) := ⟨⟨by decide +kernel, by decide +kernel⟩, List.mem_of_getElem? (i := 879) (by decide +kernel), List.mem_of_getElem? (i := 991) (by decide +kernel), List.mem_of_getElem? (i := 992) (by decide +kernel)⟩
theorem lw_p45 : lw_okq (⟨"PosterSheetModel", "isApart", "(IIII)Z"⟩, 16) := ⟨⟨by decide +kernel, by decide +kernel⟩, List.mem_of_getElem? (i := 879) (by decide +kernel), List.mem_of_getElem? (i := 995) (by decide +kernel), List.mem_of_getElem? (i := 996) (by decide +kernel)⟩
theorem lw_p46 : lw_okq (⟨"PosterSheetModel", "refuses", "(I)I"⟩, 16) := ⟨⟨by decide +kernel, by decide +kernel⟩, List.mem_of_getElem? (i := 879) (by decide +kernel), List.mem_of_getElem? (i := 999) (by decide +kernel), List.mem_of_getElem? (i := 1000) (by decide +kernel)⟩
theorem lw_p47 : lw_okq (⟨"PosterSheetModel", "keep", "()V"⟩, 16) := ⟨⟨by decide +kernel, by decide +kernel⟩, List.mem_of_getElem? (i := 879) (by decide +kernel), List.mem_of_getElem? (i := 1012) (by decide +kernel), List.mem_of_getElem? (i := 1013) (by decide +kernel)⟩
def lw_privs_3 : List (MethodName × Nat) := [(⟨"PosterSheet$Text", "isFigureHere", "()Z"⟩, 6), (⟨"PosterSheet", "obeys", "(I)Z"⟩, 10), (⟨"PosterSheetModel", "isItem", "(I)Z"⟩, 16), (⟨"PosterSheetModel", "many", "()I"⟩, 16), (⟨"PosterSheetModel", "isFit", "(III)Z"⟩, 16), (⟨"PosterSheetModel", "isWithin", "(III)Z"⟩, 16), (⟨"PosterSheetModel", "wide", "(I)I"⟩, 16), (⟨"PosterSheetModel", "its", "(II)I"⟩, 16), (⟨"PosterSheetModel", "sideOf", "(I)F"⟩, 16), (⟨"PosterSheetModel", "high", "(I)I"⟩, 16), (⟨"PosterSheetModel", "isLine", "(I)Z"⟩, 16), (⟨"PosterSheetModel", "lineAt", "(I)I"⟩, 16), (⟨"PosterSheetModel", "lies", "(I)Z"⟩, 16), (⟨"PosterSheetModel", "isApart", "(IIII)Z"⟩, 16), (⟨"PosterSheetModel", "refuses", "(I)I"⟩, 16), (⟨"PosterSheetModel", "keep", "()V"⟩, 16)]
theorem lw_r3 : ∀ q ∈ lw_privs_3, lw_okq q := List.forall_mem_cons.mpr ⟨lw_p32, List.forall_mem_cons.mpr ⟨lw_p33, List.forall_mem_cons.mpr ⟨lw_p34, List.forall_mem_cons.mpr ⟨lw_p35, List.forall_mem_cons.mpr ⟨lw_p36, List.forall_mem_cons.mpr ⟨lw_p37, List.forall_mem_cons.mpr ⟨lw_p38, List.forall_mem_cons.mpr ⟨lw_p39, List.forall_mem_cons.mpr ⟨lw_p40, List.forall_mem_cons.mpr ⟨lw_p41, List.forall_mem_cons.mpr ⟨lw_p42, List.forall_mem_cons.mpr ⟨lw_p43, List.forall_mem_cons.mpr ⟨lw_p44, List.forall_mem_cons.mpr ⟨lw_p45, List.forall_mem_cons.mpr ⟨lw_p46, List.forall_mem_cons.mpr ⟨lw_p47, fun _ h => absurd h List.not_mem_nil⟩⟩⟩⟩⟩⟩⟩⟩⟩⟩⟩⟩⟩⟩⟩⟩
theorem lw_p48 : lw_okq (⟨"PosterSheetModel", "sheetNow", "(II)I"⟩, 16) := ⟨⟨by decide +kernel, by decide +kernel⟩, List.mem_of_getElem? (i := 879) (by decide +kernel), List.mem_of_getElem? (i := 1016) (by decide +kernel), List.mem_of_getElem? (i := 1017) (by decide +kernel)⟩
theorem lw_p49 : lw_okq (⟨"PosterSheetModel", "setNow", "(II)I"⟩, 16) := ⟨⟨by decide +kernel, by decide +kernel⟩, List.mem_of_getElem? (i := 879) (by decide +kernel), List.mem_of_getElem? (i := 1031) (by decide +kernel), List.mem_of_getElem? (i := 1032) (by decide +kernel)⟩
theorem lw_p50 : lw_okq (⟨"PosterSheetModel", "canItem", "(IIII)I"⟩, 16) := ⟨⟨by decide +kernel, by decide +kernel⟩, List.mem_of_getElem? (i := 879) (by decide +kernel), List.mem_of_getElem? (i := 1039) (by decide +kernel), List.mem_of_getElem? (i := 1040) (by decide +kernel)⟩
theorem lw_p51 : lw_okq (⟨"PosterSheetModel", "itemNow", "(IIII)I"⟩, 16) := ⟨⟨by decide +kernel, by decide +kernel⟩, List.mem_of_getElem? (i := 879) (by decide +kernel), List.mem_of_getElem? (i := 1048) (by decide +kernel), List.mem_of_getElem? (i := 1049) (by decide +kernel)⟩
theorem lw_p52 : lw_okq (⟨"PosterSheetModel", "puts", "(III)V"⟩, 16) := ⟨⟨by decide +kernel, by decide +kernel⟩, List.mem_of_getElem? (i := 879) (by decide +kernel), List.mem_of_getElem? (i := 1052) (by decide +kernel), List.mem_of_getElem? (i := 1053) (by decide +kernel)⟩
theorem lw_p53 : lw_okq (⟨"PosterSheetModel", "ofNow", "(II)I"⟩, 16) := ⟨⟨by decide +kernel, by decide +kernel⟩, List.mem_of_getElem? (i := 879) (by decide +kernel), List.mem_of_getElem? (i := 1069) (by decide +kernel), List.mem_of_getElem? (i := 1070) (by decide +kernel)⟩
theorem lw_p54 : lw_okq (⟨"PosterSheetModel", "weight", "(I)I"⟩, 16) := ⟨⟨by decide +kernel, by decide +kernel⟩, List.mem_of_getElem? (i := 879) (by decide +kernel), List.mem_of_getElem? (i := 1073) (by decide +kernel), List.mem_of_getElem? (i := 1074) (by decide +kernel)⟩
theorem lw_p55 : lw_okq (⟨"PosterSheetModel", "isFitThere", "(I)Z"⟩, 16) := ⟨⟨by decide +kernel, by decide +kernel⟩, List.mem_of_getElem? (i := 879) (by decide +kernel), List.mem_of_getElem? (i := 1077) (by decide +kernel), List.mem_of_getElem? (i := 1078) (by decide +kernel)⟩
theorem lw_p56 : lw_okq (⟨"PosterSheetModel", "sideBits", "(I)I"⟩, 16) := ⟨⟨by decide +kernel, by decide +kernel⟩, List.mem_of_getElem? (i := 879) (by decide +kernel), List.mem_of_getElem? (i := 1085) (by decide +kernel), List.mem_of_getElem? (i := 1086) (by decide +kernel)⟩
theorem lw_p57 : lw_okq (⟨"PosterSheetModel", "canLay", "(III)I"⟩, 16) := ⟨⟨by decide +kernel, by decide +kernel⟩, List.mem_of_getElem? (i := 879) (by decide +kernel), List.mem_of_getElem? (i := 1107) (by decide +kernel), List.mem_of_getElem? (i := 1108) (by decide +kernel)⟩
theorem lw_p58 : lw_okq (⟨"PosterSheetModel", "layNow", "(III)I"⟩, 16) := ⟨⟨by decide +kernel, by decide +kernel⟩, List.mem_of_getElem? (i := 879) (by decide +kernel), List.mem_of_getElem? (i := 1111) (by decide +kernel), List.mem_of_getElem? (i := 1112) (by decide +kernel)⟩
theorem lw_p59 : lw_okq (⟨"PosterSheetModel", "canOff", "(I)I"⟩, 16) := ⟨⟨by decide +kernel, by decide +kernel⟩, List.mem_of_getElem? (i := 879) (by decide +kernel), List.mem_of_getElem? (i := 1119) (by decide +kernel), List.mem_of_getElem? (i := 1120) (by decide +kernel)⟩
theorem lw_p60 : lw_okq (⟨"PosterSheetModel", "offNow", "(I)I"⟩, 16) := ⟨⟨by decide +kernel, by decide +kernel⟩, List.mem_of_getElem? (i := 879) (by decide +kernel), List.mem_of_getElem? (i := 1123) (by decide +kernel), List.mem_of_getElem? (i := 1124) (by decide +kernel)⟩
theorem lw_p61 : lw_okq (⟨"PosterSheetModel", "liesMany", "()I"⟩, 16) := ⟨⟨by decide +kernel, by decide +kernel⟩, List.mem_of_getElem? (i := 879) (by decide +kernel), List.mem_of_getElem? (i := 1127) (by decide +kernel), List.mem_of_getElem? (i := 1128) (by decide +kernel)⟩
theorem lw_p62 : lw_okq (⟨"PosterSheetModel", "freeNow", "(II)I"⟩, 16) := ⟨⟨by decide +kernel, by decide +kernel⟩, List.mem_of_getElem? (i := 879) (by decide +kernel), List.mem_of_getElem? (i := 1139) (by decide +kernel), List.mem_of_getElem? (i := 1140) (by decide +kernel)⟩
theorem lw_p63 : lw_okq (⟨"PosterSheetModel", "firstPlace", "(I)I"⟩, 16) := ⟨⟨by decide +kernel, by decide +kernel⟩, List.mem_of_getElem? (i := 879) (by decide +kernel), List.mem_of_getElem? (i := 1143) (by decide +kernel), List.mem_of_getElem? (i := 1144) (by decide +kernel)⟩
def lw_privs_4 : List (MethodName × Nat) := [(⟨"PosterSheetModel", "sheetNow", "(II)I"⟩, 16), (⟨"PosterSheetModel", "setNow", "(II)I"⟩, 16), (⟨"PosterSheetModel", "canItem", "(IIII)I"⟩, 16), (⟨"PosterSheetModel", "itemNow", "(IIII)I"⟩, 16), (⟨"PosterSheetModel", "puts", "(III)V"⟩, 16), (⟨"PosterSheetModel", "ofNow", "(II)I"⟩, 16), (⟨"PosterSheetModel", "weight", "(I)I"⟩, 16), (⟨"PosterSheetModel", "isFitThere", "(I)Z"⟩, 16), (⟨"PosterSheetModel", "sideBits", "(I)I"⟩, 16), (⟨"PosterSheetModel", "canLay", "(III)I"⟩, 16), (⟨"PosterSheetModel", "layNow", "(III)I"⟩, 16), (⟨"PosterSheetModel", "canOff", "(I)I"⟩, 16), (⟨"PosterSheetModel", "offNow", "(I)I"⟩, 16), (⟨"PosterSheetModel", "liesMany", "()I"⟩, 16), (⟨"PosterSheetModel", "freeNow", "(II)I"⟩, 16), (⟨"PosterSheetModel", "firstPlace", "(I)I"⟩, 16)]
theorem lw_r4 : ∀ q ∈ lw_privs_4, lw_okq q := List.forall_mem_cons.mpr ⟨lw_p48, List.forall_mem_cons.mpr ⟨lw_p49, List.forall_mem_cons.mpr ⟨lw_p50, List.forall_mem_cons.mpr ⟨lw_p51, List.forall_mem_cons.mpr ⟨lw_p52, List.forall_mem_cons.mpr ⟨lw_p53, List.forall_mem_cons.mpr ⟨lw_p54, List.forall_mem_cons.mpr ⟨lw_p55, List.forall_mem_cons.mpr ⟨lw_p56, List.forall_mem_cons.mpr ⟨lw_p57, List.forall_mem_cons.mpr ⟨lw_p58, List.forall_mem_cons.mpr ⟨lw_p59, List.forall_mem_cons.mpr ⟨lw_p60, List.forall_mem_cons.mpr ⟨lw_p61, List.forall_mem_cons.mpr ⟨lw_p62, List.forall_mem_cons.mpr ⟨lw_p63, fun _ h => absurd h List.not_mem_nil⟩⟩⟩⟩⟩⟩⟩⟩⟩⟩⟩⟩⟩⟩⟩⟩
theorem lw_p64 : lw_okq (⟨"PosterSheetModel", "placesMany", "(I)I"⟩, 16) := ⟨⟨by decide +kernel, by decide +kernel⟩, List.mem_of_getElem? (i := 879) (by decide +kernel), List.mem_of_getElem? (i := 1147) (by decide +kernel), List.mem_of_getElem? (i := 1148) (by decide +kernel)⟩
theorem lw_p65 : lw_okq (⟨"PosterSheetModel", "bestPlace", "(I)I"⟩, 16) := ⟨⟨by decide +kernel, by decide +kernel⟩, List.mem_of_getElem? (i := 879) (by decide +kernel), List.mem_of_getElem? (i := 1151) (by decide +kernel), List.mem_of_getElem? (i := 1152) (by decide +kernel)⟩
theorem lw_p66 : lw_okq (⟨"PosterSheetModel", "balance", "()D"⟩, 16) := ⟨⟨by decide +kernel, by decide +kernel⟩, List.mem_of_getElem? (i := 879) (by decide +kernel), List.mem_of_getElem? (i := 1155) (by decide +kernel), List.mem_of_getElem? (i := 1156) (by decide +kernel)⟩
theorem lw_p67 : lw_okq (⟨"PosterSheetModel", "centreOf", "(Z)D"⟩, 16) := ⟨⟨by decide +kernel, by decide +kernel⟩, List.mem_of_getElem? (i := 879) (by decide +kernel), List.mem_of_getElem? (i := 1159) (by decide +kernel), List.mem_of_getElem? (i := 1160) (by decide +kernel)⟩
theorem lw_p68 : lw_okq (⟨"PosterSheetModel", "weights", "()I"⟩, 16) := ⟨⟨by decide +kernel, by decide +kernel⟩, List.mem_of_getElem? (i := 879) (by decide +kernel), List.mem_of_getElem? (i := 1163) (by decide +kernel), List.mem_of_getElem? (i := 1164) (by decide +kernel)⟩
theorem lw_p69 : lw_okq (⟨"PosterSheetModel", "middle", "(Z)D"⟩, 16) := ⟨⟨by decide +kernel, by decide +kernel⟩, List.mem_of_getElem? (i := 879) (by decide +kernel), List.mem_of_getElem? (i := 1168) (by decide +kernel), List.mem_of_getElem? (i := 1169) (by decide +kernel)⟩
theorem lw_p70 : lw_okq (⟨"PosterSheetModel", "lastPlace", "(I)I"⟩, 16) := ⟨⟨by decide +kernel, by decide +kernel⟩, List.mem_of_getElem? (i := 879) (by decide +kernel), List.mem_of_getElem? (i := 1172) (by decide +kernel), List.mem_of_getElem? (i := 1173) (by decide +kernel)⟩
theorem lw_p71 : lw_okq (⟨"PosterSheetModel", "packNow", "()I"⟩, 16) := ⟨⟨by decide +kernel, by decide +kernel⟩, List.mem_of_getElem? (i := 879) (by decide +kernel), List.mem_of_getElem? (i := 1180) (by decide +kernel), List.mem_of_getElem? (i := 1181) (by decide +kernel)⟩
theorem lw_p72 : lw_okq (⟨"PosterSheetModel", "staying", "()I"⟩, 16) := ⟨⟨by decide +kernel, by decide +kernel⟩, List.mem_of_getElem? (i := 879) (by decide +kernel), List.mem_of_getElem? (i := 1188) (by decide +kernel), List.mem_of_getElem? (i := 1189) (by decide +kernel)⟩
theorem lw_p73 : lw_okq (⟨"PosterSheetModel", "areFit", "(I)Z"⟩, 16) := ⟨⟨by decide +kernel, by decide +kernel⟩, List.mem_of_getElem? (i := 879) (by decide +kernel), List.mem_of_getElem? (i := 1192) (by decide +kernel), List.mem_of_getElem? (i := 1193) (by decide +kernel)⟩
theorem lw_p74 : lw_okq (⟨"PosterSheetModel", "nearest", "(III)I"⟩, 16) := ⟨⟨by decide +kernel, by decide +kernel⟩, List.mem_of_getElem? (i := 879) (by decide +kernel), List.mem_of_getElem? (i := 1203) (by decide +kernel), List.mem_of_getElem? (i := 1204) (by decide +kernel)⟩
theorem lw_p75 : lw_okq (⟨"PosterSheetModel", "isCell", "(II)Z"⟩, 16) := ⟨⟨by decide +kernel, by decide +kernel⟩, List.mem_of_getElem? (i := 879) (by decide +kernel), List.mem_of_getElem? (i := 1214) (by decide +kernel), List.mem_of_getElem? (i := 1215) (by decide +kernel)⟩
theorem lw_p76 : lw_okq (⟨"PosterSheetModel", "covering", "(II)I"⟩, 16) := ⟨⟨by decide +kernel, by decide +kernel⟩, List.mem_of_getElem? (i := 879) (by decide +kernel), List.mem_of_getElem? (i := 1218) (by decide +kernel), List.mem_of_getElem? (i := 1219) (by decide +kernel)⟩
theorem lw_p77 : lw_okq (⟨"PosterSheetModel", "covers", "(III)Z"⟩, 16) := ⟨⟨by decide +kernel, by decide +kernel⟩, List.mem_of_getElem? (i := 879) (by decide +kernel), List.mem_of_getElem? (i := 1222) (by decide +kernel), List.mem_of_getElem? (i := 1223) (by decide +kernel)⟩
theorem lw_p78 : lw_okq (⟨"PosterSheetModel", "whiteNow", "(I)I"⟩, 16) := ⟨⟨by decide +kernel, by decide +kernel⟩, List.mem_of_getElem? (i := 879) (by decide +kernel), List.mem_of_getElem? (i := 1231) (by decide +kernel), List.mem_of_getElem? (i := 1232) (by decide +kernel)⟩
theorem lw_p79 : lw_okq (⟨"PosterSheetModel", "laysWhite", "()I"⟩, 16) := ⟨⟨by decide +kernel, by decide +kernel⟩, List.mem_of_getElem? (i := 879) (by decide +kernel), List.mem_of_getElem? (i := 1235) (by decide +kernel), List.mem_of_getElem? (i := 1236) (by decide +kernel)⟩
def lw_privs_5 : List (MethodName × Nat) := [(⟨"PosterSheetModel", "placesMany", "(I)I"⟩, 16), (⟨"PosterSheetModel", "bestPlace", "(I)I"⟩, 16), (⟨"PosterSheetModel", "balance", "()D"⟩, 16), (⟨"PosterSheetModel", "centreOf", "(Z)D"⟩, 16), (⟨"PosterSheetModel", "weights", "()I"⟩, 16), (⟨"PosterSheetModel", "middle", "(Z)D"⟩, 16), (⟨"PosterSheetModel", "lastPlace", "(I)I"⟩, 16), (⟨"PosterSheetModel", "packNow", "()I"⟩, 16), (⟨"PosterSheetModel", "staying", "()I"⟩, 16), (⟨"PosterSheetModel", "areFit", "(I)Z"⟩, 16), (⟨"PosterSheetModel", "nearest", "(III)I"⟩, 16), (⟨"PosterSheetModel", "isCell", "(II)Z"⟩, 16), (⟨"PosterSheetModel", "covering", "(II)I"⟩, 16), (⟨"PosterSheetModel", "covers", "(III)Z"⟩, 16), (⟨"PosterSheetModel", "whiteNow", "(I)I"⟩, 16), (⟨"PosterSheetModel", "laysWhite", "()I"⟩, 16)]
theorem lw_r5 : ∀ q ∈ lw_privs_5, lw_okq q := List.forall_mem_cons.mpr ⟨lw_p64, List.forall_mem_cons.mpr ⟨lw_p65, List.forall_mem_cons.mpr ⟨lw_p66, List.forall_mem_cons.mpr ⟨lw_p67, List.forall_mem_cons.mpr ⟨lw_p68, List.forall_mem_cons.mpr ⟨lw_p69, List.forall_mem_cons.mpr ⟨lw_p70, List.forall_mem_cons.mpr ⟨lw_p71, List.forall_mem_cons.mpr ⟨lw_p72, List.forall_mem_cons.mpr ⟨lw_p73, List.forall_mem_cons.mpr ⟨lw_p74, List.forall_mem_cons.mpr ⟨lw_p75, List.forall_mem_cons.mpr ⟨lw_p76, List.forall_mem_cons.mpr ⟨lw_p77, List.forall_mem_cons.mpr ⟨lw_p78, List.forall_mem_cons.mpr ⟨lw_p79, fun _ h => absurd h List.not_mem_nil⟩⟩⟩⟩⟩⟩⟩⟩⟩⟩⟩⟩⟩⟩⟩⟩
theorem lw_p80 : lw_okq (⟨"PosterSheetModel", "heaps", "()I"⟩, 16) := ⟨⟨by decide +kernel, by decide +kernel⟩, List.mem_of_getElem? (i := 879) (by decide +kernel), List.mem_of_getElem? (i := 1239) (by decide +kernel), List.mem_of_getElem? (i := 1240) (by decide +kernel)⟩
theorem lw_p81 : lw_okq (⟨"PosterSheetModel", "heapOf", "(I)I"⟩, 16) := ⟨⟨by decide +kernel, by decide +kernel⟩, List.mem_of_getElem? (i := 879) (by decide +kernel), List.mem_of_getElem? (i := 1243) (by decide +kernel), List.mem_of_getElem? (i := 1244) (by decide +kernel)⟩
theorem lw_p82 : lw_okq (⟨"PosterSheetModel", "findsBlock", "()V"⟩, 16) := ⟨⟨by decide +kernel, by decide +kernel⟩, List.mem_of_getElem? (i := 879) (by decide +kernel), List.mem_of_getElem? (i := 1247) (by decide +kernel), List.mem_of_getElem? (i := 1248) (by decide +kernel)⟩
theorem lw_p83 : lw_okq (⟨"PosterSheetModel", "centreBits", "(I)J"⟩, 16) := ⟨⟨by decide +kernel, by decide +kernel⟩, List.mem_of_getElem? (i := 879) (by decide +kernel), List.mem_of_getElem? (i := 1255) (by decide +kernel), List.mem_of_getElem? (i := 1256) (by decide +kernel)⟩
theorem lw_p84 : lw_okq (⟨"PosterSheetModel", "allNow", "(I)I"⟩, 16) := ⟨⟨by decide +kernel, by decide +kernel⟩, List.mem_of_getElem? (i := 879) (by decide +kernel), List.mem_of_getElem? (i := 1273) (by decide +kernel), List.mem_of_getElem? (i := 1274) (by decide +kernel)⟩
theorem lw_p85 : lw_okq (⟨"PosterSheetModel", "smallPairs", "()I"⟩, 16) := ⟨⟨by decide +kernel, by decide +kernel⟩, List.mem_of_getElem? (i := 879) (by decide +kernel), List.mem_of_getElem? (i := 1277) (by decide +kernel), List.mem_of_getElem? (i := 1278) (by decide +kernel)⟩
theorem lw_p86 : lw_okq (⟨"PosterSheetModel", "cells", "(I)I"⟩, 16) := ⟨⟨by decide +kernel, by decide +kernel⟩, List.mem_of_getElem? (i := 879) (by decide +kernel), List.mem_of_getElem? (i := 1281) (by decide +kernel), List.mem_of_getElem? (i := 1282) (by decide +kernel)⟩
theorem lw_p87 : lw_okq (⟨"PosterSheetModel", "aheadOf", "(I)I"⟩, 16) := ⟨⟨by decide +kernel, by decide +kernel⟩, List.mem_of_getElem? (i := 879) (by decide +kernel), List.mem_of_getElem? (i := 1289) (by decide +kernel), List.mem_of_getElem? (i := 1290) (by decide +kernel)⟩
theorem lw_p88 : lw_okq (⟨"PosterSheetModel", "isKept", "(I)Z"⟩, 16) := ⟨⟨by decide +kernel, by decide +kernel⟩, List.mem_of_getElem? (i := 879) (by decide +kernel), List.mem_of_getElem? (i := 1301) (by decide +kernel), List.mem_of_getElem? (i := 1302) (by decide +kernel)⟩
theorem lw_p89 : lw_okq (⟨"PosterSheetModel", "kept", "(III)I"⟩, 16) := ⟨⟨by decide +kernel, by decide +kernel⟩, List.mem_of_getElem? (i := 879) (by decide +kernel), List.mem_of_getElem? (i := 1305) (by decide +kernel), List.mem_of_getElem? (i := 1306) (by decide +kernel)⟩
theorem lw_p90 : lw_okq (⟨"PosterSheetModel", "otherwiseNow", "(II)I"⟩, 16) := ⟨⟨by decide +kernel, by decide +kernel⟩, List.mem_of_getElem? (i := 879) (by decide +kernel), List.mem_of_getElem? (i := 1313) (by decide +kernel), List.mem_of_getElem? (i := 1314) (by decide +kernel)⟩
theorem lw_p91 : lw_okq (⟨"PosterSheetModel", "readsOrder", "(Z)Z"⟩, 16) := ⟨⟨by decide +kernel, by decide +kernel⟩, List.mem_of_getElem? (i := 879) (by decide +kernel), List.mem_of_getElem? (i := 1330) (by decide +kernel), List.mem_of_getElem? (i := 1331) (by decide +kernel)⟩
theorem lw_p92 : lw_okq (⟨"PosterSheetModel", "here", "()I"⟩, 16) := ⟨⟨by decide +kernel, by decide +kernel⟩, List.mem_of_getElem? (i := 879) (by decide +kernel), List.mem_of_getElem? (i := 1334) (by decide +kernel), List.mem_of_getElem? (i := 1335) (by decide +kernel)⟩
theorem lw_p93 : lw_okq (⟨"PosterSheetModel", "takesAll", "(I)Z"⟩, 16) := ⟨⟨by decide +kernel, by decide +kernel⟩, List.mem_of_getElem? (i := 879) (by decide +kernel), List.mem_of_getElem? (i := 1344) (by decide +kernel), List.mem_of_getElem? (i := 1345) (by decide +kernel)⟩
theorem lw_p94 : lw_okq (⟨"PosterSheetModel", "isFigure", "(I)Z"⟩, 16) := ⟨⟨by decide +kernel, by decide +kernel⟩, List.mem_of_getElem? (i := 879) (by decide +kernel), List.mem_of_getElem? (i := 1348) (by decide +kernel), List.mem_of_getElem? (i := 1349) (by decide +kernel)⟩
theorem lw_p95 : lw_okq (⟨"PosterSheetModel", "can", "(I)I"⟩, 16) := ⟨⟨by decide +kernel, by decide +kernel⟩, List.mem_of_getElem? (i := 879) (by decide +kernel), List.mem_of_getElem? (i := 1354) (by decide +kernel), List.mem_of_getElem? (i := 1355) (by decide +kernel)⟩
def lw_privs_6 : List (MethodName × Nat) := [(⟨"PosterSheetModel", "heaps", "()I"⟩, 16), (⟨"PosterSheetModel", "heapOf", "(I)I"⟩, 16), (⟨"PosterSheetModel", "findsBlock", "()V"⟩, 16), (⟨"PosterSheetModel", "centreBits", "(I)J"⟩, 16), (⟨"PosterSheetModel", "allNow", "(I)I"⟩, 16), (⟨"PosterSheetModel", "smallPairs", "()I"⟩, 16), (⟨"PosterSheetModel", "cells", "(I)I"⟩, 16), (⟨"PosterSheetModel", "aheadOf", "(I)I"⟩, 16), (⟨"PosterSheetModel", "isKept", "(I)Z"⟩, 16), (⟨"PosterSheetModel", "kept", "(III)I"⟩, 16), (⟨"PosterSheetModel", "otherwiseNow", "(II)I"⟩, 16), (⟨"PosterSheetModel", "readsOrder", "(Z)Z"⟩, 16), (⟨"PosterSheetModel", "here", "()I"⟩, 16), (⟨"PosterSheetModel", "takesAll", "(I)Z"⟩, 16), (⟨"PosterSheetModel", "isFigure", "(I)Z"⟩, 16), (⟨"PosterSheetModel", "can", "(I)I"⟩, 16)]
theorem lw_r6 : ∀ q ∈ lw_privs_6, lw_okq q := List.forall_mem_cons.mpr ⟨lw_p80, List.forall_mem_cons.mpr ⟨lw_p81, List.forall_mem_cons.mpr ⟨lw_p82, List.forall_mem_cons.mpr ⟨lw_p83, List.forall_mem_cons.mpr ⟨lw_p84, List.forall_mem_cons.mpr ⟨lw_p85, List.forall_mem_cons.mpr ⟨lw_p86, List.forall_mem_cons.mpr ⟨lw_p87, List.forall_mem_cons.mpr ⟨lw_p88, List.forall_mem_cons.mpr ⟨lw_p89, List.forall_mem_cons.mpr ⟨lw_p90, List.forall_mem_cons.mpr ⟨lw_p91, List.forall_mem_cons.mpr ⟨lw_p92, List.forall_mem_cons.mpr ⟨lw_p93, List.forall_mem_cons.mpr ⟨lw_p94, List.forall_mem_cons.mpr ⟨lw_p95, fun _ h => absurd h List.not_mem_nil⟩⟩⟩⟩⟩⟩⟩⟩⟩⟩⟩⟩⟩⟩⟩⟩
theorem lw_p96 : lw_okq (⟨"PosterSheetModel", "does", "(I)I"⟩, 16) := ⟨⟨by decide +kernel, by decide +kernel⟩, List.mem_of_getElem? (i := 879) (by decide +kernel), List.mem_of_getElem? (i := 1361) (by decide +kernel), List.mem_of_getElem? (i := 1362) (by decide +kernel)⟩
theorem lw_p97 : lw_okq (⟨"PosterSheetModel", "keepsAside", "()V"⟩, 16) := ⟨⟨by decide +kernel, by decide +kernel⟩, List.mem_of_getElem? (i := 879) (by decide +kernel), List.mem_of_getElem? (i := 1365) (by decide +kernel), List.mem_of_getElem? (i := 1366) (by decide +kernel)⟩
theorem lw_p98 : lw_okq (⟨"PosterSheetModel", "toldOf", "(I)I"⟩, 16) := ⟨⟨by decide +kernel, by decide +kernel⟩, List.mem_of_getElem? (i := 879) (by decide +kernel), List.mem_of_getElem? (i := 1378) (by decide +kernel), List.mem_of_getElem? (i := 1379) (by decide +kernel)⟩
theorem lw_p99 : lw_okq (⟨"PosterSheetModel", "keptSet", "()I"⟩, 16) := ⟨⟨by decide +kernel, by decide +kernel⟩, List.mem_of_getElem? (i := 879) (by decide +kernel), List.mem_of_getElem? (i := 1382) (by decide +kernel), List.mem_of_getElem? (i := 1383) (by decide +kernel)⟩
def lw_privs_7 : List (MethodName × Nat) := [(⟨"PosterSheetModel", "does", "(I)I"⟩, 16), (⟨"PosterSheetModel", "keepsAside", "()V"⟩, 16), (⟨"PosterSheetModel", "toldOf", "(I)I"⟩, 16), (⟨"PosterSheetModel", "keptSet", "()I"⟩, 16)]
theorem lw_r7 : ∀ q ∈ lw_privs_7, lw_okq q := List.forall_mem_cons.mpr ⟨lw_p96, List.forall_mem_cons.mpr ⟨lw_p97, List.forall_mem_cons.mpr ⟨lw_p98, List.forall_mem_cons.mpr ⟨lw_p99, fun _ h => absurd h List.not_mem_nil⟩⟩⟩⟩
def lw_privs : List (MethodName × Nat) := lw_privs_1 ++ (lw_privs_2 ++ (lw_privs_3 ++ (lw_privs_4 ++ (lw_privs_5 ++ (lw_privs_6 ++ (lw_privs_7))))))
def lw_tbl : List Cond := k2_sels lw_privs ++ tables_1
theorem lw_privs_ok : ∀ q ∈ lw_privs, lw_okq q := by
  show ∀ q ∈ lw_privs_1 ++ (lw_privs_2 ++ (lw_privs_3 ++ (lw_privs_4 ++ (lw_privs_5 ++ (lw_privs_6 ++ (lw_privs_7)))))), lw_okq q
  exact List.forall_mem_append.mpr ⟨lw_r1, List.forall_mem_append.mpr ⟨lw_r2, List.forall_mem_append.mpr ⟨lw_r3, List.forall_mem_append.mpr ⟨lw_r4, List.forall_mem_append.mpr ⟨lw_r5, List.forall_mem_append.mpr ⟨lw_r6, lw_r7⟩⟩⟩⟩⟩⟩
/-- the streams that the claim lets the run draw from -/
abbrev lw_cs : List Choice := [Jvm.Choice.named "NaN.bits"]
theorem lw_bits : nanBits ∈ lw_cs := by first | decide | exact List.mem_cons_self | simp [lw_cs, nanBits]
def RX0 : String := "PosterSheet$Bits"
def TX0 : u_T := fun k => match k with
  | _ => ("", "", "", false)
def tyX0 : Nat → FieldType := fun k => match k with
  | _ => .int
abbrev wsX00 : List Cond := u_ws RX0 TX0 0
theorem nmX0 : ∀ a, a < 0 → ∀ b, b < 0 → a ≠ b → (TX0 a).2.1 ≠ (TX0 b).2.1 := by decide +kernel
theorem tyX0_ok : ∀ k, k < 0 → parseFieldDescriptor (TX0 k).2.2.1 = some (tyX0 k) := by decide +kernel
abbrev cX0_ofFloat : ByteArray := prog_2_method_2_code
def yX0_ofFloat : MethodName := ⟨RX0, "ofFloat", "(F)I"⟩
abbrev cX0_ofDouble : ByteArray := prog_2_method_3_code
def yX0_ofDouble : MethodName := ⟨RX0, "ofDouble", "(D)J"⟩
def RX1 : String := "PosterSheet$Layout"
def TX1 : u_T := fun k => match k with
  | 0 => ("PosterSheet$Layout", "width", "I", false)
  | 1 => ("PosterSheet$Layout", "height", "I", false)
  | 2 => ("PosterSheet$Layout", "count", "I", false)
  | 3 => ("PosterSheet$Layout", "series", "LPosterSheet$Series;", true)
  | 4 => ("PosterSheet$Layout", "settings", "[I", true)
  | 5 => ("PosterSheet$Layout", "traits", "[I", true)
  | 6 => ("PosterSheet$Layout", "xs", "[I", true)
  | 7 => ("PosterSheet$Layout", "ys", "[I", true)
  | 8 => ("PosterSheet$Layout", "wides", "[I", true)
  | 9 => ("PosterSheet$Layout", "highs", "[I", true)
  | _ => ("PosterSheet$Layout", "lineBits", "I", false)
def tyX1 : Nat → FieldType := fun k => match k with
  | 0 => .int
  | 1 => .int
  | 2 => .int
  | 3 => .object "PosterSheet$Series"
  | 4 => .array .int
  | 5 => .array .int
  | 6 => .array .int
  | 7 => .array .int
  | 8 => .array .int
  | 9 => .array .int
  | _ => .int
abbrev wsX10 : List Cond := u_ws RX1 TX1 11
theorem nmX1 : ∀ a, a < 11 → ∀ b, b < 11 → a ≠ b → (TX1 a).2.1 ≠ (TX1 b).2.1 := by decide +kernel
theorem tyX1_ok : ∀ k, k < 11 → parseFieldDescriptor (TX1 k).2.2.1 = some (tyX1 k) := by decide +kernel
abbrev cX1_init : ByteArray := prog_3_method_1_code
def yX1_init : MethodName := ⟨RX1, "<init>", "()V"⟩
abbrev cX1_copyFrom : ByteArray := prog_3_method_2_code
def yX1_copyFrom : MethodName := ⟨RX1, "copyFrom", "(LPosterSheet$Layout;)V"⟩
abbrev cX1_hasItem : ByteArray := prog_3_method_3_code
def yX1_hasItem : MethodName := ⟨RX1, "hasItem", "(I)Z"⟩
abbrev cX1_setting : ByteArray := prog_3_method_4_code
def yX1_setting : MethodName := ⟨RX1, "setting", "(I)I"⟩
abbrev cX1_trait : ByteArray := prog_3_method_5_code
def yX1_trait : MethodName := ⟨RX1, "trait", "(II)I"⟩
abbrev cX1_againstSize : ByteArray := prog_3_method_6_code
def yX1_againstSize : MethodName := ⟨RX1, "againstSize", "(II)I"⟩
abbrev cX1_resize : ByteArray := prog_3_method_7_code
def yX1_resize : MethodName := ⟨RX1, "resize", "(II)I"⟩
abbrev cX1_againstSetting : ByteArray := prog_3_method_8_code
def yX1_againstSetting : MethodName := ⟨RX1, "againstSetting", "(II)I"⟩
abbrev cX1_putSetting : ByteArray := prog_3_method_9_code
def yX1_putSetting : MethodName := ⟨RX1, "putSetting", "(II)I"⟩
abbrev cX1_isTrait : ByteArray := prog_3_method_10_code
def yX1_isTrait : MethodName := ⟨RX1, "isTrait", "(II)Z"⟩
abbrev cX1_againstItem : ByteArray := prog_3_method_11_code
def yX1_againstItem : MethodName := ⟨RX1, "againstItem", "(IIII)I"⟩
abbrev cX1_addItem : ByteArray := prog_3_method_12_code
def yX1_addItem : MethodName := ⟨RX1, "addItem", "(IIII)I"⟩
abbrev cX1_removeItem : ByteArray := prog_3_method_13_code
def yX1_removeItem : MethodName := ⟨RX1, "removeItem", "(I)I"⟩
abbrev cX1_againstTrait : ByteArray := prog_3_method_14_code
def yX1_againstTrait : MethodName := ⟨RX1, "againstTrait", "(III)I"⟩
abbrev cX1_putTrait : ByteArray := prog_3_method_15_code
def yX1_putTrait : MethodName := ⟨RX1, "putTrait", "(III)I"⟩
abbrev cX1_sideOf : ByteArray := prog_3_method_16_code
def yX1_sideOf : MethodName := ⟨RX1, "sideOf", "(I)F"⟩
abbrev cX1_cutToCells : ByteArray := prog_3_method_17_code
def yX1_cutToCells : MethodName := ⟨RX1, "cutToCells", "(F)I"⟩
abbrev cX1_measure : ByteArray := prog_3_method_18_code
def yX1_measure : MethodName := ⟨RX1, "measure", "()V"⟩
abbrev cX1_lineOf : ByteArray := prog_3_method_19_code
def yX1_lineOf : MethodName := ⟨RX1, "lineOf", "(I)I"⟩
abbrev cX1_wide : ByteArray := prog_3_method_20_code
def yX1_wide : MethodName := ⟨RX1, "wide", "(I)I"⟩
abbrev cX1_high : ByteArray := prog_3_method_21_code
def yX1_high : MethodName := ⟨RX1, "high", "(I)I"⟩
abbrev cX1_weight : ByteArray := prog_3_method_22_code
def yX1_weight : MethodName := ⟨RX1, "weight", "(I)I"⟩
abbrev cX1_xOf : ByteArray := prog_3_method_23_code
def yX1_xOf : MethodName := ⟨RX1, "xOf", "(I)I"⟩
abbrev cX1_yOf : ByteArray := prog_3_method_24_code
def yX1_yOf : MethodName := ⟨RX1, "yOf", "(I)I"⟩
abbrev cX1_lies : ByteArray := prog_3_method_25_code
def yX1_lies : MethodName := ⟨RX1, "lies", "(I)Z"⟩
abbrev cX1_lying : ByteArray := prog_3_method_26_code
def yX1_lying : MethodName := ⟨RX1, "lying", "()I"⟩
abbrev cX1_lyingBits : ByteArray := prog_3_method_27_code
def yX1_lyingBits : MethodName := ⟨RX1, "lyingBits", "()I"⟩
abbrev cX1_put : ByteArray := prog_3_method_28_code
def yX1_put : MethodName := ⟨RX1, "put", "(III)V"⟩
abbrev cX1_hasRoomAlone : ByteArray := prog_3_method_29_code
def yX1_hasRoomAlone : MethodName := ⟨RX1, "hasRoomAlone", "(III)Z"⟩
abbrev cX1_isApart : ByteArray := prog_3_method_30_code
def yX1_isApart : MethodName := ⟨RX1, "isApart", "(IIII)Z"⟩
abbrev cX1_hasRoom : ByteArray := prog_3_method_31_code
def yX1_hasRoom : MethodName := ⟨RX1, "hasRoom", "(III)Z"⟩
abbrev cX1_liesWell : ByteArray := prog_3_method_32_code
def yX1_liesWell : MethodName := ⟨RX1, "liesWell", "(I)Z"⟩
abbrev cX1_againstLaying : ByteArray := prog_3_method_33_code
def yX1_againstLaying : MethodName := ⟨RX1, "againstLaying", "(III)I"⟩
abbrev cX1_lay : ByteArray := prog_3_method_34_code
def yX1_lay : MethodName := ⟨RX1, "lay", "(III)I"⟩
abbrev cX1_againstTakingOff : ByteArray := prog_3_method_35_code
def yX1_againstTakingOff : MethodName := ⟨RX1, "againstTakingOff", "(I)I"⟩
abbrev cX1_takeOff : ByteArray := prog_3_method_36_code
def yX1_takeOff : MethodName := ⟨RX1, "takeOff", "(I)I"⟩
abbrev cX1_againstSwap : ByteArray := prog_3_method_37_code
def yX1_againstSwap : MethodName := ⟨RX1, "againstSwap", "(II)I"⟩
abbrev cX1_swap : ByteArray := prog_3_method_38_code
def yX1_swap : MethodName := ⟨RX1, "swap", "(II)I"⟩
abbrev cX1_tellOfItem : ByteArray := prog_3_method_39_code
def yX1_tellOfItem : MethodName := ⟨RX1, "tellOfItem", "(II)I"⟩
abbrev cX1_tellOfAll : ByteArray := prog_3_method_40_code
def yX1_tellOfAll : MethodName := ⟨RX1, "tellOfAll", "(I)I"⟩
abbrev cX1_badlyLyingBits : ByteArray := prog_3_method_41_code
def yX1_badlyLyingBits : MethodName := ⟨RX1, "badlyLyingBits", "()I"⟩
abbrev cX1_lyingWeight : ByteArray := prog_3_method_42_code
def yX1_lyingWeight : MethodName := ⟨RX1, "lyingWeight", "()I"⟩
abbrev cX1_lesserPairs : ByteArray := prog_3_method_43_code
def yX1_lesserPairs : MethodName := ⟨RX1, "lesserPairs", "()I"⟩
abbrev cX1_leastOver : ByteArray := prog_3_method_44_code
def yX1_leastOver : MethodName := ⟨RX1, "leastOver", "(II)I"⟩
abbrev cX1_heaviest : ByteArray := prog_3_method_45_code
def yX1_heaviest : MethodName := ⟨RX1, "heaviest", "(II)I"⟩
abbrev cX1_howManyBefore : ByteArray := prog_3_method_46_code
def yX1_howManyBefore : MethodName := ⟨RX1, "howManyBefore", "(I)I"⟩
def RX2 : String := "PosterSheet$Places"
def TX2 : u_T := fun k => match k with
  | 0 => ("PosterSheet$Places", "clashes", "[I", true)
  | 1 => ("PosterSheet$Places", "oldXs", "[I", true)
  | _ => ("PosterSheet$Places", "oldYs", "[I", true)
def tyX2 : Nat → FieldType := fun k => match k with
  | 0 => .array .int
  | 1 => .array .int
  | _ => .array .int
abbrev wsX20 : List Cond := u_ws RX2 TX2 3
theorem nmX2 : ∀ a, a < 3 → ∀ b, b < 3 → a ≠ b → (TX2 a).2.1 ≠ (TX2 b).2.1 := by decide +kernel
theorem tyX2_ok : ∀ k, k < 3 → parseFieldDescriptor (TX2 k).2.2.1 = some (tyX2 k) := by decide +kernel
abbrev cX2_init : ByteArray := prog_4_method_1_code
def yX2_init : MethodName := ⟨RX2, "<init>", "()V"⟩
abbrev cX2_tell : ByteArray := prog_4_method_2_code
def yX2_tell : MethodName := ⟨RX2, "tell", "(LPosterSheet$Layout;II)I"⟩
abbrev cX2_best : ByteArray := prog_4_method_3_code
def yX2_best : MethodName := ⟨RX2, "best", "(LPosterSheet$Layout;LPosterSheet$Scales;I)I"⟩
abbrev cX2_first : ByteArray := prog_4_method_4_code
def yX2_first : MethodName := ⟨RX2, "first", "(LPosterSheet$Layout;I)I"⟩
abbrev cX2_nearest : ByteArray := prog_4_method_5_code
def yX2_nearest : MethodName := ⟨RX2, "nearest", "(LPosterSheet$Layout;III)I"⟩
abbrev cX2_putAt : ByteArray := prog_4_method_6_code
def yX2_putAt : MethodName := ⟨RX2, "putAt", "(LPosterSheet$Layout;II)V"⟩
abbrev cX2_pack : ByteArray := prog_4_method_7_code
def yX2_pack : MethodName := ⟨RX2, "pack", "(LPosterSheet$Layout;)I"⟩
abbrev cX2_tidy : ByteArray := prog_4_method_8_code
def yX2_tidy : MethodName := ⟨RX2, "tidy", "(LPosterSheet$Layout;)I"⟩
abbrev cX2_takeOffAll : ByteArray := prog_4_method_9_code
def yX2_takeOffAll : MethodName := ⟨RX2, "takeOffAll", "(LPosterSheet$Layout;I)V"⟩
abbrev cX2_staying : ByteArray := prog_4_method_10_code
def yX2_staying : MethodName := ⟨RX2, "staying", "(LPosterSheet$Layout;)I"⟩
abbrev cX2_findClashes : ByteArray := prog_4_method_11_code
def yX2_findClashes : MethodName := ⟨RX2, "findClashes", "(LPosterSheet$Layout;)I"⟩
abbrev cX2_hasNoClash : ByteArray := prog_4_method_12_code
def yX2_hasNoClash : MethodName := ⟨RX2, "hasNoClash", "(I)Z"⟩
abbrev cX2_weightOf : ByteArray := prog_4_method_13_code
def yX2_weightOf : MethodName := ⟨RX2, "weightOf", "(LPosterSheet$Layout;I)I"⟩
def RX3 : String := "PosterSheet$Scales"
def TX3 : u_T := fun k => match k with
  | 0 => ("PosterSheet$Scales", "weights", "D", false)
  | 1 => ("PosterSheet$Scales", "acrosses", "D", false)
  | _ => ("PosterSheet$Scales", "downs", "D", false)
def tyX3 : Nat → FieldType := fun k => match k with
  | 0 => .double
  | 1 => .double
  | _ => .double
abbrev wsX30 : List Cond := u_ws RX3 TX3 3
theorem nmX3 : ∀ a, a < 3 → ∀ b, b < 3 → a ≠ b → (TX3 a).2.1 ≠ (TX3 b).2.1 := by decide +kernel
theorem tyX3_ok : ∀ k, k < 3 → parseFieldDescriptor (TX3 k).2.2.1 = some (tyX3 k) := by decide +kernel
abbrev cX3_init : ByteArray := prog_5_method_1_code
def yX3_init : MethodName := ⟨RX3, "<init>", "()V"⟩
abbrev cX3_weighAll : ByteArray := prog_5_method_2_code
def yX3_weighAll : MethodName := ⟨RX3, "weighAll", "(LPosterSheet$Layout;I)V"⟩
abbrev cX3_add : ByteArray := prog_5_method_3_code
def yX3_add : MethodName := ⟨RX3, "add", "(LPosterSheet$Layout;III)V"⟩
abbrev cX3_centreX : ByteArray := prog_5_method_4_code
def yX3_centreX : MethodName := ⟨RX3, "centreX", "(LPosterSheet$Layout;)D"⟩
abbrev cX3_centreY : ByteArray := prog_5_method_5_code
def yX3_centreY : MethodName := ⟨RX3, "centreY", "(LPosterSheet$Layout;)D"⟩
abbrev cX3_balance : ByteArray := prog_5_method_6_code
def yX3_balance : MethodName := ⟨RX3, "balance", "(LPosterSheet$Layout;)D"⟩
abbrev cX3_balanceWith : ByteArray := prog_5_method_7_code
def yX3_balanceWith : MethodName := ⟨RX3, "balanceWith", "(LPosterSheet$Layout;III)D"⟩
abbrev cX3_tell : ByteArray := prog_5_method_8_code
def yX3_tell : MethodName := ⟨RX3, "tell", "(LPosterSheet$Layout;I)D"⟩
def RX4 : String := "PosterSheet$Series"
def TX4 : u_T := fun k => match k with
  | 0 => ("PosterSheet$Series", "bits", "I", false)
  | _ => ("PosterSheet$Series", "rows", "[I", true)
def tyX4 : Nat → FieldType := fun k => match k with
  | 0 => .int
  | _ => .array .int
abbrev wsX40 : List Cond := u_ws RX4 TX4 2
theorem nmX4 : ∀ a, a < 2 → ∀ b, b < 2 → a ≠ b → (TX4 a).2.1 ≠ (TX4 b).2.1 := by decide +kernel
theorem tyX4_ok : ∀ k, k < 2 → parseFieldDescriptor (TX4 k).2.2.1 = some (tyX4 k) := by decide +kernel
abbrev cX4_init : ByteArray := prog_6_method_1_code
def yX4_init : MethodName := ⟨RX4, "<init>", "()V"⟩
abbrev cX4_copyFrom : ByteArray := prog_6_method_2_code
def yX4_copyFrom : MethodName := ⟨RX4, "copyFrom", "(LPosterSheet$Series;)V"⟩
abbrev cX4_isRow : ByteArray := prog_6_method_3_code
def yX4_isRow : MethodName := ⟨RX4, "isRow", "(II)Z"⟩
abbrev cX4_then : ByteArray := prog_6_method_4_code
def yX4_then : MethodName := ⟨RX4, "then", "(III)I"⟩
abbrev cX4_lay : ByteArray := prog_6_method_5_code
def yX4_lay : MethodName := ⟨RX4, "lay", "(II)Z"⟩
abbrev cX4_againstUse : ByteArray := prog_6_method_6_code
def yX4_againstUse : MethodName := ⟨RX4, "againstUse", "(I)I"⟩
abbrev cX4_keep : ByteArray := prog_6_method_7_code
def yX4_keep : MethodName := ⟨RX4, "keep", "(LPosterSheet$Layout;I)I"⟩
abbrev cX4_layAgain : ByteArray := prog_6_method_8_code
def yX4_layAgain : MethodName := ⟨RX4, "layAgain", "(LPosterSheet$Layout;I)I"⟩
abbrev cX4_isAlike : ByteArray := prog_6_method_9_code
def yX4_isAlike : MethodName := ⟨RX4, "isAlike", "(LPosterSheet$Layout;II)Z"⟩
abbrev cX4_unlike : ByteArray := prog_6_method_10_code
def yX4_unlike : MethodName := ⟨RX4, "unlike", "(LPosterSheet$Layout;I)I"⟩
abbrev cX4_far : ByteArray := prog_6_method_11_code
def yX4_far : MethodName := ⟨RX4, "far", "(LPosterSheet$Layout;I)I"⟩
def RX5 : String := "PosterSheet$States"
def TX5 : u_T := fun k => match k with
  | 0 => ("PosterSheet$States", "count", "I", false)
  | 1 => ("PosterSheet$States", "oldest", "I", false)
  | _ => ("PosterSheet$States", "ring", "[LPosterSheet$Layout;", true)
def tyX5 : Nat → FieldType := fun k => match k with
  | 0 => .int
  | 1 => .int
  | _ => .array (.object "PosterSheet$Layout")
abbrev wsX50 : List Cond := u_ws RX5 TX5 3
theorem nmX5 : ∀ a, a < 3 → ∀ b, b < 3 → a ≠ b → (TX5 a).2.1 ≠ (TX5 b).2.1 := by decide +kernel
theorem tyX5_ok : ∀ k, k < 3 → parseFieldDescriptor (TX5 k).2.2.1 = some (tyX5 k) := by decide +kernel
abbrev cX5_init : ByteArray := prog_7_method_1_code
def yX5_init : MethodName := ⟨RX5, "<init>", "()V"⟩
abbrev cX5_push : ByteArray := prog_7_method_2_code
def yX5_push : MethodName := ⟨RX5, "push", "(LPosterSheet$Layout;)V"⟩
abbrev cX5_pop : ByteArray := prog_7_method_3_code
def yX5_pop : MethodName := ⟨RX5, "pop", "(LPosterSheet$Layout;)I"⟩
def RX6 : String := "PosterSheet$Text"
def TX6 : u_T := fun k => match k with
  | 0 => ("PosterSheet$Text", "length", "I", false)
  | 1 => ("PosterSheet$Text", "orders", "I", false)
  | 2 => ("PosterSheet$Text", "place", "I", false)
  | 3 => ("PosterSheet$Text", "bytes", "[I", true)
  | 4 => ("PosterSheet$Text", "letters", "[I", true)
  | _ => ("PosterSheet$Text", "numbers", "[I", true)
def tyX6 : Nat → FieldType := fun k => match k with
  | 0 => .int
  | 1 => .int
  | 2 => .int
  | 3 => .array .int
  | 4 => .array .int
  | _ => .array .int
abbrev wsX60 : List Cond := u_ws RX6 TX6 6
theorem nmX6 : ∀ a, a < 6 → ∀ b, b < 6 → a ≠ b → (TX6 a).2.1 ≠ (TX6 b).2.1 := by decide +kernel
theorem tyX6_ok : ∀ k, k < 6 → parseFieldDescriptor (TX6 k).2.2.1 = some (tyX6 k) := by decide +kernel
abbrev cX6_init : ByteArray := prog_8_method_1_code
def yX6_init : MethodName := ⟨RX6, "<init>", "()V"⟩
abbrev cX6_againstByte : ByteArray := prog_8_method_2_code
def yX6_againstByte : MethodName := ⟨RX6, "againstByte", "(I)I"⟩
abbrev cX6_append : ByteArray := prog_8_method_3_code
def yX6_append : MethodName := ⟨RX6, "append", "(I)I"⟩
abbrev cX6_empty : ByteArray := prog_8_method_4_code
def yX6_empty : MethodName := ⟨RX6, "empty", "()I"⟩
abbrev cX6_letter : ByteArray := prog_8_method_5_code
def yX6_letter : MethodName := ⟨RX6, "letter", "(I)I"⟩
abbrev cX6_number : ByteArray := prog_8_method_6_code
def yX6_number : MethodName := ⟨RX6, "number", "(II)I"⟩
abbrev cX6_settingOf : ByteArray := prog_8_method_7_code
def yX6_settingOf : MethodName := ⟨RX6, "settingOf", "(I)I"⟩
abbrev cX6_numbersBehind : ByteArray := prog_8_method_8_code
def yX6_numbersBehind : MethodName := ⟨RX6, "numbersBehind", "(I)I"⟩
abbrev cX6_findFault : ByteArray := prog_8_method_9_code
def yX6_findFault : MethodName := ⟨RX6, "findFault", "()I"⟩
abbrev cX6_here : ByteArray := prog_8_method_10_code
def yX6_here : MethodName := ⟨RX6, "here", "()I"⟩
abbrev cX6_isFigureHere : ByteArray := prog_8_method_11_code
def yX6_isFigureHere : MethodName := ⟨RX6, "isFigureHere", "()Z"⟩
abbrev cX6_skipBlanks : ByteArray := prog_8_method_12_code
def yX6_skipBlanks : MethodName := ⟨RX6, "skipBlanks", "()V"⟩
abbrev cX6_findOrder : ByteArray := prog_8_method_13_code
def yX6_findOrder : MethodName := ⟨RX6, "findOrder", "(I)Z"⟩
abbrev cX6_findNumber : ByteArray := prog_8_method_14_code
def yX6_findNumber : MethodName := ⟨RX6, "findNumber", "(I)Z"⟩
def RX7 : String := "PosterSheet$White"
def TX7 : u_T := fun k => match k with
  | 0 => ("PosterSheet$White", "width", "I", false)
  | 1 => ("PosterSheet$White", "height", "I", false)
  | 2 => ("PosterSheet$White", "cells", "I", false)
  | 3 => ("PosterSheet$White", "blockCells", "I", false)
  | 4 => ("PosterSheet$White", "blockPlace", "I", false)
  | 5 => ("PosterSheet$White", "blockWidth", "I", false)
  | 6 => ("PosterSheet$White", "parts", "I", false)
  | 7 => ("PosterSheet$White", "queued", "I", false)
  | 8 => ("PosterSheet$White", "runs", "[I", true)
  | 9 => ("PosterSheet$White", "open", "[I", true)
  | _ => ("PosterSheet$White", "queue", "[I", true)
def tyX7 : Nat → FieldType := fun k => match k with
  | 0 => .int
  | 1 => .int
  | 2 => .int
  | 3 => .int
  | 4 => .int
  | 5 => .int
  | 6 => .int
  | 7 => .int
  | 8 => .array .int
  | 9 => .array .int
  | _ => .array .int
abbrev wsX70 : List Cond := u_ws RX7 TX7 11
theorem nmX7 : ∀ a, a < 11 → ∀ b, b < 11 → a ≠ b → (TX7 a).2.1 ≠ (TX7 b).2.1 := by decide +kernel
theorem tyX7_ok : ∀ k, k < 11 → parseFieldDescriptor (TX7 k).2.2.1 = some (tyX7 k) := by decide +kernel
abbrev cX7_init : ByteArray := prog_9_method_1_code
def yX7_init : MethodName := ⟨RX7, "<init>", "()V"⟩
abbrev cX7_look : ByteArray := prog_9_method_2_code
def yX7_look : MethodName := ⟨RX7, "look", "(LPosterSheet$Layout;)V"⟩
abbrev cX7_tell : ByteArray := prog_9_method_3_code
def yX7_tell : MethodName := ⟨RX7, "tell", "(I)I"⟩
abbrev cX7_share : ByteArray := prog_9_method_4_code
def yX7_share : MethodName := ⟨RX7, "share", "()F"⟩
abbrev cX7_cover : ByteArray := prog_9_method_5_code
def yX7_cover : MethodName := ⟨RX7, "cover", "(LPosterSheet$Layout;I)V"⟩
abbrev cX7_countCells : ByteArray := prog_9_method_6_code
def yX7_countCells : MethodName := ⟨RX7, "countCells", "()V"⟩
abbrev cX7_findBlock : ByteArray := prog_9_method_7_code
def yX7_findBlock : MethodName := ⟨RX7, "findBlock", "()V"⟩
abbrev cX7_tryBlocks : ByteArray := prog_9_method_8_code
def yX7_tryBlocks : MethodName := ⟨RX7, "tryBlocks", "(II)V"⟩
abbrev cX7_countParts : ByteArray := prog_9_method_9_code
def yX7_countParts : MethodName := ⟨RX7, "countParts", "()V"⟩
abbrev cX7_spread : ByteArray := prog_9_method_10_code
def yX7_spread : MethodName := ⟨RX7, "spread", "(I)V"⟩
abbrev cX7_reach : ByteArray := prog_9_method_11_code
def yX7_reach : MethodName := ⟨RX7, "reach", "(II)V"⟩
def RX8 : String := "PosterSheet"
def TX8 : u_T := fun k => match k with
  | 0 => ("PosterSheet", "layout", "LPosterSheet$Layout;", true)
  | 1 => ("PosterSheet", "trial", "LPosterSheet$Layout;", true)
  | 2 => ("PosterSheet", "states", "LPosterSheet$States;", true)
  | 3 => ("PosterSheet", "places", "LPosterSheet$Places;", true)
  | 4 => ("PosterSheet", "scales", "LPosterSheet$Scales;", true)
  | 5 => ("PosterSheet", "whites", "LPosterSheet$White;", true)
  | 6 => ("PosterSheet", "text", "LPosterSheet$Text;", true)
  | 7 => ("PosterSheet", "bads", "I", false)
  | 8 => ("PosterSheet", "noes", "I", false)
  | _ => ("PosterSheet", "fulls", "I", false)
def tyX8 : Nat → FieldType := fun k => match k with
  | 0 => .object "PosterSheet$Layout"
  | 1 => .object "PosterSheet$Layout"
  | 2 => .object "PosterSheet$States"
  | 3 => .object "PosterSheet$Places"
  | 4 => .object "PosterSheet$Scales"
  | 5 => .object "PosterSheet$White"
  | 6 => .object "PosterSheet$Text"
  | 7 => .int
  | 8 => .int
  | _ => .int
abbrev wsX80 : List Cond := u_ws RX8 TX8 10
theorem nmX8 : ∀ a, a < 10 → ∀ b, b < 10 → a ≠ b → (TX8 a).2.1 ≠ (TX8 b).2.1 := by decide +kernel
theorem tyX8_ok : ∀ k, k < 10 → parseFieldDescriptor (TX8 k).2.2.1 = some (tyX8 k) := by decide +kernel
abbrev cX8_init : ByteArray := prog_1_method_1_code
def yX8_init : MethodName := ⟨RX8, "<init>", "()V"⟩
abbrev cX8_sheet : ByteArray := prog_1_method_2_code
def yX8_sheet : MethodName := ⟨RX8, "sheet", "(II)I"⟩
abbrev cX8_sets : ByteArray := prog_1_method_3_code
def yX8_sets : MethodName := ⟨RX8, "sets", "(II)I"⟩
abbrev cX8_item : ByteArray := prog_1_method_4_code
def yX8_item : MethodName := ⟨RX8, "item", "(IIII)I"⟩
abbrev cX8_drops : ByteArray := prog_1_method_5_code
def yX8_drops : MethodName := ⟨RX8, "drops", "(I)I"⟩
abbrev cX8_becomes : ByteArray := prog_1_method_6_code
def yX8_becomes : MethodName := ⟨RX8, "becomes", "(III)I"⟩
abbrev cX8_of : ByteArray := prog_1_method_7_code
def yX8_of : MethodName := ⟨RX8, "of", "(II)I"⟩
abbrev cX8_side : ByteArray := prog_1_method_8_code
def yX8_side : MethodName := ⟨RX8, "side", "(I)I"⟩
abbrev cX8_line : ByteArray := prog_1_method_9_code
def yX8_line : MethodName := ⟨RX8, "line", "(I)I"⟩
abbrev cX8_lays : ByteArray := prog_1_method_10_code
def yX8_lays : MethodName := ⟨RX8, "lays", "(III)I"⟩
abbrev cX8_off : ByteArray := prog_1_method_11_code
def yX8_off : MethodName := ⟨RX8, "off", "(I)I"⟩
abbrev cX8_swaps : ByteArray := prog_1_method_12_code
def yX8_swaps : MethodName := ⟨RX8, "swaps", "(II)I"⟩
abbrev cX8_fits : ByteArray := prog_1_method_13_code
def yX8_fits : MethodName := ⟨RX8, "fits", "(III)I"⟩
abbrev cX8_free : ByteArray := prog_1_method_14_code
def yX8_free : MethodName := ⟨RX8, "free", "(II)I"⟩
abbrev cX8_packs : ByteArray := prog_1_method_15_code
def yX8_packs : MethodName := ⟨RX8, "packs", "()I"⟩
abbrev cX8_tidies : ByteArray := prog_1_method_16_code
def yX8_tidies : MethodName := ⟨RX8, "tidies", "()I"⟩
abbrev cX8_stays : ByteArray := prog_1_method_17_code
def yX8_stays : MethodName := ⟨RX8, "stays", "()I"⟩
abbrev cX8_at : ByteArray := prog_1_method_18_code
def yX8_at : MethodName := ⟨RX8, "at", "(II)I"⟩
abbrev cX8_white : ByteArray := prog_1_method_19_code
def yX8_white : MethodName := ⟨RX8, "white", "(I)I"⟩
abbrev cX8_centre : ByteArray := prog_1_method_20_code
def yX8_centre : MethodName := ⟨RX8, "centre", "(I)J"⟩
abbrev cX8_all : ByteArray := prog_1_method_21_code
def yX8_all : MethodName := ⟨RX8, "all", "(I)I"⟩
abbrev cX8_sorted : ByteArray := prog_1_method_22_code
def yX8_sorted : MethodName := ⟨RX8, "sorted", "(II)I"⟩
abbrev cX8_keeps : ByteArray := prog_1_method_23_code
def yX8_keeps : MethodName := ⟨RX8, "keeps", "(I)I"⟩
abbrev cX8_takes : ByteArray := prog_1_method_24_code
def yX8_takes : MethodName := ⟨RX8, "takes", "(I)I"⟩
abbrev cX8_otherwise : ByteArray := prog_1_method_25_code
def yX8_otherwise : MethodName := ⟨RX8, "otherwise", "(II)I"⟩
abbrev cX8_type : ByteArray := prog_1_method_26_code
def yX8_type : MethodName := ⟨RX8, "type", "(I)I"⟩
abbrev cX8_clear : ByteArray := prog_1_method_27_code
def yX8_clear : MethodName := ⟨RX8, "clear", "()I"⟩
abbrev cX8_reads : ByteArray := prog_1_method_28_code
def yX8_reads : MethodName := ⟨RX8, "reads", "()I"⟩
abbrev cX8_back : ByteArray := prog_1_method_29_code
def yX8_back : MethodName := ⟨RX8, "back", "()I"⟩
abbrev cX8_told : ByteArray := prog_1_method_30_code
def yX8_told : MethodName := ⟨RX8, "told", "(I)I"⟩
abbrev cX8_digest : ByteArray := prog_1_method_31_code
def yX8_digest : MethodName := ⟨RX8, "digest", "()J"⟩
abbrev cX8_within : ByteArray := prog_1_method_32_code
def yX8_within : MethodName := ⟨RX8, "within", "(III)Z"⟩
abbrev cX8_isPlace : ByteArray := prog_1_method_33_code
def yX8_isPlace : MethodName := ⟨RX8, "isPlace", "(II)Z"⟩
abbrev cX8_goodIf : ByteArray := prog_1_method_34_code
def yX8_goodIf : MethodName := ⟨RX8, "goodIf", "(Z)I"⟩
abbrev cX8_placeOf : ByteArray := prog_1_method_35_code
def yX8_placeOf : MethodName := ⟨RX8, "placeOf", "(II)I"⟩
abbrev cX8_distance : ByteArray := prog_1_method_36_code
def yX8_distance : MethodName := ⟨RX8, "distance", "(II)I"⟩
abbrev cX8_mayAnswer : ByteArray := prog_1_method_37_code
def yX8_mayAnswer : MethodName := ⟨RX8, "mayAnswer", "(I)Z"⟩
abbrev cX8_mayChange : ByteArray := prog_1_method_38_code
def yX8_mayChange : MethodName := ⟨RX8, "mayChange", "(I)Z"⟩
abbrev cX8_obeys : ByteArray := prog_1_method_39_code
def yX8_obeys : MethodName := ⟨RX8, "obeys", "(I)Z"⟩
def RX9 : String := "PosterSheetModel"
def TX9 : u_T := fun k => match k with
  | 0 => ("PosterSheetModel", "all", "[I", true)
  | 1 => ("PosterSheetModel", "past", "[I", true)
  | 2 => ("PosterSheetModel", "aside", "[I", true)
  | 3 => ("PosterSheetModel", "states", "I", false)
  | 4 => ("PosterSheetModel", "refused", "[I", true)
  | 5 => ("PosterSheetModel", "elder", "[I", true)
  | 6 => ("PosterSheetModel", "white", "[Z", true)
  | 7 => ("PosterSheetModel", "heap", "[I", true)
  | 8 => ("PosterSheetModel", "blockCells", "I", false)
  | 9 => ("PosterSheetModel", "blockFirst", "I", false)
  | 10 => ("PosterSheetModel", "blockWide", "I", false)
  | 11 => ("PosterSheetModel", "text", "[I", true)
  | 12 => ("PosterSheetModel", "textLong", "I", false)
  | 13 => ("PosterSheetModel", "place", "I", false)
  | 14 => ("PosterSheetModel", "numbers", "[I", true)
  | _ => ("PosterSheetModel", "not", "I", false)
def tyX9 : Nat → FieldType := fun k => match k with
  | 0 => .array .int
  | 1 => .array .int
  | 2 => .array .int
  | 3 => .int
  | 4 => .array .int
  | 5 => .array .int
  | 6 => .array .boolean
  | 7 => .array .int
  | 8 => .int
  | 9 => .int
  | 10 => .int
  | 11 => .array .int
  | 12 => .int
  | 13 => .int
  | 14 => .array .int
  | _ => .int
abbrev wsX90 : List Cond := u_ws RX9 TX9 16
theorem nmX9 : ∀ a, a < 16 → ∀ b, b < 16 → a ≠ b → (TX9 a).2.1 ≠ (TX9 b).2.1 := by decide +kernel
theorem tyX9_ok : ∀ k, k < 16 → parseFieldDescriptor (TX9 k).2.2.1 = some (tyX9 k) := by decide +kernel
abbrev cX9_init : ByteArray := prog_11_method_1_code
def yX9_init : MethodName := ⟨RX9, "<init>", "()V"⟩
abbrev cX9_in : ByteArray := prog_11_method_3_code
def yX9_in : MethodName := ⟨RX9, "in", "(JJJ)Z"⟩
abbrev cX9_refuses : ByteArray := prog_11_method_4_code
def yX9_refuses : MethodName := ⟨RX9, "refuses", "(I)I"⟩
abbrev cX9_keep : ByteArray := prog_11_method_5_code
def yX9_keep : MethodName := ⟨RX9, "keep", "()V"⟩
abbrev cX9_abs : ByteArray := prog_11_method_6_code
def yX9_abs : MethodName := ⟨RX9, "abs", "(I)I"⟩
abbrev cX9_many : ByteArray := prog_11_method_7_code
def yX9_many : MethodName := ⟨RX9, "many", "()I"⟩
abbrev cX9_isItem : ByteArray := prog_11_method_8_code
def yX9_isItem : MethodName := ⟨RX9, "isItem", "(I)Z"⟩
abbrev cX9_its : ByteArray := prog_11_method_9_code
def yX9_its : MethodName := ⟨RX9, "its", "(II)I"⟩
abbrev cX9_puts : ByteArray := prog_11_method_10_code
def yX9_puts : MethodName := ⟨RX9, "puts", "(III)V"⟩
abbrev cX9_lies : ByteArray := prog_11_method_11_code
def yX9_lies : MethodName := ⟨RX9, "lies", "(I)Z"⟩
abbrev cX9_sideOf : ByteArray := prog_11_method_12_code
def yX9_sideOf : MethodName := ⟨RX9, "sideOf", "(I)F"⟩
abbrev cX9_cut : ByteArray := prog_11_method_13_code
def yX9_cut : MethodName := ⟨RX9, "cut", "(F)I"⟩
abbrev cX9_high : ByteArray := prog_11_method_14_code
def yX9_high : MethodName := ⟨RX9, "high", "(I)I"⟩
abbrev cX9_wide : ByteArray := prog_11_method_15_code
def yX9_wide : MethodName := ⟨RX9, "wide", "(I)I"⟩
abbrev cX9_weight : ByteArray := prog_11_method_16_code
def yX9_weight : MethodName := ⟨RX9, "weight", "(I)I"⟩
abbrev cX9_lineAt : ByteArray := prog_11_method_17_code
def yX9_lineAt : MethodName := ⟨RX9, "lineAt", "(I)I"⟩
abbrev cX9_isLine : ByteArray := prog_11_method_18_code
def yX9_isLine : MethodName := ⟨RX9, "isLine", "(I)Z"⟩
abbrev cX9_isWithin : ByteArray := prog_11_method_19_code
def yX9_isWithin : MethodName := ⟨RX9, "isWithin", "(III)Z"⟩
abbrev cX9_isApart : ByteArray := prog_11_method_20_code
def yX9_isApart : MethodName := ⟨RX9, "isApart", "(IIII)Z"⟩
abbrev cX9_isFit : ByteArray := prog_11_method_21_code
def yX9_isFit : MethodName := ⟨RX9, "isFit", "(III)Z"⟩
abbrev cX9_isFitThere : ByteArray := prog_11_method_22_code
def yX9_isFitThere : MethodName := ⟨RX9, "isFitThere", "(I)Z"⟩
abbrev cX9_isPlace : ByteArray := prog_11_method_23_code
def yX9_isPlace : MethodName := ⟨RX9, "isPlace", "(II)Z"⟩
abbrev cX9_fits : ByteArray := prog_11_method_24_code
def yX9_fits : MethodName := ⟨RX9, "fits", "(III)I"⟩
abbrev cX9_isSheet : ByteArray := prog_11_method_25_code
def yX9_isSheet : MethodName := ⟨RX9, "isSheet", "(II)Z"⟩
abbrev cX9_sheetNow : ByteArray := prog_11_method_26_code
def yX9_sheetNow : MethodName := ⟨RX9, "sheetNow", "(II)I"⟩
abbrev cX9_sheet : ByteArray := prog_11_method_27_code
def yX9_sheet : MethodName := ⟨RX9, "sheet", "(II)I"⟩
abbrev cX9_isSetting : ByteArray := prog_11_method_28_code
def yX9_isSetting : MethodName := ⟨RX9, "isSetting", "(II)Z"⟩
abbrev cX9_setNow : ByteArray := prog_11_method_29_code
def yX9_setNow : MethodName := ⟨RX9, "setNow", "(II)I"⟩
abbrev cX9_sets : ByteArray := prog_11_method_30_code
def yX9_sets : MethodName := ⟨RX9, "sets", "(II)I"⟩
abbrev cX9_isOf : ByteArray := prog_11_method_31_code
def yX9_isOf : MethodName := ⟨RX9, "isOf", "(II)Z"⟩
abbrev cX9_canItem : ByteArray := prog_11_method_32_code
def yX9_canItem : MethodName := ⟨RX9, "canItem", "(IIII)I"⟩
abbrev cX9_itemNow : ByteArray := prog_11_method_33_code
def yX9_itemNow : MethodName := ⟨RX9, "itemNow", "(IIII)I"⟩
abbrev cX9_item : ByteArray := prog_11_method_34_code
def yX9_item : MethodName := ⟨RX9, "item", "(IIII)I"⟩
abbrev cX9_drops : ByteArray := prog_11_method_35_code
def yX9_drops : MethodName := ⟨RX9, "drops", "(I)I"⟩
abbrev cX9_becomes : ByteArray := prog_11_method_36_code
def yX9_becomes : MethodName := ⟨RX9, "becomes", "(III)I"⟩
abbrev cX9_ofNow : ByteArray := prog_11_method_37_code
def yX9_ofNow : MethodName := ⟨RX9, "ofNow", "(II)I"⟩
abbrev cX9_of : ByteArray := prog_11_method_38_code
def yX9_of : MethodName := ⟨RX9, "of", "(II)I"⟩
abbrev cX9_sideBits : ByteArray := prog_11_method_39_code
def yX9_sideBits : MethodName := ⟨RX9, "sideBits", "(I)I"⟩
abbrev cX9_side : ByteArray := prog_11_method_40_code
def yX9_side : MethodName := ⟨RX9, "side", "(I)I"⟩
abbrev cX9_line : ByteArray := prog_11_method_41_code
def yX9_line : MethodName := ⟨RX9, "line", "(I)I"⟩
abbrev cX9_canLay : ByteArray := prog_11_method_42_code
def yX9_canLay : MethodName := ⟨RX9, "canLay", "(III)I"⟩
abbrev cX9_layNow : ByteArray := prog_11_method_43_code
def yX9_layNow : MethodName := ⟨RX9, "layNow", "(III)I"⟩
abbrev cX9_lays : ByteArray := prog_11_method_44_code
def yX9_lays : MethodName := ⟨RX9, "lays", "(III)I"⟩
abbrev cX9_liesMany : ByteArray := prog_11_method_45_code
def yX9_liesMany : MethodName := ⟨RX9, "liesMany", "()I"⟩
abbrev cX9_canOff : ByteArray := prog_11_method_46_code
def yX9_canOff : MethodName := ⟨RX9, "canOff", "(I)I"⟩
abbrev cX9_offNow : ByteArray := prog_11_method_47_code
def yX9_offNow : MethodName := ⟨RX9, "offNow", "(I)I"⟩
abbrev cX9_off : ByteArray := prog_11_method_48_code
def yX9_off : MethodName := ⟨RX9, "off", "(I)I"⟩
abbrev cX9_swaps : ByteArray := prog_11_method_49_code
def yX9_swaps : MethodName := ⟨RX9, "swaps", "(II)I"⟩
abbrev cX9_firstPlace : ByteArray := prog_11_method_50_code
def yX9_firstPlace : MethodName := ⟨RX9, "firstPlace", "(I)I"⟩
abbrev cX9_lastPlace : ByteArray := prog_11_method_51_code
def yX9_lastPlace : MethodName := ⟨RX9, "lastPlace", "(I)I"⟩
abbrev cX9_bestPlace : ByteArray := prog_11_method_52_code
def yX9_bestPlace : MethodName := ⟨RX9, "bestPlace", "(I)I"⟩
abbrev cX9_placesMany : ByteArray := prog_11_method_53_code
def yX9_placesMany : MethodName := ⟨RX9, "placesMany", "(I)I"⟩
abbrev cX9_freeNow : ByteArray := prog_11_method_54_code
def yX9_freeNow : MethodName := ⟨RX9, "freeNow", "(II)I"⟩
abbrev cX9_free : ByteArray := prog_11_method_55_code
def yX9_free : MethodName := ⟨RX9, "free", "(II)I"⟩
abbrev cX9_packNow : ByteArray := prog_11_method_56_code
def yX9_packNow : MethodName := ⟨RX9, "packNow", "()I"⟩
abbrev cX9_packs : ByteArray := prog_11_method_57_code
def yX9_packs : MethodName := ⟨RX9, "packs", "()I"⟩
abbrev cX9_areFit : ByteArray := prog_11_method_58_code
def yX9_areFit : MethodName := ⟨RX9, "areFit", "(I)Z"⟩
abbrev cX9_size : ByteArray := prog_11_method_59_code
def yX9_size : MethodName := ⟨RX9, "size", "(I)I"⟩
abbrev cX9_staying : ByteArray := prog_11_method_60_code
def yX9_staying : MethodName := ⟨RX9, "staying", "()I"⟩
abbrev cX9_stays : ByteArray := prog_11_method_61_code
def yX9_stays : MethodName := ⟨RX9, "stays", "()I"⟩
abbrev cX9_nearest : ByteArray := prog_11_method_62_code
def yX9_nearest : MethodName := ⟨RX9, "nearest", "(III)I"⟩
abbrev cX9_tidies : ByteArray := prog_11_method_63_code
def yX9_tidies : MethodName := ⟨RX9, "tidies", "()I"⟩
abbrev cX9_covers : ByteArray := prog_11_method_64_code
def yX9_covers : MethodName := ⟨RX9, "covers", "(III)Z"⟩
abbrev cX9_covering : ByteArray := prog_11_method_65_code
def yX9_covering : MethodName := ⟨RX9, "covering", "(II)I"⟩
abbrev cX9_isCell : ByteArray := prog_11_method_66_code
def yX9_isCell : MethodName := ⟨RX9, "isCell", "(II)Z"⟩
abbrev cX9_at : ByteArray := prog_11_method_67_code
def yX9_at : MethodName := ⟨RX9, "at", "(II)I"⟩
abbrev cX9_laysWhite : ByteArray := prog_11_method_68_code
def yX9_laysWhite : MethodName := ⟨RX9, "laysWhite", "()I"⟩
abbrev cX9_findsBlock : ByteArray := prog_11_method_69_code
def yX9_findsBlock : MethodName := ⟨RX9, "findsBlock", "()V"⟩
abbrev cX9_heapOf : ByteArray := prog_11_method_70_code
def yX9_heapOf : MethodName := ⟨RX9, "heapOf", "(I)I"⟩
abbrev cX9_heaps : ByteArray := prog_11_method_71_code
def yX9_heaps : MethodName := ⟨RX9, "heaps", "()I"⟩
abbrev cX9_whiteNow : ByteArray := prog_11_method_72_code
def yX9_whiteNow : MethodName := ⟨RX9, "whiteNow", "(I)I"⟩
abbrev cX9_white : ByteArray := prog_11_method_73_code
def yX9_white : MethodName := ⟨RX9, "white", "(I)I"⟩
abbrev cX9_weights : ByteArray := prog_11_method_74_code
def yX9_weights : MethodName := ⟨RX9, "weights", "()I"⟩
abbrev cX9_centreOf : ByteArray := prog_11_method_75_code
def yX9_centreOf : MethodName := ⟨RX9, "centreOf", "(Z)D"⟩
abbrev cX9_middle : ByteArray := prog_11_method_76_code
def yX9_middle : MethodName := ⟨RX9, "middle", "(Z)D"⟩
abbrev cX9_balance : ByteArray := prog_11_method_77_code
def yX9_balance : MethodName := ⟨RX9, "balance", "()D"⟩
abbrev cX9_centreBits : ByteArray := prog_11_method_78_code
def yX9_centreBits : MethodName := ⟨RX9, "centreBits", "(I)J"⟩
abbrev cX9_centre : ByteArray := prog_11_method_79_code
def yX9_centre : MethodName := ⟨RX9, "centre", "(I)J"⟩
abbrev cX9_cells : ByteArray := prog_11_method_80_code
def yX9_cells : MethodName := ⟨RX9, "cells", "(I)I"⟩
abbrev cX9_smallPairs : ByteArray := prog_11_method_81_code
def yX9_smallPairs : MethodName := ⟨RX9, "smallPairs", "()I"⟩
abbrev cX9_allNow : ByteArray := prog_11_method_82_code
def yX9_allNow : MethodName := ⟨RX9, "allNow", "(I)I"⟩
abbrev cX9_all : ByteArray := prog_11_method_83_code
def yX9_all : MethodName := ⟨RX9, "all", "(I)I"⟩
abbrev cX9_aheadOf : ByteArray := prog_11_method_84_code
def yX9_aheadOf : MethodName := ⟨RX9, "aheadOf", "(I)I"⟩
abbrev cX9_sorted : ByteArray := prog_11_method_85_code
def yX9_sorted : MethodName := ⟨RX9, "sorted", "(II)I"⟩
abbrev cX9_kept : ByteArray := prog_11_method_86_code
def yX9_kept : MethodName := ⟨RX9, "kept", "(III)I"⟩
abbrev cX9_isKept : ByteArray := prog_11_method_87_code
def yX9_isKept : MethodName := ⟨RX9, "isKept", "(I)Z"⟩
abbrev cX9_keeps : ByteArray := prog_11_method_88_code
def yX9_keeps : MethodName := ⟨RX9, "keeps", "(I)I"⟩
abbrev cX9_takes : ByteArray := prog_11_method_89_code
def yX9_takes : MethodName := ⟨RX9, "takes", "(I)I"⟩
abbrev cX9_otherwiseNow : ByteArray := prog_11_method_90_code
def yX9_otherwiseNow : MethodName := ⟨RX9, "otherwiseNow", "(II)I"⟩
abbrev cX9_otherwise : ByteArray := prog_11_method_91_code
def yX9_otherwise : MethodName := ⟨RX9, "otherwise", "(II)I"⟩
abbrev cX9_type : ByteArray := prog_11_method_92_code
def yX9_type : MethodName := ⟨RX9, "type", "(I)I"⟩
abbrev cX9_clear : ByteArray := prog_11_method_93_code
def yX9_clear : MethodName := ⟨RX9, "clear", "()I"⟩
abbrev cX9_here : ByteArray := prog_11_method_94_code
def yX9_here : MethodName := ⟨RX9, "here", "()I"⟩
abbrev cX9_isFigure : ByteArray := prog_11_method_95_code
def yX9_isFigure : MethodName := ⟨RX9, "isFigure", "(I)Z"⟩
abbrev cX9_takesAll : ByteArray := prog_11_method_96_code
def yX9_takesAll : MethodName := ⟨RX9, "takesAll", "(I)Z"⟩
abbrev cX9_numbersOf : ByteArray := prog_11_method_97_code
def yX9_numbersOf : MethodName := ⟨RX9, "numbersOf", "(I)I"⟩
abbrev cX9_settingOf : ByteArray := prog_11_method_98_code
def yX9_settingOf : MethodName := ⟨RX9, "settingOf", "(I)I"⟩
abbrev cX9_isOrder : ByteArray := prog_11_method_99_code
def yX9_isOrder : MethodName := ⟨RX9, "isOrder", "(I)Z"⟩
abbrev cX9_can : ByteArray := prog_11_method_100_code
def yX9_can : MethodName := ⟨RX9, "can", "(I)I"⟩
abbrev cX9_does : ByteArray := prog_11_method_101_code
def yX9_does : MethodName := ⟨RX9, "does", "(I)I"⟩
abbrev cX9_readsOrder : ByteArray := prog_11_method_102_code
def yX9_readsOrder : MethodName := ⟨RX9, "readsOrder", "(Z)Z"⟩
abbrev cX9_reads : ByteArray := prog_11_method_103_code
def yX9_reads : MethodName := ⟨RX9, "reads", "()I"⟩
abbrev cX9_keepsAside : ByteArray := prog_11_method_104_code
def yX9_keepsAside : MethodName := ⟨RX9, "keepsAside", "()V"⟩
abbrev cX9_back : ByteArray := prog_11_method_105_code
def yX9_back : MethodName := ⟨RX9, "back", "()I"⟩
abbrev cX9_keptSet : ByteArray := prog_11_method_106_code
def yX9_keptSet : MethodName := ⟨RX9, "keptSet", "()I"⟩
abbrev cX9_toldOf : ByteArray := prog_11_method_107_code
def yX9_toldOf : MethodName := ⟨RX9, "toldOf", "(I)I"⟩
abbrev cX9_told : ByteArray := prog_11_method_108_code
def yX9_told : MethodName := ⟨RX9, "told", "(I)I"⟩
abbrev cX9_digest : ByteArray := prog_11_method_109_code
def yX9_digest : MethodName := ⟨RX9, "digest", "()J"⟩
def RJx145de : String := "java/io/Serializable"
def TJx145de : u_T := fun k => match k with
  | _ => ("", "", "", false)
def tyJx145de : Nat → FieldType := fun k => match k with
  | _ => .int
abbrev wsJx145de0 : List Cond := u_ws RJx145de TJx145de 0
theorem nmJx145de : ∀ a, a < 0 → ∀ b, b < 0 → a ≠ b → (TJx145de a).2.1 ≠ (TJx145de b).2.1 := by decide +kernel
theorem tyJx145de_ok : ∀ k, k < 0 → parseFieldDescriptor (TJx145de k).2.2.1 = some (tyJx145de k) := by decide +kernel
def RJxb160c : String := "java/lang/Comparable"
def TJxb160c : u_T := fun k => match k with
  | _ => ("", "", "", false)
def tyJxb160c : Nat → FieldType := fun k => match k with
  | _ => .int
abbrev wsJxb160c0 : List Cond := u_ws RJxb160c TJxb160c 0
theorem nmJxb160c : ∀ a, a < 0 → ∀ b, b < 0 → a ≠ b → (TJxb160c a).2.1 ≠ (TJxb160c b).2.1 := by decide +kernel
theorem tyJxb160c_ok : ∀ k, k < 0 → parseFieldDescriptor (TJxb160c k).2.2.1 = some (tyJxb160c k) := by decide +kernel
def RJxe99ae : String := "java/lang/Double"
def TJxe99ae : u_T := fun k => match k with
  | _ => ("", "", "", false)
def tyJxe99ae : Nat → FieldType := fun k => match k with
  | _ => .int
abbrev wsJxe99ae0 : List Cond := u_ws RJxe99ae TJxe99ae 0
theorem nmJxe99ae : ∀ a, a < 0 → ∀ b, b < 0 → a ≠ b → (TJxe99ae a).2.1 ≠ (TJxe99ae b).2.1 := by decide +kernel
theorem tyJxe99ae_ok : ∀ k, k < 0 → parseFieldDescriptor (TJxe99ae k).2.2.1 = some (tyJxe99ae k) := by decide +kernel
abbrev cJxe99ae_isNaN_b9ae7 : ByteArray := prog_12_method_6_code
def yJxe99ae_isNaN_b9ae7 : MethodName := ⟨RJxe99ae, "isNaN", "(D)Z"⟩
abbrev cJxe99ae_doubleToLongBits_ccdee : ByteArray := prog_12_method_23_code
def yJxe99ae_doubleToLongBits_ccdee : MethodName := ⟨RJxe99ae, "doubleToLongBits", "(D)J"⟩
def RJxf58ca : String := "java/lang/Float"
def TJxf58ca : u_T := fun k => match k with
  | _ => ("", "", "", false)
def tyJxf58ca : Nat → FieldType := fun k => match k with
  | _ => .int
abbrev wsJxf58ca0 : List Cond := u_ws RJxf58ca TJxf58ca 0
theorem nmJxf58ca : ∀ a, a < 0 → ∀ b, b < 0 → a ≠ b → (TJxf58ca a).2.1 ≠ (TJxf58ca b).2.1 := by decide +kernel
theorem tyJxf58ca_ok : ∀ k, k < 0 → parseFieldDescriptor (TJxf58ca k).2.2.1 = some (tyJxf58ca k) := by decide +kernel
abbrev cJxf58ca_isNaN_12338 : ByteArray := prog_13_method_6_code
def yJxf58ca_isNaN_12338 : MethodName := ⟨RJxf58ca, "isNaN", "(F)Z"⟩
abbrev cJxf58ca_floatToIntBits_5c35a : ByteArray := prog_13_method_24_code
def yJxf58ca_floatToIntBits_5c35a : MethodName := ⟨RJxf58ca, "floatToIntBits", "(F)I"⟩
def RJ6 : String := "java/lang/Integer"
def TJ6 : u_T := fun k => match k with
  | _ => ("", "", "", false)
def tyJ6 : Nat → FieldType := fun k => match k with
  | _ => .int
abbrev wsJ60 : List Cond := u_ws RJ6 TJ6 0
theorem nmJ6 : ∀ a, a < 0 → ∀ b, b < 0 → a ≠ b → (TJ6 a).2.1 ≠ (TJ6 b).2.1 := by decide +kernel
theorem tyJ6_ok : ∀ k, k < 0 → parseFieldDescriptor (TJ6 k).2.2.1 = some (tyJ6 k) := by decide +kernel
abbrev cJ6_bitCount_0f7a4 : ByteArray := prog_14_method_49_code
def yJ6_bitCount_0f7a4 : MethodName := ⟨RJ6, "bitCount", "(I)I"⟩
def RJ9 : String := "java/lang/Math"
def TJ9 : u_T := fun k => match k with
  | _ => ("", "", "", false)
def tyJ9 : Nat → FieldType := fun k => match k with
  | _ => .int
abbrev wsJ90 : List Cond := u_ws RJ9 TJ9 0
theorem nmJ9 : ∀ a, a < 0 → ∀ b, b < 0 → a ≠ b → (TJ9 a).2.1 ≠ (TJ9 b).2.1 := by decide +kernel
theorem tyJ9_ok : ∀ k, k < 0 → parseFieldDescriptor (TJ9 k).2.2.1 = some (tyJ9 k) := by decide +kernel
abbrev cJ9_max_7cf53 : ByteArray := prog_15_method_65_code
def yJ9_max_7cf53 : MethodName := ⟨RJ9, "max", "(II)I"⟩
abbrev cJ9_min_7cf53 : ByteArray := prog_15_method_69_code
def yJ9_min_7cf53 : MethodName := ⟨RJ9, "min", "(II)I"⟩
def RJxd2413 : String := "java/lang/Number"
def TJxd2413 : u_T := fun k => match k with
  | _ => ("", "", "", false)
def tyJxd2413 : Nat → FieldType := fun k => match k with
  | _ => .int
abbrev wsJxd24130 : List Cond := u_ws RJxd2413 TJxd2413 0
theorem nmJxd2413 : ∀ a, a < 0 → ∀ b, b < 0 → a ≠ b → (TJxd2413 a).2.1 ≠ (TJxd2413 b).2.1 := by decide +kernel
theorem tyJxd2413_ok : ∀ k, k < 0 → parseFieldDescriptor (TJxd2413 k).2.2.1 = some (tyJxd2413 k) := by decide +kernel
def RJ10 : String := "java/lang/System"
def TJ10 : u_T := fun k => match k with
  | _ => ("", "", "", false)
def tyJ10 : Nat → FieldType := fun k => match k with
  | _ => .int
abbrev wsJ100 : List Cond := u_ws RJ10 TJ10 0
theorem nmJ10 : ∀ a, a < 0 → ∀ b, b < 0 → a ≠ b → (TJ10 a).2.1 ≠ (TJ10 b).2.1 := by decide +kernel
theorem tyJ10_ok : ∀ k, k < 0 → parseFieldDescriptor (TJ10 k).2.2.1 = some (tyJ10 k) := by decide +kernel
def RJxfd54e : String := "java/lang/constant/Constable"
def TJxfd54e : u_T := fun k => match k with
  | _ => ("", "", "", false)
def tyJxfd54e : Nat → FieldType := fun k => match k with
  | _ => .int
abbrev wsJxfd54e0 : List Cond := u_ws RJxfd54e TJxfd54e 0
theorem nmJxfd54e : ∀ a, a < 0 → ∀ b, b < 0 → a ≠ b → (TJxfd54e a).2.1 ≠ (TJxfd54e b).2.1 := by decide +kernel
theorem tyJxfd54e_ok : ∀ k, k < 0 → parseFieldDescriptor (TJxfd54e k).2.2.1 = some (tyJxfd54e k) := by decide +kernel
def RJx3cf43 : String := "java/lang/constant/ConstantDesc"
def TJx3cf43 : u_T := fun k => match k with
  | _ => ("", "", "", false)
def tyJx3cf43 : Nat → FieldType := fun k => match k with
  | _ => .int
abbrev wsJx3cf430 : List Cond := u_ws RJx3cf43 TJx3cf43 0
theorem nmJx3cf43 : ∀ a, a < 0 → ∀ b, b < 0 → a ≠ b → (TJx3cf43 a).2.1 ≠ (TJx3cf43 b).2.1 := by decide +kernel
theorem tyJx3cf43_ok : ∀ k, k < 0 → parseFieldDescriptor (TJx3cf43 k).2.2.1 = some (tyJx3cf43 k) := by decide +kernel
def RJ7 : String := "java/util/Arrays"
def TJ7 : u_T := fun k => match k with
  | _ => ("", "", "", false)
def tyJ7 : Nat → FieldType := fun k => match k with
  | _ => .int
abbrev wsJ70 : List Cond := u_ws RJ7 TJ7 0
theorem nmJ7 : ∀ a, a < 0 → ∀ b, b < 0 → a ≠ b → (TJ7 a).2.1 ≠ (TJ7 b).2.1 := by decide +kernel
theorem tyJ7_ok : ∀ k, k < 0 → parseFieldDescriptor (TJ7 k).2.2.1 = some (tyJ7 k) := by decide +kernel
abbrev cJ7_fill_53178 : ByteArray := prog_18_method_103_code
def yJ7_fill_53178 : MethodName := ⟨RJ7, "fill", "([II)V"⟩
def RL : String := "PosterSheetLaw"
abbrev cL_law : ByteArray := code
abbrev vwCl : List vw_C := [(RX1, TX1, 11), (RX2, TX2, 3), (RX3, TX3, 3), (RX4, TX4, 2), (RX5, TX5, 3), (RX6, TX6, 6), (RX7, TX7, 11), (RX8, TX8, 10), (RX9, TX9, 16)]
end
section
theorem dX0_ofFloat_0 : decode cX0_ofFloat 0 = .ok (.fload_n 0, 1) := by decide +kernel
theorem dX0_ofFloat_1 : decode cX0_ofFloat 1 = .ok (.fconst 0, 1) := by decide +kernel
theorem dX0_ofFloat_2 : decode cX0_ofFloat 2 = .ok (.fcmp .l, 1) := by decide +kernel
theorem dX0_ofFloat_3 : decode cX0_ofFloat 3 = .ok (.ifCond .gt 5, 3) := by decide +kernel
theorem dX0_ofFloat_6 : decode cX0_ofFloat 6 = .ok (.iconst 0, 1) := by decide +kernel
theorem dX0_ofFloat_7 : decode cX0_ofFloat 7 = .ok (.ireturn, 1) := by decide +kernel
theorem dX0_ofFloat_8 : decode cX0_ofFloat 8 = .ok (.fload_n 0, 1) := by decide +kernel
theorem dX0_ofFloat_9 : decode cX0_ofFloat 9 = .ok (.fstore_n 1, 1) := by decide +kernel
theorem dX0_ofFloat_10 : decode cX0_ofFloat 10 = .ok (.bipush 127, 2) := by decide +kernel
theorem dX0_ofFloat_12 : decode cX0_ofFloat 12 = .ok (.istore_n 2, 1) := by decide +kernel
theorem dX0_ofFloat_13 : decode cX0_ofFloat 13 = .ok (.iconst 0, 1) := by decide +kernel
theorem dX0_ofFloat_14 : decode cX0_ofFloat 14 = .ok (.istore_n 3, 1) := by decide +kernel
theorem dX0_ofFloat_15 : decode cX0_ofFloat 15 = .ok (.iload_n 3, 1) := by decide +kernel
theorem dX0_ofFloat_16 : decode cX0_ofFloat 16 = .ok (.bipush 127, 2) := by decide +kernel
theorem dX0_ofFloat_18 : decode cX0_ofFloat 18 = .ok (.if_icmp .ge 22, 3) := by decide +kernel
theorem dX0_ofFloat_21 : decode cX0_ofFloat 21 = .ok (.fload_n 1, 1) := by decide +kernel
theorem dX0_ofFloat_22 : decode cX0_ofFloat 22 = .ok (.fconst 2, 1) := by decide +kernel
theorem dX0_ofFloat_23 : decode cX0_ofFloat 23 = .ok (.fcmp .l, 1) := by decide +kernel
theorem dX0_ofFloat_24 : decode cX0_ofFloat 24 = .ok (.ifCond .lt 16, 3) := by decide +kernel
theorem dX0_ofFloat_27 : decode cX0_ofFloat 27 = .ok (.fload_n 1, 1) := by decide +kernel
theorem dX0_ofFloat_28 : decode cX0_ofFloat 28 = .ok (.fconst 2, 1) := by decide +kernel
theorem dX0_ofFloat_29 : decode cX0_ofFloat 29 = .ok (.fdiv, 1) := by decide +kernel
theorem dX0_ofFloat_30 : decode cX0_ofFloat 30 = .ok (.fstore_n 1, 1) := by decide +kernel
theorem dX0_ofFloat_31 : decode cX0_ofFloat 31 = .ok (.iinc 2 1, 3) := by decide +kernel
theorem dX0_ofFloat_34 : decode cX0_ofFloat 34 = .ok (.iinc 3 1, 3) := by decide +kernel
theorem dX0_ofFloat_37 : decode cX0_ofFloat 37 = .ok (.goto (-22), 3) := by decide +kernel
theorem dX0_ofFloat_40 : decode cX0_ofFloat 40 = .ok (.iconst 0, 1) := by decide +kernel
theorem dX0_ofFloat_41 : decode cX0_ofFloat 41 = .ok (.istore_n 3, 1) := by decide +kernel
theorem dX0_ofFloat_42 : decode cX0_ofFloat 42 = .ok (.iload_n 3, 1) := by decide +kernel
theorem dX0_ofFloat_43 : decode cX0_ofFloat 43 = .ok (.bipush 127, 2) := by decide +kernel
theorem dX0_ofFloat_45 : decode cX0_ofFloat 45 = .ok (.if_icmp .ge 22, 3) := by decide +kernel
theorem dX0_ofFloat_48 : decode cX0_ofFloat 48 = .ok (.fload_n 1, 1) := by decide +kernel
theorem dX0_ofFloat_49 : decode cX0_ofFloat 49 = .ok (.fconst 1, 1) := by decide +kernel
theorem dX0_ofFloat_50 : decode cX0_ofFloat 50 = .ok (.fcmp .g, 1) := by decide +kernel
theorem dX0_ofFloat_51 : decode cX0_ofFloat 51 = .ok (.ifCond .ge 16, 3) := by decide +kernel
theorem dX0_ofFloat_54 : decode cX0_ofFloat 54 = .ok (.fload_n 1, 1) := by decide +kernel
theorem dX0_ofFloat_55 : decode cX0_ofFloat 55 = .ok (.fconst 2, 1) := by decide +kernel
theorem dX0_ofFloat_56 : decode cX0_ofFloat 56 = .ok (.fmul, 1) := by decide +kernel
theorem dX0_ofFloat_57 : decode cX0_ofFloat 57 = .ok (.fstore_n 1, 1) := by decide +kernel
theorem dX0_ofFloat_58 : decode cX0_ofFloat 58 = .ok (.iinc 2 (-1), 3) := by decide +kernel
theorem dX0_ofFloat_61 : decode cX0_ofFloat 61 = .ok (.iinc 3 1, 3) := by decide +kernel
theorem dX0_ofFloat_64 : decode cX0_ofFloat 64 = .ok (.goto (-22), 3) := by decide +kernel
theorem dX0_ofFloat_67 : decode cX0_ofFloat 67 = .ok (.iload_n 2, 1) := by decide +kernel
theorem dX0_ofFloat_68 : decode cX0_ofFloat 68 = .ok (.bipush 23, 2) := by decide +kernel
theorem dX0_ofFloat_70 : decode cX0_ofFloat 70 = .ok (.ishl, 1) := by decide +kernel
theorem dX0_ofFloat_71 : decode cX0_ofFloat 71 = .ok (.fload_n 1, 1) := by decide +kernel
theorem dX0_ofFloat_72 : decode cX0_ofFloat 72 = .ok (.fconst 1, 1) := by decide +kernel
theorem dX0_ofFloat_73 : decode cX0_ofFloat 73 = .ok (.fsub, 1) := by decide +kernel
theorem dX0_ofFloat_74 : decode cX0_ofFloat 74 = .ok (.ldc 9, 2) := by decide +kernel
theorem dX0_ofFloat_76 : decode cX0_ofFloat 76 = .ok (.fmul, 1) := by decide +kernel
theorem dX0_ofFloat_77 : decode cX0_ofFloat 77 = .ok (.f2i, 1) := by decide +kernel
theorem dX0_ofFloat_78 : decode cX0_ofFloat 78 = .ok (.iadd, 1) := by decide +kernel
theorem dX0_ofFloat_79 : decode cX0_ofFloat 79 = .ok (.ireturn, 1) := by decide +kernel
theorem dX0_ofDouble_0 : decode cX0_ofDouble 0 = .ok (.dload_n 0, 1) := by decide +kernel
theorem dX0_ofDouble_1 : decode cX0_ofDouble 1 = .ok (.dconst 0, 1) := by decide +kernel
theorem dX0_ofDouble_2 : decode cX0_ofDouble 2 = .ok (.dcmp .l, 1) := by decide +kernel
theorem dX0_ofDouble_3 : decode cX0_ofDouble 3 = .ok (.ifCond .gt 5, 3) := by decide +kernel
theorem dX0_ofDouble_6 : decode cX0_ofDouble 6 = .ok (.lconst 0, 1) := by decide +kernel
theorem dX0_ofDouble_7 : decode cX0_ofDouble 7 = .ok (.lreturn, 1) := by decide +kernel
theorem dX0_ofDouble_8 : decode cX0_ofDouble 8 = .ok (.dload_n 0, 1) := by decide +kernel
theorem dX0_ofDouble_9 : decode cX0_ofDouble 9 = .ok (.dstore_n 2, 1) := by decide +kernel
theorem dX0_ofDouble_10 : decode cX0_ofDouble 10 = .ok (.ldc2_w 10, 3) := by decide +kernel
theorem dX0_ofDouble_13 : decode cX0_ofDouble 13 = .ok (.lstore 4, 2) := by decide +kernel
theorem dX0_ofDouble_15 : decode cX0_ofDouble 15 = .ok (.iconst 0, 1) := by decide +kernel
theorem dX0_ofDouble_16 : decode cX0_ofDouble 16 = .ok (.istore 6, 2) := by decide +kernel
theorem dX0_ofDouble_18 : decode cX0_ofDouble 18 = .ok (.iload 6, 2) := by decide +kernel
theorem dX0_ofDouble_20 : decode cX0_ofDouble 20 = .ok (.sipush 1023, 3) := by decide +kernel
theorem dX0_ofDouble_23 : decode cX0_ofDouble 23 = .ok (.if_icmp .ge 29, 3) := by decide +kernel
theorem dX0_ofDouble_26 : decode cX0_ofDouble 26 = .ok (.dload_n 2, 1) := by decide +kernel
theorem dX0_ofDouble_27 : decode cX0_ofDouble 27 = .ok (.ldc2_w 12, 3) := by decide +kernel
theorem dX0_ofDouble_30 : decode cX0_ofDouble 30 = .ok (.dcmp .l, 1) := by decide +kernel
theorem dX0_ofDouble_31 : decode cX0_ofDouble 31 = .ok (.ifCond .lt 21, 3) := by decide +kernel
theorem dX0_ofDouble_34 : decode cX0_ofDouble 34 = .ok (.dload_n 2, 1) := by decide +kernel
theorem dX0_ofDouble_35 : decode cX0_ofDouble 35 = .ok (.ldc2_w 12, 3) := by decide +kernel
theorem dX0_ofDouble_38 : decode cX0_ofDouble 38 = .ok (.ddiv, 1) := by decide +kernel
theorem dX0_ofDouble_39 : decode cX0_ofDouble 39 = .ok (.dstore_n 2, 1) := by decide +kernel
theorem dX0_ofDouble_40 : decode cX0_ofDouble 40 = .ok (.lload 4, 2) := by decide +kernel
theorem dX0_ofDouble_42 : decode cX0_ofDouble 42 = .ok (.lconst 1, 1) := by decide +kernel
theorem dX0_ofDouble_43 : decode cX0_ofDouble 43 = .ok (.ladd, 1) := by decide +kernel
theorem dX0_ofDouble_44 : decode cX0_ofDouble 44 = .ok (.lstore 4, 2) := by decide +kernel
theorem dX0_ofDouble_46 : decode cX0_ofDouble 46 = .ok (.iinc 6 1, 3) := by decide +kernel
theorem dX0_ofDouble_49 : decode cX0_ofDouble 49 = .ok (.goto (-31), 3) := by decide +kernel
theorem dX0_ofDouble_52 : decode cX0_ofDouble 52 = .ok (.iconst 0, 1) := by decide +kernel
theorem dX0_ofDouble_53 : decode cX0_ofDouble 53 = .ok (.istore 6, 2) := by decide +kernel
theorem dX0_ofDouble_55 : decode cX0_ofDouble 55 = .ok (.iload 6, 2) := by decide +kernel
theorem dX0_ofDouble_57 : decode cX0_ofDouble 57 = .ok (.sipush 1023, 3) := by decide +kernel
theorem dX0_ofDouble_60 : decode cX0_ofDouble 60 = .ok (.if_icmp .ge 27, 3) := by decide +kernel
theorem dX0_ofDouble_63 : decode cX0_ofDouble 63 = .ok (.dload_n 2, 1) := by decide +kernel
theorem dX0_ofDouble_64 : decode cX0_ofDouble 64 = .ok (.dconst 1, 1) := by decide +kernel
theorem dX0_ofDouble_65 : decode cX0_ofDouble 65 = .ok (.dcmp .g, 1) := by decide +kernel
theorem dX0_ofDouble_66 : decode cX0_ofDouble 66 = .ok (.ifCond .ge 21, 3) := by decide +kernel
theorem dX0_ofDouble_69 : decode cX0_ofDouble 69 = .ok (.dload_n 2, 1) := by decide +kernel
theorem dX0_ofDouble_70 : decode cX0_ofDouble 70 = .ok (.ldc2_w 12, 3) := by decide +kernel
theorem dX0_ofDouble_73 : decode cX0_ofDouble 73 = .ok (.dmul, 1) := by decide +kernel
theorem dX0_ofDouble_74 : decode cX0_ofDouble 74 = .ok (.dstore_n 2, 1) := by decide +kernel
theorem dX0_ofDouble_75 : decode cX0_ofDouble 75 = .ok (.lload 4, 2) := by decide +kernel
theorem dX0_ofDouble_77 : decode cX0_ofDouble 77 = .ok (.lconst 1, 1) := by decide +kernel
theorem dX0_ofDouble_78 : decode cX0_ofDouble 78 = .ok (.lsub, 1) := by decide +kernel
theorem dX0_ofDouble_79 : decode cX0_ofDouble 79 = .ok (.lstore 4, 2) := by decide +kernel
theorem dX0_ofDouble_81 : decode cX0_ofDouble 81 = .ok (.iinc 6 1, 3) := by decide +kernel
theorem dX0_ofDouble_84 : decode cX0_ofDouble 84 = .ok (.goto (-29), 3) := by decide +kernel
theorem dX0_ofDouble_87 : decode cX0_ofDouble 87 = .ok (.lload 4, 2) := by decide +kernel
theorem dX0_ofDouble_89 : decode cX0_ofDouble 89 = .ok (.bipush 52, 2) := by decide +kernel
theorem dX0_ofDouble_91 : decode cX0_ofDouble 91 = .ok (.lshl, 1) := by decide +kernel
theorem dX0_ofDouble_92 : decode cX0_ofDouble 92 = .ok (.dload_n 2, 1) := by decide +kernel
theorem dX0_ofDouble_93 : decode cX0_ofDouble 93 = .ok (.dconst 1, 1) := by decide +kernel
theorem dX0_ofDouble_94 : decode cX0_ofDouble 94 = .ok (.dsub, 1) := by decide +kernel
theorem dX0_ofDouble_95 : decode cX0_ofDouble 95 = .ok (.ldc2_w 14, 3) := by decide +kernel
theorem dX0_ofDouble_98 : decode cX0_ofDouble 98 = .ok (.dmul, 1) := by decide +kernel
theorem dX0_ofDouble_99 : decode cX0_ofDouble 99 = .ok (.d2l, 1) := by decide +kernel
theorem dX0_ofDouble_100 : decode cX0_ofDouble 100 = .ok (.ladd, 1) := by decide +kernel
theorem dX0_ofDouble_101 : decode cX0_ofDouble 101 = .ok (.lreturn, 1) := by decide +kernel
theorem dX1_init_0 : decode cX1_init 0 = .ok (.aload_n 0, 1) := by decide +kernel
theorem dX1_init_1 : decode cX1_init 1 = .ok (.invokespecial 3, 3) := by decide +kernel
theorem dX1_init_4 : decode cX1_init 4 = .ok (.aload_n 0, 1) := by decide +kernel
theorem dX1_init_5 : decode cX1_init 5 = .ok (.bipush 12, 2) := by decide +kernel
theorem dX1_init_7 : decode cX1_init 7 = .ok (.putfield 9, 3) := by decide +kernel
theorem dX1_init_10 : decode cX1_init 10 = .ok (.aload_n 0, 1) := by decide +kernel
theorem dX1_init_11 : decode cX1_init 11 = .ok (.bipush 12, 2) := by decide +kernel
theorem dX1_init_13 : decode cX1_init 13 = .ok (.putfield 15, 3) := by decide +kernel
theorem dX1_init_16 : decode cX1_init 16 = .ok (.aload_n 0, 1) := by decide +kernel
theorem dX1_init_17 : decode cX1_init 17 = .ok (.new 18, 3) := by decide +kernel
theorem dX1_init_20 : decode cX1_init 20 = .ok (.dup, 1) := by decide +kernel
theorem dX1_init_21 : decode cX1_init 21 = .ok (.invokespecial 20, 3) := by decide +kernel
theorem dX1_init_24 : decode cX1_init 24 = .ok (.putfield 21, 3) := by decide +kernel
theorem dX1_init_27 : decode cX1_init 27 = .ok (.aload_n 0, 1) := by decide +kernel
theorem dX1_init_28 : decode cX1_init 28 = .ok (.iconst 5, 1) := by decide +kernel
theorem dX1_init_29 : decode cX1_init 29 = .ok (.newarray .int, 2) := by decide +kernel
theorem dX1_init_31 : decode cX1_init 31 = .ok (.putfield 25, 3) := by decide +kernel
theorem dX1_init_34 : decode cX1_init 34 = .ok (.aload_n 0, 1) := by decide +kernel
theorem dX1_init_35 : decode cX1_init 35 = .ok (.getfield 25, 3) := by decide +kernel
theorem dX1_init_38 : decode cX1_init 38 = .ok (.iconst 0, 1) := by decide +kernel
theorem dX1_init_39 : decode cX1_init 39 = .ok (.iconst 1, 1) := by decide +kernel
theorem dX1_init_40 : decode cX1_init 40 = .ok (.iastore, 1) := by decide +kernel
theorem dX1_init_41 : decode cX1_init 41 = .ok (.aload_n 0, 1) := by decide +kernel
theorem dX1_init_42 : decode cX1_init 42 = .ok (.getfield 25, 3) := by decide +kernel
theorem dX1_init_45 : decode cX1_init 45 = .ok (.iconst 2, 1) := by decide +kernel
theorem dX1_init_46 : decode cX1_init 46 = .ok (.bipush 40, 2) := by decide +kernel
theorem dX1_init_48 : decode cX1_init 48 = .ok (.iastore, 1) := by decide +kernel
theorem dX1_init_49 : decode cX1_init 49 = .ok (.aload_n 0, 1) := by decide +kernel
theorem dX1_init_50 : decode cX1_init 50 = .ok (.getfield 25, 3) := by decide +kernel
theorem dX1_init_53 : decode cX1_init 53 = .ok (.iconst 3, 1) := by decide +kernel
theorem dX1_init_54 : decode cX1_init 54 = .ok (.bipush 15, 2) := by decide +kernel
theorem dX1_init_56 : decode cX1_init 56 = .ok (.iastore, 1) := by decide +kernel
theorem dX1_init_57 : decode cX1_init 57 = .ok (.aload_n 0, 1) := by decide +kernel
theorem dX1_init_58 : decode cX1_init 58 = .ok (.bipush 32, 2) := by decide +kernel
theorem dX1_init_60 : decode cX1_init 60 = .ok (.newarray .int, 2) := by decide +kernel
theorem dX1_init_62 : decode cX1_init 62 = .ok (.putfield 29, 3) := by decide +kernel
theorem dX1_init_65 : decode cX1_init 65 = .ok (.aload_n 0, 1) := by decide +kernel
theorem dX1_init_66 : decode cX1_init 66 = .ok (.bipush 8, 2) := by decide +kernel
theorem dX1_init_68 : decode cX1_init 68 = .ok (.newarray .int, 2) := by decide +kernel
theorem dX1_init_70 : decode cX1_init 70 = .ok (.putfield 32, 3) := by decide +kernel
theorem dX1_init_73 : decode cX1_init 73 = .ok (.aload_n 0, 1) := by decide +kernel
theorem dX1_init_74 : decode cX1_init 74 = .ok (.bipush 8, 2) := by decide +kernel
theorem dX1_init_76 : decode cX1_init 76 = .ok (.newarray .int, 2) := by decide +kernel
theorem dX1_init_78 : decode cX1_init 78 = .ok (.putfield 35, 3) := by decide +kernel
theorem dX1_init_81 : decode cX1_init 81 = .ok (.aload_n 0, 1) := by decide +kernel
theorem dX1_init_82 : decode cX1_init 82 = .ok (.bipush 8, 2) := by decide +kernel
theorem dX1_init_84 : decode cX1_init 84 = .ok (.newarray .int, 2) := by decide +kernel
theorem dX1_init_86 : decode cX1_init 86 = .ok (.putfield 38, 3) := by decide +kernel
theorem dX1_init_89 : decode cX1_init 89 = .ok (.aload_n 0, 1) := by decide +kernel
theorem dX1_init_90 : decode cX1_init 90 = .ok (.bipush 8, 2) := by decide +kernel
theorem dX1_init_92 : decode cX1_init 92 = .ok (.newarray .int, 2) := by decide +kernel
theorem dX1_init_94 : decode cX1_init 94 = .ok (.putfield 41, 3) := by decide +kernel
theorem dX1_init_97 : decode cX1_init 97 = .ok (.return_, 1) := by decide +kernel
theorem dX1_copyFrom_0 : decode cX1_copyFrom 0 = .ok (.aload_n 1, 1) := by decide +kernel
theorem dX1_copyFrom_1 : decode cX1_copyFrom 1 = .ok (.ifnonnull 4, 3) := by decide +kernel
theorem dX1_copyFrom_4 : decode cX1_copyFrom 4 = .ok (.return_, 1) := by decide +kernel
theorem dX1_copyFrom_5 : decode cX1_copyFrom 5 = .ok (.aload_n 0, 1) := by decide +kernel
theorem dX1_copyFrom_6 : decode cX1_copyFrom 6 = .ok (.aload_n 1, 1) := by decide +kernel
theorem dX1_copyFrom_7 : decode cX1_copyFrom 7 = .ok (.getfield 9, 3) := by decide +kernel
theorem dX1_copyFrom_10 : decode cX1_copyFrom 10 = .ok (.putfield 9, 3) := by decide +kernel
theorem dX1_copyFrom_13 : decode cX1_copyFrom 13 = .ok (.aload_n 0, 1) := by decide +kernel
theorem dX1_copyFrom_14 : decode cX1_copyFrom 14 = .ok (.aload_n 1, 1) := by decide +kernel
theorem dX1_copyFrom_15 : decode cX1_copyFrom 15 = .ok (.getfield 15, 3) := by decide +kernel
theorem dX1_copyFrom_18 : decode cX1_copyFrom 18 = .ok (.putfield 15, 3) := by decide +kernel
theorem dX1_copyFrom_21 : decode cX1_copyFrom 21 = .ok (.aload_n 0, 1) := by decide +kernel
theorem dX1_copyFrom_22 : decode cX1_copyFrom 22 = .ok (.aload_n 1, 1) := by decide +kernel
theorem dX1_copyFrom_23 : decode cX1_copyFrom 23 = .ok (.getfield 44, 3) := by decide +kernel
theorem dX1_copyFrom_26 : decode cX1_copyFrom 26 = .ok (.putfield 44, 3) := by decide +kernel
theorem dX1_copyFrom_29 : decode cX1_copyFrom 29 = .ok (.aload_n 0, 1) := by decide +kernel
theorem dX1_copyFrom_30 : decode cX1_copyFrom 30 = .ok (.aload_n 1, 1) := by decide +kernel
theorem dX1_copyFrom_31 : decode cX1_copyFrom 31 = .ok (.getfield 47, 3) := by decide +kernel
theorem dX1_copyFrom_34 : decode cX1_copyFrom 34 = .ok (.putfield 47, 3) := by decide +kernel
theorem dX1_copyFrom_37 : decode cX1_copyFrom 37 = .ok (.aload_n 0, 1) := by decide +kernel
theorem dX1_copyFrom_38 : decode cX1_copyFrom 38 = .ok (.getfield 21, 3) := by decide +kernel
theorem dX1_copyFrom_41 : decode cX1_copyFrom 41 = .ok (.aload_n 1, 1) := by decide +kernel
theorem dX1_copyFrom_42 : decode cX1_copyFrom 42 = .ok (.getfield 21, 3) := by decide +kernel
theorem dX1_copyFrom_45 : decode cX1_copyFrom 45 = .ok (.invokevirtual 50, 3) := by decide +kernel
theorem dX1_copyFrom_48 : decode cX1_copyFrom 48 = .ok (.aload_n 1, 1) := by decide +kernel
theorem dX1_copyFrom_49 : decode cX1_copyFrom 49 = .ok (.getfield 25, 3) := by decide +kernel
theorem dX1_copyFrom_52 : decode cX1_copyFrom 52 = .ok (.iconst 0, 1) := by decide +kernel
theorem dX1_copyFrom_53 : decode cX1_copyFrom 53 = .ok (.aload_n 0, 1) := by decide +kernel
theorem dX1_copyFrom_54 : decode cX1_copyFrom 54 = .ok (.getfield 25, 3) := by decide +kernel
theorem dX1_copyFrom_57 : decode cX1_copyFrom 57 = .ok (.iconst 0, 1) := by decide +kernel
theorem dX1_copyFrom_58 : decode cX1_copyFrom 58 = .ok (.iconst 5, 1) := by decide +kernel
theorem dX1_copyFrom_59 : decode cX1_copyFrom 59 = .ok (.invokestatic 54, 3) := by decide +kernel
theorem dX1_copyFrom_62 : decode cX1_copyFrom 62 = .ok (.aload_n 1, 1) := by decide +kernel
theorem dX1_copyFrom_63 : decode cX1_copyFrom 63 = .ok (.getfield 29, 3) := by decide +kernel
theorem dX1_copyFrom_66 : decode cX1_copyFrom 66 = .ok (.iconst 0, 1) := by decide +kernel
theorem dX1_copyFrom_67 : decode cX1_copyFrom 67 = .ok (.aload_n 0, 1) := by decide +kernel
theorem dX1_copyFrom_68 : decode cX1_copyFrom 68 = .ok (.getfield 29, 3) := by decide +kernel
theorem dX1_copyFrom_71 : decode cX1_copyFrom 71 = .ok (.iconst 0, 1) := by decide +kernel
theorem dX1_copyFrom_72 : decode cX1_copyFrom 72 = .ok (.bipush 32, 2) := by decide +kernel
theorem dX1_copyFrom_74 : decode cX1_copyFrom 74 = .ok (.invokestatic 54, 3) := by decide +kernel
theorem dX1_copyFrom_77 : decode cX1_copyFrom 77 = .ok (.aload_n 1, 1) := by decide +kernel
theorem dX1_copyFrom_78 : decode cX1_copyFrom 78 = .ok (.getfield 32, 3) := by decide +kernel
theorem dX1_copyFrom_81 : decode cX1_copyFrom 81 = .ok (.iconst 0, 1) := by decide +kernel
theorem dX1_copyFrom_82 : decode cX1_copyFrom 82 = .ok (.aload_n 0, 1) := by decide +kernel
theorem dX1_copyFrom_83 : decode cX1_copyFrom 83 = .ok (.getfield 32, 3) := by decide +kernel
theorem dX1_copyFrom_86 : decode cX1_copyFrom 86 = .ok (.iconst 0, 1) := by decide +kernel
theorem dX1_copyFrom_87 : decode cX1_copyFrom 87 = .ok (.bipush 8, 2) := by decide +kernel
theorem dX1_copyFrom_89 : decode cX1_copyFrom 89 = .ok (.invokestatic 54, 3) := by decide +kernel
theorem dX1_copyFrom_92 : decode cX1_copyFrom 92 = .ok (.aload_n 1, 1) := by decide +kernel
theorem dX1_copyFrom_93 : decode cX1_copyFrom 93 = .ok (.getfield 35, 3) := by decide +kernel
theorem dX1_copyFrom_96 : decode cX1_copyFrom 96 = .ok (.iconst 0, 1) := by decide +kernel
theorem dX1_copyFrom_97 : decode cX1_copyFrom 97 = .ok (.aload_n 0, 1) := by decide +kernel
theorem dX1_copyFrom_98 : decode cX1_copyFrom 98 = .ok (.getfield 35, 3) := by decide +kernel
theorem dX1_copyFrom_101 : decode cX1_copyFrom 101 = .ok (.iconst 0, 1) := by decide +kernel
theorem dX1_copyFrom_102 : decode cX1_copyFrom 102 = .ok (.bipush 8, 2) := by decide +kernel
theorem dX1_copyFrom_104 : decode cX1_copyFrom 104 = .ok (.invokestatic 54, 3) := by decide +kernel
theorem dX1_copyFrom_107 : decode cX1_copyFrom 107 = .ok (.aload_n 1, 1) := by decide +kernel
theorem dX1_copyFrom_108 : decode cX1_copyFrom 108 = .ok (.getfield 38, 3) := by decide +kernel
theorem dX1_copyFrom_111 : decode cX1_copyFrom 111 = .ok (.iconst 0, 1) := by decide +kernel
theorem dX1_copyFrom_112 : decode cX1_copyFrom 112 = .ok (.aload_n 0, 1) := by decide +kernel
theorem dX1_copyFrom_113 : decode cX1_copyFrom 113 = .ok (.getfield 38, 3) := by decide +kernel
theorem dX1_copyFrom_116 : decode cX1_copyFrom 116 = .ok (.iconst 0, 1) := by decide +kernel
theorem dX1_copyFrom_117 : decode cX1_copyFrom 117 = .ok (.bipush 8, 2) := by decide +kernel
theorem dX1_copyFrom_119 : decode cX1_copyFrom 119 = .ok (.invokestatic 54, 3) := by decide +kernel
theorem dX1_copyFrom_122 : decode cX1_copyFrom 122 = .ok (.aload_n 1, 1) := by decide +kernel
theorem dX1_copyFrom_123 : decode cX1_copyFrom 123 = .ok (.getfield 41, 3) := by decide +kernel
theorem dX1_copyFrom_126 : decode cX1_copyFrom 126 = .ok (.iconst 0, 1) := by decide +kernel
theorem dX1_copyFrom_127 : decode cX1_copyFrom 127 = .ok (.aload_n 0, 1) := by decide +kernel
theorem dX1_copyFrom_128 : decode cX1_copyFrom 128 = .ok (.getfield 41, 3) := by decide +kernel
theorem dX1_copyFrom_131 : decode cX1_copyFrom 131 = .ok (.iconst 0, 1) := by decide +kernel
theorem dX1_copyFrom_132 : decode cX1_copyFrom 132 = .ok (.bipush 8, 2) := by decide +kernel
theorem dX1_copyFrom_134 : decode cX1_copyFrom 134 = .ok (.invokestatic 54, 3) := by decide +kernel
theorem dX1_copyFrom_137 : decode cX1_copyFrom 137 = .ok (.return_, 1) := by decide +kernel
theorem dX1_hasItem_0 : decode cX1_hasItem 0 = .ok (.iload_n 1, 1) := by decide +kernel
theorem dX1_hasItem_1 : decode cX1_hasItem 1 = .ok (.ifCond .lt 21, 3) := by decide +kernel
theorem dX1_hasItem_4 : decode cX1_hasItem 4 = .ok (.iload_n 1, 1) := by decide +kernel
theorem dX1_hasItem_5 : decode cX1_hasItem 5 = .ok (.aload_n 0, 1) := by decide +kernel
theorem dX1_hasItem_6 : decode cX1_hasItem 6 = .ok (.getfield 44, 3) := by decide +kernel
theorem dX1_hasItem_9 : decode cX1_hasItem 9 = .ok (.if_icmp .ge 13, 3) := by decide +kernel
theorem dX1_hasItem_12 : decode cX1_hasItem 12 = .ok (.iload_n 1, 1) := by decide +kernel
theorem dX1_hasItem_13 : decode cX1_hasItem 13 = .ok (.bipush 8, 2) := by decide +kernel
theorem dX1_hasItem_15 : decode cX1_hasItem 15 = .ok (.if_icmp .ge 7, 3) := by decide +kernel
theorem dX1_hasItem_18 : decode cX1_hasItem 18 = .ok (.iconst 1, 1) := by decide +kernel
theorem dX1_hasItem_19 : decode cX1_hasItem 19 = .ok (.goto 4, 3) := by decide +kernel
theorem dX1_hasItem_22 : decode cX1_hasItem 22 = .ok (.iconst 0, 1) := by decide +kernel
theorem dX1_hasItem_23 : decode cX1_hasItem 23 = .ok (.ireturn, 1) := by decide +kernel
theorem dX1_setting_0 : decode cX1_setting 0 = .ok (.iload_n 1, 1) := by decide +kernel
theorem dX1_setting_1 : decode cX1_setting 1 = .ok (.iconst 0, 1) := by decide +kernel
theorem dX1_setting_2 : decode cX1_setting 2 = .ok (.iconst 4, 1) := by decide +kernel
theorem dX1_setting_3 : decode cX1_setting 3 = .ok (.invokestatic 60, 3) := by decide +kernel
theorem dX1_setting_6 : decode cX1_setting 6 = .ok (.ifCond .eq 12, 3) := by decide +kernel
theorem dX1_setting_9 : decode cX1_setting 9 = .ok (.aload_n 0, 1) := by decide +kernel
theorem dX1_setting_10 : decode cX1_setting 10 = .ok (.getfield 25, 3) := by decide +kernel
theorem dX1_setting_13 : decode cX1_setting 13 = .ok (.iload_n 1, 1) := by decide +kernel
theorem dX1_setting_14 : decode cX1_setting 14 = .ok (.iaload, 1) := by decide +kernel
theorem dX1_setting_15 : decode cX1_setting 15 = .ok (.goto 4, 3) := by decide +kernel
theorem dX1_setting_18 : decode cX1_setting 18 = .ok (.iconst (-1), 1) := by decide +kernel
theorem dX1_setting_19 : decode cX1_setting 19 = .ok (.ireturn, 1) := by decide +kernel
theorem dX1_trait_0 : decode cX1_trait 0 = .ok (.aload_n 0, 1) := by decide +kernel
theorem dX1_trait_1 : decode cX1_trait 1 = .ok (.iload_n 1, 1) := by decide +kernel
theorem dX1_trait_2 : decode cX1_trait 2 = .ok (.invokevirtual 64, 3) := by decide +kernel
theorem dX1_trait_5 : decode cX1_trait 5 = .ok (.ifCond .eq 25, 3) := by decide +kernel
theorem dX1_trait_8 : decode cX1_trait 8 = .ok (.iload_n 2, 1) := by decide +kernel
theorem dX1_trait_9 : decode cX1_trait 9 = .ok (.iconst 0, 1) := by decide +kernel
theorem dX1_trait_10 : decode cX1_trait 10 = .ok (.iconst 3, 1) := by decide +kernel
theorem dX1_trait_11 : decode cX1_trait 11 = .ok (.invokestatic 60, 3) := by decide +kernel
theorem dX1_trait_14 : decode cX1_trait 14 = .ok (.ifCond .eq 16, 3) := by decide +kernel
theorem dX1_trait_17 : decode cX1_trait 17 = .ok (.aload_n 0, 1) := by decide +kernel
theorem dX1_trait_18 : decode cX1_trait 18 = .ok (.getfield 29, 3) := by decide +kernel
theorem dX1_trait_21 : decode cX1_trait 21 = .ok (.iconst 4, 1) := by decide +kernel
theorem dX1_trait_22 : decode cX1_trait 22 = .ok (.iload_n 1, 1) := by decide +kernel
theorem dX1_trait_23 : decode cX1_trait 23 = .ok (.imul, 1) := by decide +kernel
theorem dX1_trait_24 : decode cX1_trait 24 = .ok (.iload_n 2, 1) := by decide +kernel
theorem dX1_trait_25 : decode cX1_trait 25 = .ok (.iadd, 1) := by decide +kernel
theorem dX1_trait_26 : decode cX1_trait 26 = .ok (.iaload, 1) := by decide +kernel
theorem dX1_trait_27 : decode cX1_trait 27 = .ok (.goto 4, 3) := by decide +kernel
theorem dX1_trait_30 : decode cX1_trait 30 = .ok (.iconst (-1), 1) := by decide +kernel
theorem dX1_trait_31 : decode cX1_trait 31 = .ok (.ireturn, 1) := by decide +kernel
theorem dX1_againstSize_0 : decode cX1_againstSize 0 = .ok (.iload_n 1, 1) := by decide +kernel
theorem dX1_againstSize_1 : decode cX1_againstSize 1 = .ok (.bipush 6, 2) := by decide +kernel
theorem dX1_againstSize_3 : decode cX1_againstSize 3 = .ok (.bipush 16, 2) := by decide +kernel
theorem dX1_againstSize_5 : decode cX1_againstSize 5 = .ok (.invokestatic 60, 3) := by decide +kernel
theorem dX1_againstSize_8 : decode cX1_againstSize 8 = .ok (.ifCond .eq 18, 3) := by decide +kernel
theorem dX1_againstSize_11 : decode cX1_againstSize 11 = .ok (.iload_n 2, 1) := by decide +kernel
theorem dX1_againstSize_12 : decode cX1_againstSize 12 = .ok (.bipush 6, 2) := by decide +kernel
theorem dX1_againstSize_14 : decode cX1_againstSize 14 = .ok (.bipush 16, 2) := by decide +kernel
theorem dX1_againstSize_16 : decode cX1_againstSize 16 = .ok (.invokestatic 60, 3) := by decide +kernel
theorem dX1_againstSize_19 : decode cX1_againstSize 19 = .ok (.ifCond .eq 7, 3) := by decide +kernel
theorem dX1_againstSize_22 : decode cX1_againstSize 22 = .ok (.iconst 1, 1) := by decide +kernel
theorem dX1_againstSize_23 : decode cX1_againstSize 23 = .ok (.goto 4, 3) := by decide +kernel
theorem dX1_againstSize_26 : decode cX1_againstSize 26 = .ok (.iconst 0, 1) := by decide +kernel
theorem dX1_againstSize_27 : decode cX1_againstSize 27 = .ok (.invokestatic 68, 3) := by decide +kernel
theorem dX1_againstSize_30 : decode cX1_againstSize 30 = .ok (.ireturn, 1) := by decide +kernel
theorem dX1_resize_0 : decode cX1_resize 0 = .ok (.bipush 100, 2) := by decide +kernel
theorem dX1_resize_2 : decode cX1_resize 2 = .ok (.aload_n 0, 1) := by decide +kernel
theorem dX1_resize_3 : decode cX1_resize 3 = .ok (.getfield 9, 3) := by decide +kernel
theorem dX1_resize_6 : decode cX1_resize 6 = .ok (.imul, 1) := by decide +kernel
theorem dX1_resize_7 : decode cX1_resize 7 = .ok (.aload_n 0, 1) := by decide +kernel
theorem dX1_resize_8 : decode cX1_resize 8 = .ok (.getfield 15, 3) := by decide +kernel
theorem dX1_resize_11 : decode cX1_resize 11 = .ok (.iadd, 1) := by decide +kernel
theorem dX1_resize_12 : decode cX1_resize 12 = .ok (.istore_n 3, 1) := by decide +kernel
theorem dX1_resize_13 : decode cX1_resize 13 = .ok (.aload_n 0, 1) := by decide +kernel
theorem dX1_resize_14 : decode cX1_resize 14 = .ok (.iload_n 1, 1) := by decide +kernel
theorem dX1_resize_15 : decode cX1_resize 15 = .ok (.putfield 9, 3) := by decide +kernel
theorem dX1_resize_18 : decode cX1_resize 18 = .ok (.aload_n 0, 1) := by decide +kernel
theorem dX1_resize_19 : decode cX1_resize 19 = .ok (.iload_n 2, 1) := by decide +kernel
theorem dX1_resize_20 : decode cX1_resize 20 = .ok (.putfield 15, 3) := by decide +kernel
theorem dX1_resize_23 : decode cX1_resize 23 = .ok (.aload_n 0, 1) := by decide +kernel
theorem dX1_resize_24 : decode cX1_resize 24 = .ok (.invokevirtual 72, 3) := by decide +kernel
theorem dX1_resize_27 : decode cX1_resize 27 = .ok (.iload_n 3, 1) := by decide +kernel
theorem dX1_resize_28 : decode cX1_resize 28 = .ok (.ireturn, 1) := by decide +kernel
theorem dX1_againstSetting_0 : decode cX1_againstSetting 0 = .ok (.iload_n 1, 1) := by decide +kernel
theorem dX1_againstSetting_1 : decode cX1_againstSetting 1 = .ok (.iconst 0, 1) := by decide +kernel
theorem dX1_againstSetting_2 : decode cX1_againstSetting 2 = .ok (.iconst 4, 1) := by decide +kernel
theorem dX1_againstSetting_3 : decode cX1_againstSetting 3 = .ok (.invokestatic 60, 3) := by decide +kernel
theorem dX1_againstSetting_6 : decode cX1_againstSetting 6 = .ok (.ifCond .eq 24, 3) := by decide +kernel
theorem dX1_againstSetting_9 : decode cX1_againstSetting 9 = .ok (.iload_n 2, 1) := by decide +kernel
theorem dX1_againstSetting_10 : decode cX1_againstSetting 10 = .ok (.getstatic 75, 3) := by decide +kernel
theorem dX1_againstSetting_13 : decode cX1_againstSetting 13 = .ok (.iload_n 1, 1) := by decide +kernel
theorem dX1_againstSetting_14 : decode cX1_againstSetting 14 = .ok (.iaload, 1) := by decide +kernel
theorem dX1_againstSetting_15 : decode cX1_againstSetting 15 = .ok (.getstatic 78, 3) := by decide +kernel
theorem dX1_againstSetting_18 : decode cX1_againstSetting 18 = .ok (.iload_n 1, 1) := by decide +kernel
theorem dX1_againstSetting_19 : decode cX1_againstSetting 19 = .ok (.iaload, 1) := by decide +kernel
theorem dX1_againstSetting_20 : decode cX1_againstSetting 20 = .ok (.invokestatic 60, 3) := by decide +kernel
theorem dX1_againstSetting_23 : decode cX1_againstSetting 23 = .ok (.ifCond .eq 7, 3) := by decide +kernel
theorem dX1_againstSetting_26 : decode cX1_againstSetting 26 = .ok (.iconst 1, 1) := by decide +kernel
theorem dX1_againstSetting_27 : decode cX1_againstSetting 27 = .ok (.goto 4, 3) := by decide +kernel
theorem dX1_againstSetting_30 : decode cX1_againstSetting 30 = .ok (.iconst 0, 1) := by decide +kernel
theorem dX1_againstSetting_31 : decode cX1_againstSetting 31 = .ok (.invokestatic 68, 3) := by decide +kernel
theorem dX1_againstSetting_34 : decode cX1_againstSetting 34 = .ok (.ireturn, 1) := by decide +kernel
theorem dX1_putSetting_0 : decode cX1_putSetting 0 = .ok (.iload_n 1, 1) := by decide +kernel
theorem dX1_putSetting_1 : decode cX1_putSetting 1 = .ok (.iconst 0, 1) := by decide +kernel
theorem dX1_putSetting_2 : decode cX1_putSetting 2 = .ok (.iconst 4, 1) := by decide +kernel
theorem dX1_putSetting_3 : decode cX1_putSetting 3 = .ok (.invokestatic 60, 3) := by decide +kernel
theorem dX1_putSetting_6 : decode cX1_putSetting 6 = .ok (.ifCond .ne 6, 3) := by decide +kernel
theorem dX1_putSetting_9 : decode cX1_putSetting 9 = .ok (.bipush (-2), 2) := by decide +kernel
theorem dX1_putSetting_11 : decode cX1_putSetting 11 = .ok (.ireturn, 1) := by decide +kernel
theorem dX1_putSetting_12 : decode cX1_putSetting 12 = .ok (.aload_n 0, 1) := by decide +kernel
theorem dX1_putSetting_13 : decode cX1_putSetting 13 = .ok (.getfield 25, 3) := by decide +kernel
theorem dX1_putSetting_16 : decode cX1_putSetting 16 = .ok (.iload_n 1, 1) := by decide +kernel
theorem dX1_putSetting_17 : decode cX1_putSetting 17 = .ok (.iaload, 1) := by decide +kernel
theorem dX1_putSetting_18 : decode cX1_putSetting 18 = .ok (.istore_n 3, 1) := by decide +kernel
theorem dX1_putSetting_19 : decode cX1_putSetting 19 = .ok (.aload_n 0, 1) := by decide +kernel
theorem dX1_putSetting_20 : decode cX1_putSetting 20 = .ok (.getfield 25, 3) := by decide +kernel
theorem dX1_putSetting_23 : decode cX1_putSetting 23 = .ok (.iload_n 1, 1) := by decide +kernel
theorem dX1_putSetting_24 : decode cX1_putSetting 24 = .ok (.iload_n 2, 1) := by decide +kernel
theorem dX1_putSetting_25 : decode cX1_putSetting 25 = .ok (.iastore, 1) := by decide +kernel
theorem dX1_putSetting_26 : decode cX1_putSetting 26 = .ok (.aload_n 0, 1) := by decide +kernel
theorem dX1_putSetting_27 : decode cX1_putSetting 27 = .ok (.invokevirtual 72, 3) := by decide +kernel
theorem dX1_putSetting_30 : decode cX1_putSetting 30 = .ok (.iload_n 3, 1) := by decide +kernel
theorem dX1_putSetting_31 : decode cX1_putSetting 31 = .ok (.ireturn, 1) := by decide +kernel
theorem dX1_isTrait_0 : decode cX1_isTrait 0 = .ok (.iload_n 1, 1) := by decide +kernel
theorem dX1_isTrait_1 : decode cX1_isTrait 1 = .ok (.iconst 0, 1) := by decide +kernel
theorem dX1_isTrait_2 : decode cX1_isTrait 2 = .ok (.iconst 3, 1) := by decide +kernel
theorem dX1_isTrait_3 : decode cX1_isTrait 3 = .ok (.invokestatic 60, 3) := by decide +kernel
theorem dX1_isTrait_6 : decode cX1_isTrait 6 = .ok (.ifCond .eq 24, 3) := by decide +kernel
theorem dX1_isTrait_9 : decode cX1_isTrait 9 = .ok (.iload_n 2, 1) := by decide +kernel
theorem dX1_isTrait_10 : decode cX1_isTrait 10 = .ok (.getstatic 81, 3) := by decide +kernel
theorem dX1_isTrait_13 : decode cX1_isTrait 13 = .ok (.iload_n 1, 1) := by decide +kernel
theorem dX1_isTrait_14 : decode cX1_isTrait 14 = .ok (.iaload, 1) := by decide +kernel
theorem dX1_isTrait_15 : decode cX1_isTrait 15 = .ok (.getstatic 84, 3) := by decide +kernel
theorem dX1_isTrait_18 : decode cX1_isTrait 18 = .ok (.iload_n 1, 1) := by decide +kernel
theorem dX1_isTrait_19 : decode cX1_isTrait 19 = .ok (.iaload, 1) := by decide +kernel
theorem dX1_isTrait_20 : decode cX1_isTrait 20 = .ok (.invokestatic 60, 3) := by decide +kernel
theorem dX1_isTrait_23 : decode cX1_isTrait 23 = .ok (.ifCond .eq 7, 3) := by decide +kernel
theorem dX1_isTrait_26 : decode cX1_isTrait 26 = .ok (.iconst 1, 1) := by decide +kernel
theorem dX1_isTrait_27 : decode cX1_isTrait 27 = .ok (.goto 4, 3) := by decide +kernel
theorem dX1_isTrait_30 : decode cX1_isTrait 30 = .ok (.iconst 0, 1) := by decide +kernel
theorem dX1_isTrait_31 : decode cX1_isTrait 31 = .ok (.ireturn, 1) := by decide +kernel
theorem dX1_againstItem_0 : decode cX1_againstItem 0 = .ok (.aload_n 0, 1) := by decide +kernel
theorem dX1_againstItem_1 : decode cX1_againstItem 1 = .ok (.iconst 0, 1) := by decide +kernel
theorem dX1_againstItem_2 : decode cX1_againstItem 2 = .ok (.iload_n 1, 1) := by decide +kernel
theorem dX1_againstItem_3 : decode cX1_againstItem 3 = .ok (.invokevirtual 87, 3) := by decide +kernel
theorem dX1_againstItem_6 : decode cX1_againstItem 6 = .ok (.ifCond .eq 31, 3) := by decide +kernel
theorem dX1_againstItem_9 : decode cX1_againstItem 9 = .ok (.aload_n 0, 1) := by decide +kernel
theorem dX1_againstItem_10 : decode cX1_againstItem 10 = .ok (.iconst 1, 1) := by decide +kernel
theorem dX1_againstItem_11 : decode cX1_againstItem 11 = .ok (.iload_n 2, 1) := by decide +kernel
theorem dX1_againstItem_12 : decode cX1_againstItem 12 = .ok (.invokevirtual 87, 3) := by decide +kernel
theorem dX1_againstItem_15 : decode cX1_againstItem 15 = .ok (.ifCond .eq 22, 3) := by decide +kernel
theorem dX1_againstItem_18 : decode cX1_againstItem 18 = .ok (.aload_n 0, 1) := by decide +kernel
theorem dX1_againstItem_19 : decode cX1_againstItem 19 = .ok (.iconst 2, 1) := by decide +kernel
theorem dX1_againstItem_20 : decode cX1_againstItem 20 = .ok (.iload_n 3, 1) := by decide +kernel
theorem dX1_againstItem_21 : decode cX1_againstItem 21 = .ok (.invokevirtual 87, 3) := by decide +kernel
theorem dX1_againstItem_24 : decode cX1_againstItem 24 = .ok (.ifCond .eq 13, 3) := by decide +kernel
theorem dX1_againstItem_27 : decode cX1_againstItem 27 = .ok (.aload_n 0, 1) := by decide +kernel
theorem dX1_againstItem_28 : decode cX1_againstItem 28 = .ok (.iconst 3, 1) := by decide +kernel
theorem dX1_againstItem_29 : decode cX1_againstItem 29 = .ok (.iload 4, 2) := by decide +kernel
theorem dX1_againstItem_31 : decode cX1_againstItem 31 = .ok (.invokevirtual 87, 3) := by decide +kernel
theorem dX1_againstItem_34 : decode cX1_againstItem 34 = .ok (.ifCond .ne 6, 3) := by decide +kernel
theorem dX1_againstItem_37 : decode cX1_againstItem 37 = .ok (.bipush (-2), 2) := by decide +kernel
theorem dX1_againstItem_39 : decode cX1_againstItem 39 = .ok (.ireturn, 1) := by decide +kernel
theorem dX1_againstItem_40 : decode cX1_againstItem 40 = .ok (.aload_n 0, 1) := by decide +kernel
theorem dX1_againstItem_41 : decode cX1_againstItem 41 = .ok (.getfield 44, 3) := by decide +kernel
theorem dX1_againstItem_44 : decode cX1_againstItem 44 = .ok (.bipush 8, 2) := by decide +kernel
theorem dX1_againstItem_46 : decode cX1_againstItem 46 = .ok (.if_icmp .ge 7, 3) := by decide +kernel
theorem dX1_againstItem_49 : decode cX1_againstItem 49 = .ok (.iconst 0, 1) := by decide +kernel
theorem dX1_againstItem_50 : decode cX1_againstItem 50 = .ok (.goto 5, 3) := by decide +kernel
theorem dX1_againstItem_53 : decode cX1_againstItem 53 = .ok (.bipush (-4), 2) := by decide +kernel
theorem dX1_againstItem_55 : decode cX1_againstItem 55 = .ok (.ireturn, 1) := by decide +kernel
theorem dX1_addItem_0 : decode cX1_addItem 0 = .ok (.aload_n 0, 1) := by decide +kernel
theorem dX1_addItem_1 : decode cX1_addItem 1 = .ok (.getfield 44, 3) := by decide +kernel
theorem dX1_addItem_4 : decode cX1_addItem 4 = .ok (.istore 5, 2) := by decide +kernel
theorem dX1_addItem_6 : decode cX1_addItem 6 = .ok (.iload 5, 2) := by decide +kernel
theorem dX1_addItem_8 : decode cX1_addItem 8 = .ok (.ifCond .lt 10, 3) := by decide +kernel
theorem dX1_addItem_11 : decode cX1_addItem 11 = .ok (.iload 5, 2) := by decide +kernel
theorem dX1_addItem_13 : decode cX1_addItem 13 = .ok (.bipush 8, 2) := by decide +kernel
theorem dX1_addItem_15 : decode cX1_addItem 15 = .ok (.if_icmp .lt 6, 3) := by decide +kernel
theorem dX1_addItem_18 : decode cX1_addItem 18 = .ok (.bipush (-4), 2) := by decide +kernel
theorem dX1_addItem_20 : decode cX1_addItem 20 = .ok (.ireturn, 1) := by decide +kernel
theorem dX1_addItem_21 : decode cX1_addItem 21 = .ok (.aload_n 0, 1) := by decide +kernel
theorem dX1_addItem_22 : decode cX1_addItem 22 = .ok (.getfield 29, 3) := by decide +kernel
theorem dX1_addItem_25 : decode cX1_addItem 25 = .ok (.iconst 4, 1) := by decide +kernel
theorem dX1_addItem_26 : decode cX1_addItem 26 = .ok (.iload 5, 2) := by decide +kernel
theorem dX1_addItem_28 : decode cX1_addItem 28 = .ok (.imul, 1) := by decide +kernel
theorem dX1_addItem_29 : decode cX1_addItem 29 = .ok (.iconst 0, 1) := by decide +kernel
theorem dX1_addItem_30 : decode cX1_addItem 30 = .ok (.iadd, 1) := by decide +kernel
theorem dX1_addItem_31 : decode cX1_addItem 31 = .ok (.iload_n 1, 1) := by decide +kernel
theorem dX1_addItem_32 : decode cX1_addItem 32 = .ok (.iastore, 1) := by decide +kernel
theorem dX1_addItem_33 : decode cX1_addItem 33 = .ok (.aload_n 0, 1) := by decide +kernel
theorem dX1_addItem_34 : decode cX1_addItem 34 = .ok (.getfield 29, 3) := by decide +kernel
theorem dX1_addItem_37 : decode cX1_addItem 37 = .ok (.iconst 4, 1) := by decide +kernel
theorem dX1_addItem_38 : decode cX1_addItem 38 = .ok (.iload 5, 2) := by decide +kernel
theorem dX1_addItem_40 : decode cX1_addItem 40 = .ok (.imul, 1) := by decide +kernel
theorem dX1_addItem_41 : decode cX1_addItem 41 = .ok (.iconst 1, 1) := by decide +kernel
theorem dX1_addItem_42 : decode cX1_addItem 42 = .ok (.iadd, 1) := by decide +kernel
theorem dX1_addItem_43 : decode cX1_addItem 43 = .ok (.iload_n 2, 1) := by decide +kernel
theorem dX1_addItem_44 : decode cX1_addItem 44 = .ok (.iastore, 1) := by decide +kernel
theorem dX1_addItem_45 : decode cX1_addItem 45 = .ok (.aload_n 0, 1) := by decide +kernel
theorem dX1_addItem_46 : decode cX1_addItem 46 = .ok (.getfield 29, 3) := by decide +kernel
theorem dX1_addItem_49 : decode cX1_addItem 49 = .ok (.iconst 4, 1) := by decide +kernel
theorem dX1_addItem_50 : decode cX1_addItem 50 = .ok (.iload 5, 2) := by decide +kernel
theorem dX1_addItem_52 : decode cX1_addItem 52 = .ok (.imul, 1) := by decide +kernel
theorem dX1_addItem_53 : decode cX1_addItem 53 = .ok (.iconst 2, 1) := by decide +kernel
theorem dX1_addItem_54 : decode cX1_addItem 54 = .ok (.iadd, 1) := by decide +kernel
theorem dX1_addItem_55 : decode cX1_addItem 55 = .ok (.iload_n 3, 1) := by decide +kernel
theorem dX1_addItem_56 : decode cX1_addItem 56 = .ok (.iastore, 1) := by decide +kernel
theorem dX1_addItem_57 : decode cX1_addItem 57 = .ok (.aload_n 0, 1) := by decide +kernel
theorem dX1_addItem_58 : decode cX1_addItem 58 = .ok (.getfield 29, 3) := by decide +kernel
theorem dX1_addItem_61 : decode cX1_addItem 61 = .ok (.iconst 4, 1) := by decide +kernel
theorem dX1_addItem_62 : decode cX1_addItem 62 = .ok (.iload 5, 2) := by decide +kernel
theorem dX1_addItem_64 : decode cX1_addItem 64 = .ok (.imul, 1) := by decide +kernel
theorem dX1_addItem_65 : decode cX1_addItem 65 = .ok (.iconst 3, 1) := by decide +kernel
theorem dX1_addItem_66 : decode cX1_addItem 66 = .ok (.iadd, 1) := by decide +kernel
theorem dX1_addItem_67 : decode cX1_addItem 67 = .ok (.iload 4, 2) := by decide +kernel
theorem dX1_addItem_69 : decode cX1_addItem 69 = .ok (.iastore, 1) := by decide +kernel
theorem dX1_addItem_70 : decode cX1_addItem 70 = .ok (.aload_n 0, 1) := by decide +kernel
theorem dX1_addItem_71 : decode cX1_addItem 71 = .ok (.getfield 32, 3) := by decide +kernel
theorem dX1_addItem_74 : decode cX1_addItem 74 = .ok (.iload 5, 2) := by decide +kernel
theorem dX1_addItem_76 : decode cX1_addItem 76 = .ok (.iconst (-1), 1) := by decide +kernel
theorem dX1_addItem_77 : decode cX1_addItem 77 = .ok (.iastore, 1) := by decide +kernel
theorem dX1_addItem_78 : decode cX1_addItem 78 = .ok (.aload_n 0, 1) := by decide +kernel
theorem dX1_addItem_79 : decode cX1_addItem 79 = .ok (.getfield 35, 3) := by decide +kernel
theorem dX1_addItem_82 : decode cX1_addItem 82 = .ok (.iload 5, 2) := by decide +kernel
theorem dX1_addItem_84 : decode cX1_addItem 84 = .ok (.iconst (-1), 1) := by decide +kernel
theorem dX1_addItem_85 : decode cX1_addItem 85 = .ok (.iastore, 1) := by decide +kernel
theorem dX1_addItem_86 : decode cX1_addItem 86 = .ok (.aload_n 0, 1) := by decide +kernel
theorem dX1_addItem_87 : decode cX1_addItem 87 = .ok (.iload 5, 2) := by decide +kernel
theorem dX1_addItem_89 : decode cX1_addItem 89 = .ok (.iconst 1, 1) := by decide +kernel
theorem dX1_addItem_90 : decode cX1_addItem 90 = .ok (.iadd, 1) := by decide +kernel
theorem dX1_addItem_91 : decode cX1_addItem 91 = .ok (.putfield 44, 3) := by decide +kernel
theorem dX1_addItem_94 : decode cX1_addItem 94 = .ok (.aload_n 0, 1) := by decide +kernel
theorem dX1_addItem_95 : decode cX1_addItem 95 = .ok (.invokevirtual 72, 3) := by decide +kernel
theorem dX1_addItem_98 : decode cX1_addItem 98 = .ok (.iload 5, 2) := by decide +kernel
theorem dX1_addItem_100 : decode cX1_addItem 100 = .ok (.ireturn, 1) := by decide +kernel
theorem dX1_removeItem_0 : decode cX1_removeItem 0 = .ok (.aload_n 0, 1) := by decide +kernel
theorem dX1_removeItem_1 : decode cX1_removeItem 1 = .ok (.iload_n 1, 1) := by decide +kernel
theorem dX1_removeItem_2 : decode cX1_removeItem 2 = .ok (.invokevirtual 64, 3) := by decide +kernel
theorem dX1_removeItem_5 : decode cX1_removeItem 5 = .ok (.ifCond .ne 6, 3) := by decide +kernel
theorem dX1_removeItem_8 : decode cX1_removeItem 8 = .ok (.bipush (-2), 2) := by decide +kernel
theorem dX1_removeItem_10 : decode cX1_removeItem 10 = .ok (.ireturn, 1) := by decide +kernel
theorem dX1_removeItem_11 : decode cX1_removeItem 11 = .ok (.aload_n 0, 1) := by decide +kernel
theorem dX1_removeItem_12 : decode cX1_removeItem 12 = .ok (.getfield 44, 3) := by decide +kernel
theorem dX1_removeItem_15 : decode cX1_removeItem 15 = .ok (.iconst 1, 1) := by decide +kernel
theorem dX1_removeItem_16 : decode cX1_removeItem 16 = .ok (.isub, 1) := by decide +kernel
theorem dX1_removeItem_17 : decode cX1_removeItem 17 = .ok (.iload_n 1, 1) := by decide +kernel
theorem dX1_removeItem_18 : decode cX1_removeItem 18 = .ok (.isub, 1) := by decide +kernel
theorem dX1_removeItem_19 : decode cX1_removeItem 19 = .ok (.istore_n 2, 1) := by decide +kernel
theorem dX1_removeItem_20 : decode cX1_removeItem 20 = .ok (.aload_n 0, 1) := by decide +kernel
theorem dX1_removeItem_21 : decode cX1_removeItem 21 = .ok (.getfield 29, 3) := by decide +kernel
theorem dX1_removeItem_24 : decode cX1_removeItem 24 = .ok (.iconst 4, 1) := by decide +kernel
theorem dX1_removeItem_25 : decode cX1_removeItem 25 = .ok (.iload_n 1, 1) := by decide +kernel
theorem dX1_removeItem_26 : decode cX1_removeItem 26 = .ok (.iconst 1, 1) := by decide +kernel
theorem dX1_removeItem_27 : decode cX1_removeItem 27 = .ok (.iadd, 1) := by decide +kernel
theorem dX1_removeItem_28 : decode cX1_removeItem 28 = .ok (.imul, 1) := by decide +kernel
theorem dX1_removeItem_29 : decode cX1_removeItem 29 = .ok (.aload_n 0, 1) := by decide +kernel
theorem dX1_removeItem_30 : decode cX1_removeItem 30 = .ok (.getfield 29, 3) := by decide +kernel
theorem dX1_removeItem_33 : decode cX1_removeItem 33 = .ok (.iconst 4, 1) := by decide +kernel
theorem dX1_removeItem_34 : decode cX1_removeItem 34 = .ok (.iload_n 1, 1) := by decide +kernel
theorem dX1_removeItem_35 : decode cX1_removeItem 35 = .ok (.imul, 1) := by decide +kernel
theorem dX1_removeItem_36 : decode cX1_removeItem 36 = .ok (.iconst 4, 1) := by decide +kernel
theorem dX1_removeItem_37 : decode cX1_removeItem 37 = .ok (.iload_n 2, 1) := by decide +kernel
theorem dX1_removeItem_38 : decode cX1_removeItem 38 = .ok (.imul, 1) := by decide +kernel
theorem dX1_removeItem_39 : decode cX1_removeItem 39 = .ok (.invokestatic 54, 3) := by decide +kernel
theorem dX1_removeItem_42 : decode cX1_removeItem 42 = .ok (.aload_n 0, 1) := by decide +kernel
theorem dX1_removeItem_43 : decode cX1_removeItem 43 = .ok (.getfield 32, 3) := by decide +kernel
theorem dX1_removeItem_46 : decode cX1_removeItem 46 = .ok (.iload_n 1, 1) := by decide +kernel
theorem dX1_removeItem_47 : decode cX1_removeItem 47 = .ok (.iconst 1, 1) := by decide +kernel
theorem dX1_removeItem_48 : decode cX1_removeItem 48 = .ok (.iadd, 1) := by decide +kernel
theorem dX1_removeItem_49 : decode cX1_removeItem 49 = .ok (.aload_n 0, 1) := by decide +kernel
theorem dX1_removeItem_50 : decode cX1_removeItem 50 = .ok (.getfield 32, 3) := by decide +kernel
theorem dX1_removeItem_53 : decode cX1_removeItem 53 = .ok (.iload_n 1, 1) := by decide +kernel
theorem dX1_removeItem_54 : decode cX1_removeItem 54 = .ok (.iload_n 2, 1) := by decide +kernel
theorem dX1_removeItem_55 : decode cX1_removeItem 55 = .ok (.invokestatic 54, 3) := by decide +kernel
theorem dX1_removeItem_58 : decode cX1_removeItem 58 = .ok (.aload_n 0, 1) := by decide +kernel
theorem dX1_removeItem_59 : decode cX1_removeItem 59 = .ok (.getfield 35, 3) := by decide +kernel
theorem dX1_removeItem_62 : decode cX1_removeItem 62 = .ok (.iload_n 1, 1) := by decide +kernel
theorem dX1_removeItem_63 : decode cX1_removeItem 63 = .ok (.iconst 1, 1) := by decide +kernel
theorem dX1_removeItem_64 : decode cX1_removeItem 64 = .ok (.iadd, 1) := by decide +kernel
theorem dX1_removeItem_65 : decode cX1_removeItem 65 = .ok (.aload_n 0, 1) := by decide +kernel
theorem dX1_removeItem_66 : decode cX1_removeItem 66 = .ok (.getfield 35, 3) := by decide +kernel
theorem dX1_removeItem_69 : decode cX1_removeItem 69 = .ok (.iload_n 1, 1) := by decide +kernel
theorem dX1_removeItem_70 : decode cX1_removeItem 70 = .ok (.iload_n 2, 1) := by decide +kernel
theorem dX1_removeItem_71 : decode cX1_removeItem 71 = .ok (.invokestatic 54, 3) := by decide +kernel
theorem dX1_removeItem_74 : decode cX1_removeItem 74 = .ok (.aload_n 0, 1) := by decide +kernel
theorem dX1_removeItem_75 : decode cX1_removeItem 75 = .ok (.dup, 1) := by decide +kernel
theorem dX1_removeItem_76 : decode cX1_removeItem 76 = .ok (.getfield 44, 3) := by decide +kernel
theorem dX1_removeItem_79 : decode cX1_removeItem 79 = .ok (.iconst 1, 1) := by decide +kernel
theorem dX1_removeItem_80 : decode cX1_removeItem 80 = .ok (.isub, 1) := by decide +kernel
theorem dX1_removeItem_81 : decode cX1_removeItem 81 = .ok (.putfield 44, 3) := by decide +kernel
theorem dX1_removeItem_84 : decode cX1_removeItem 84 = .ok (.aload_n 0, 1) := by decide +kernel
theorem dX1_removeItem_85 : decode cX1_removeItem 85 = .ok (.invokevirtual 72, 3) := by decide +kernel
theorem dX1_removeItem_88 : decode cX1_removeItem 88 = .ok (.aload_n 0, 1) := by decide +kernel
theorem dX1_removeItem_89 : decode cX1_removeItem 89 = .ok (.getfield 44, 3) := by decide +kernel
theorem dX1_removeItem_92 : decode cX1_removeItem 92 = .ok (.ireturn, 1) := by decide +kernel
theorem dX1_againstTrait_0 : decode cX1_againstTrait 0 = .ok (.aload_n 0, 1) := by decide +kernel
theorem dX1_againstTrait_1 : decode cX1_againstTrait 1 = .ok (.iload_n 1, 1) := by decide +kernel
theorem dX1_againstTrait_2 : decode cX1_againstTrait 2 = .ok (.invokevirtual 64, 3) := by decide +kernel
theorem dX1_againstTrait_5 : decode cX1_againstTrait 5 = .ok (.ifCond .eq 16, 3) := by decide +kernel
theorem dX1_againstTrait_8 : decode cX1_againstTrait 8 = .ok (.aload_n 0, 1) := by decide +kernel
theorem dX1_againstTrait_9 : decode cX1_againstTrait 9 = .ok (.iload_n 2, 1) := by decide +kernel
theorem dX1_againstTrait_10 : decode cX1_againstTrait 10 = .ok (.iload_n 3, 1) := by decide +kernel
theorem dX1_againstTrait_11 : decode cX1_againstTrait 11 = .ok (.invokevirtual 87, 3) := by decide +kernel
theorem dX1_againstTrait_14 : decode cX1_againstTrait 14 = .ok (.ifCond .eq 7, 3) := by decide +kernel
theorem dX1_againstTrait_17 : decode cX1_againstTrait 17 = .ok (.iconst 1, 1) := by decide +kernel
theorem dX1_againstTrait_18 : decode cX1_againstTrait 18 = .ok (.goto 4, 3) := by decide +kernel
theorem dX1_againstTrait_21 : decode cX1_againstTrait 21 = .ok (.iconst 0, 1) := by decide +kernel
theorem dX1_againstTrait_22 : decode cX1_againstTrait 22 = .ok (.invokestatic 68, 3) := by decide +kernel
theorem dX1_againstTrait_25 : decode cX1_againstTrait 25 = .ok (.ireturn, 1) := by decide +kernel
theorem dX1_putTrait_0 : decode cX1_putTrait 0 = .ok (.aload_n 0, 1) := by decide +kernel
theorem dX1_putTrait_1 : decode cX1_putTrait 1 = .ok (.iload_n 1, 1) := by decide +kernel
theorem dX1_putTrait_2 : decode cX1_putTrait 2 = .ok (.invokevirtual 64, 3) := by decide +kernel
theorem dX1_putTrait_5 : decode cX1_putTrait 5 = .ok (.ifCond .eq 12, 3) := by decide +kernel
theorem dX1_putTrait_8 : decode cX1_putTrait 8 = .ok (.iload_n 2, 1) := by decide +kernel
theorem dX1_putTrait_9 : decode cX1_putTrait 9 = .ok (.iconst 0, 1) := by decide +kernel
theorem dX1_putTrait_10 : decode cX1_putTrait 10 = .ok (.iconst 3, 1) := by decide +kernel
theorem dX1_putTrait_11 : decode cX1_putTrait 11 = .ok (.invokestatic 60, 3) := by decide +kernel
theorem dX1_putTrait_14 : decode cX1_putTrait 14 = .ok (.ifCond .ne 6, 3) := by decide +kernel
theorem dX1_putTrait_17 : decode cX1_putTrait 17 = .ok (.bipush (-2), 2) := by decide +kernel
theorem dX1_putTrait_19 : decode cX1_putTrait 19 = .ok (.ireturn, 1) := by decide +kernel
theorem dX1_putTrait_20 : decode cX1_putTrait 20 = .ok (.aload_n 0, 1) := by decide +kernel
theorem dX1_putTrait_21 : decode cX1_putTrait 21 = .ok (.getfield 29, 3) := by decide +kernel
theorem dX1_putTrait_24 : decode cX1_putTrait 24 = .ok (.iconst 4, 1) := by decide +kernel
theorem dX1_putTrait_25 : decode cX1_putTrait 25 = .ok (.iload_n 1, 1) := by decide +kernel
theorem dX1_putTrait_26 : decode cX1_putTrait 26 = .ok (.imul, 1) := by decide +kernel
theorem dX1_putTrait_27 : decode cX1_putTrait 27 = .ok (.iload_n 2, 1) := by decide +kernel
theorem dX1_putTrait_28 : decode cX1_putTrait 28 = .ok (.iadd, 1) := by decide +kernel
theorem dX1_putTrait_29 : decode cX1_putTrait 29 = .ok (.iaload, 1) := by decide +kernel
theorem dX1_putTrait_30 : decode cX1_putTrait 30 = .ok (.istore 4, 2) := by decide +kernel
theorem dX1_putTrait_32 : decode cX1_putTrait 32 = .ok (.aload_n 0, 1) := by decide +kernel
theorem dX1_putTrait_33 : decode cX1_putTrait 33 = .ok (.getfield 29, 3) := by decide +kernel
theorem dX1_putTrait_36 : decode cX1_putTrait 36 = .ok (.iconst 4, 1) := by decide +kernel
theorem dX1_putTrait_37 : decode cX1_putTrait 37 = .ok (.iload_n 1, 1) := by decide +kernel
theorem dX1_putTrait_38 : decode cX1_putTrait 38 = .ok (.imul, 1) := by decide +kernel
theorem dX1_putTrait_39 : decode cX1_putTrait 39 = .ok (.iload_n 2, 1) := by decide +kernel
theorem dX1_putTrait_40 : decode cX1_putTrait 40 = .ok (.iadd, 1) := by decide +kernel
theorem dX1_putTrait_41 : decode cX1_putTrait 41 = .ok (.iload_n 3, 1) := by decide +kernel
theorem dX1_putTrait_42 : decode cX1_putTrait 42 = .ok (.iastore, 1) := by decide +kernel
theorem dX1_putTrait_43 : decode cX1_putTrait 43 = .ok (.aload_n 0, 1) := by decide +kernel
theorem dX1_putTrait_44 : decode cX1_putTrait 44 = .ok (.invokevirtual 72, 3) := by decide +kernel
theorem dX1_putTrait_47 : decode cX1_putTrait 47 = .ok (.iload 4, 2) := by decide +kernel
theorem dX1_putTrait_49 : decode cX1_putTrait 49 = .ok (.ireturn, 1) := by decide +kernel
theorem dX1_sideOf_0 : decode cX1_sideOf 0 = .ok (.aload_n 0, 1) := by decide +kernel
theorem dX1_sideOf_1 : decode cX1_sideOf 1 = .ok (.getfield 25, 3) := by decide +kernel
theorem dX1_sideOf_4 : decode cX1_sideOf 4 = .ok (.iconst 2, 1) := by decide +kernel
theorem dX1_sideOf_5 : decode cX1_sideOf 5 = .ok (.iaload, 1) := by decide +kernel
theorem dX1_sideOf_6 : decode cX1_sideOf 6 = .ok (.i2f, 1) := by decide +kernel
theorem dX1_sideOf_7 : decode cX1_sideOf 7 = .ok (.ldc 91, 2) := by decide +kernel
theorem dX1_sideOf_9 : decode cX1_sideOf 9 = .ok (.fdiv, 1) := by decide +kernel
theorem dX1_sideOf_10 : decode cX1_sideOf 10 = .ok (.fstore_n 2, 1) := by decide +kernel
theorem dX1_sideOf_11 : decode cX1_sideOf 11 = .ok (.aload_n 0, 1) := by decide +kernel
theorem dX1_sideOf_12 : decode cX1_sideOf 12 = .ok (.getfield 25, 3) := by decide +kernel
theorem dX1_sideOf_15 : decode cX1_sideOf 15 = .ok (.iconst 3, 1) := by decide +kernel
theorem dX1_sideOf_16 : decode cX1_sideOf 16 = .ok (.iaload, 1) := by decide +kernel
theorem dX1_sideOf_17 : decode cX1_sideOf 17 = .ok (.i2f, 1) := by decide +kernel
theorem dX1_sideOf_18 : decode cX1_sideOf 18 = .ok (.ldc 91, 2) := by decide +kernel
theorem dX1_sideOf_20 : decode cX1_sideOf 20 = .ok (.fdiv, 1) := by decide +kernel
theorem dX1_sideOf_21 : decode cX1_sideOf 21 = .ok (.fstore_n 3, 1) := by decide +kernel
theorem dX1_sideOf_22 : decode cX1_sideOf 22 = .ok (.iconst 2, 1) := by decide +kernel
theorem dX1_sideOf_23 : decode cX1_sideOf 23 = .ok (.istore 4, 2) := by decide +kernel
theorem dX1_sideOf_25 : decode cX1_sideOf 25 = .ok (.iload 4, 2) := by decide +kernel
theorem dX1_sideOf_27 : decode cX1_sideOf 27 = .ok (.iload_n 1, 1) := by decide +kernel
theorem dX1_sideOf_28 : decode cX1_sideOf 28 = .ok (.if_icmp .gt 19, 3) := by decide +kernel
theorem dX1_sideOf_31 : decode cX1_sideOf 31 = .ok (.fload_n 3, 1) := by decide +kernel
theorem dX1_sideOf_32 : decode cX1_sideOf 32 = .ok (.fconst 0, 1) := by decide +kernel
theorem dX1_sideOf_33 : decode cX1_sideOf 33 = .ok (.fcmp .l, 1) := by decide +kernel
theorem dX1_sideOf_34 : decode cX1_sideOf 34 = .ok (.ifCond .le 13, 3) := by decide +kernel
theorem dX1_sideOf_37 : decode cX1_sideOf 37 = .ok (.fload_n 2, 1) := by decide +kernel
theorem dX1_sideOf_38 : decode cX1_sideOf 38 = .ok (.fload_n 3, 1) := by decide +kernel
theorem dX1_sideOf_39 : decode cX1_sideOf 39 = .ok (.fdiv, 1) := by decide +kernel
theorem dX1_sideOf_40 : decode cX1_sideOf 40 = .ok (.fstore_n 2, 1) := by decide +kernel
theorem dX1_sideOf_41 : decode cX1_sideOf 41 = .ok (.iinc 4 1, 3) := by decide +kernel
theorem dX1_sideOf_44 : decode cX1_sideOf 44 = .ok (.goto (-19), 3) := by decide +kernel
theorem dX1_sideOf_47 : decode cX1_sideOf 47 = .ok (.fload_n 2, 1) := by decide +kernel
theorem dX1_sideOf_48 : decode cX1_sideOf 48 = .ok (.freturn, 1) := by decide +kernel
theorem dX1_cutToCells_0 : decode cX1_cutToCells 0 = .ok (.iconst 1, 1) := by decide +kernel
theorem dX1_cutToCells_1 : decode cX1_cutToCells 1 = .ok (.fload_n 0, 1) := by decide +kernel
theorem dX1_cutToCells_2 : decode cX1_cutToCells 2 = .ok (.ldc 92, 2) := by decide +kernel
theorem dX1_cutToCells_4 : decode cX1_cutToCells 4 = .ok (.fadd, 1) := by decide +kernel
theorem dX1_cutToCells_5 : decode cX1_cutToCells 5 = .ok (.f2i, 1) := by decide +kernel
theorem dX1_cutToCells_6 : decode cX1_cutToCells 6 = .ok (.invokestatic 93, 3) := by decide +kernel
theorem dX1_cutToCells_9 : decode cX1_cutToCells 9 = .ok (.ireturn, 1) := by decide +kernel
theorem dX1_measure_0 : decode cX1_measure 0 = .ok (.iconst 0, 1) := by decide +kernel
theorem dX1_measure_1 : decode cX1_measure 1 = .ok (.istore_n 1, 1) := by decide +kernel
theorem dX1_measure_2 : decode cX1_measure 2 = .ok (.iload_n 1, 1) := by decide +kernel
theorem dX1_measure_3 : decode cX1_measure 3 = .ok (.aload_n 0, 1) := by decide +kernel
theorem dX1_measure_4 : decode cX1_measure 4 = .ok (.getfield 44, 3) := by decide +kernel
theorem dX1_measure_7 : decode cX1_measure 7 = .ok (.if_icmp .ge 86, 3) := by decide +kernel
theorem dX1_measure_10 : decode cX1_measure 10 = .ok (.iload_n 1, 1) := by decide +kernel
theorem dX1_measure_11 : decode cX1_measure 11 = .ok (.bipush 8, 2) := by decide +kernel
theorem dX1_measure_13 : decode cX1_measure 13 = .ok (.if_icmp .ge 80, 3) := by decide +kernel
theorem dX1_measure_16 : decode cX1_measure 16 = .ok (.aload_n 0, 1) := by decide +kernel
theorem dX1_measure_17 : decode cX1_measure 17 = .ok (.aload_n 0, 1) := by decide +kernel
theorem dX1_measure_18 : decode cX1_measure 18 = .ok (.iload_n 1, 1) := by decide +kernel
theorem dX1_measure_19 : decode cX1_measure 19 = .ok (.iconst 1, 1) := by decide +kernel
theorem dX1_measure_20 : decode cX1_measure 20 = .ok (.invokevirtual 99, 3) := by decide +kernel
theorem dX1_measure_23 : decode cX1_measure 23 = .ok (.invokevirtual 102, 3) := by decide +kernel
theorem dX1_measure_26 : decode cX1_measure 26 = .ok (.fstore_n 2, 1) := by decide +kernel
theorem dX1_measure_27 : decode cX1_measure 27 = .ok (.aload_n 0, 1) := by decide +kernel
theorem dX1_measure_28 : decode cX1_measure 28 = .ok (.iload_n 1, 1) := by decide +kernel
theorem dX1_measure_29 : decode cX1_measure 29 = .ok (.iconst 3, 1) := by decide +kernel
theorem dX1_measure_30 : decode cX1_measure 30 = .ok (.invokevirtual 99, 3) := by decide +kernel
theorem dX1_measure_33 : decode cX1_measure 33 = .ok (.istore_n 3, 1) := by decide +kernel
theorem dX1_measure_34 : decode cX1_measure 34 = .ok (.fload_n 2, 1) := by decide +kernel
theorem dX1_measure_35 : decode cX1_measure 35 = .ok (.aload_n 0, 1) := by decide +kernel
theorem dX1_measure_36 : decode cX1_measure 36 = .ok (.iload_n 1, 1) := by decide +kernel
theorem dX1_measure_37 : decode cX1_measure 37 = .ok (.iconst 2, 1) := by decide +kernel
theorem dX1_measure_38 : decode cX1_measure 38 = .ok (.invokevirtual 99, 3) := by decide +kernel
theorem dX1_measure_41 : decode cX1_measure 41 = .ok (.i2f, 1) := by decide +kernel
theorem dX1_measure_42 : decode cX1_measure 42 = .ok (.fmul, 1) := by decide +kernel
theorem dX1_measure_43 : decode cX1_measure 43 = .ok (.fstore 4, 2) := by decide +kernel
theorem dX1_measure_45 : decode cX1_measure 45 = .ok (.aload_n 0, 1) := by decide +kernel
theorem dX1_measure_46 : decode cX1_measure 46 = .ok (.iload_n 1, 1) := by decide +kernel
theorem dX1_measure_47 : decode cX1_measure 47 = .ok (.iconst 0, 1) := by decide +kernel
theorem dX1_measure_48 : decode cX1_measure 48 = .ok (.invokevirtual 99, 3) := by decide +kernel
theorem dX1_measure_51 : decode cX1_measure 51 = .ok (.iconst 1, 1) := by decide +kernel
theorem dX1_measure_52 : decode cX1_measure 52 = .ok (.if_icmp .ne 14, 3) := by decide +kernel
theorem dX1_measure_55 : decode cX1_measure 55 = .ok (.iload_n 3, 1) := by decide +kernel
theorem dX1_measure_56 : decode cX1_measure 56 = .ok (.ifCond .le 10, 3) := by decide +kernel
theorem dX1_measure_59 : decode cX1_measure 59 = .ok (.fload 4, 2) := by decide +kernel
theorem dX1_measure_61 : decode cX1_measure 61 = .ok (.iload_n 3, 1) := by decide +kernel
theorem dX1_measure_62 : decode cX1_measure 62 = .ok (.i2f, 1) := by decide +kernel
theorem dX1_measure_63 : decode cX1_measure 63 = .ok (.fdiv, 1) := by decide +kernel
theorem dX1_measure_64 : decode cX1_measure 64 = .ok (.fstore 4, 2) := by decide +kernel
theorem dX1_measure_66 : decode cX1_measure 66 = .ok (.aload_n 0, 1) := by decide +kernel
theorem dX1_measure_67 : decode cX1_measure 67 = .ok (.getfield 41, 3) := by decide +kernel
theorem dX1_measure_70 : decode cX1_measure 70 = .ok (.iload_n 1, 1) := by decide +kernel
theorem dX1_measure_71 : decode cX1_measure 71 = .ok (.fload_n 2, 1) := by decide +kernel
theorem dX1_measure_72 : decode cX1_measure 72 = .ok (.invokestatic 106, 3) := by decide +kernel
theorem dX1_measure_75 : decode cX1_measure 75 = .ok (.iastore, 1) := by decide +kernel
theorem dX1_measure_76 : decode cX1_measure 76 = .ok (.aload_n 0, 1) := by decide +kernel
theorem dX1_measure_77 : decode cX1_measure 77 = .ok (.getfield 38, 3) := by decide +kernel
theorem dX1_measure_80 : decode cX1_measure 80 = .ok (.iload_n 1, 1) := by decide +kernel
theorem dX1_measure_81 : decode cX1_measure 81 = .ok (.fload 4, 2) := by decide +kernel
theorem dX1_measure_83 : decode cX1_measure 83 = .ok (.invokestatic 106, 3) := by decide +kernel
theorem dX1_measure_86 : decode cX1_measure 86 = .ok (.iastore, 1) := by decide +kernel
theorem dX1_measure_87 : decode cX1_measure 87 = .ok (.iinc 1 1, 3) := by decide +kernel
theorem dX1_measure_90 : decode cX1_measure 90 = .ok (.goto (-88), 3) := by decide +kernel
theorem dX1_measure_93 : decode cX1_measure 93 = .ok (.aload_n 0, 1) := by decide +kernel
theorem dX1_measure_94 : decode cX1_measure 94 = .ok (.iconst 0, 1) := by decide +kernel
theorem dX1_measure_95 : decode cX1_measure 95 = .ok (.putfield 47, 3) := by decide +kernel
theorem dX1_measure_98 : decode cX1_measure 98 = .ok (.iconst 0, 1) := by decide +kernel
theorem dX1_measure_99 : decode cX1_measure 99 = .ok (.istore_n 1, 1) := by decide +kernel
theorem dX1_measure_100 : decode cX1_measure 100 = .ok (.iload_n 1, 1) := by decide +kernel
theorem dX1_measure_101 : decode cX1_measure 101 = .ok (.aload_n 0, 1) := by decide +kernel
theorem dX1_measure_102 : decode cX1_measure 102 = .ok (.getfield 25, 3) := by decide +kernel
theorem dX1_measure_105 : decode cX1_measure 105 = .ok (.iconst 4, 1) := by decide +kernel
theorem dX1_measure_106 : decode cX1_measure 106 = .ok (.iaload, 1) := by decide +kernel
theorem dX1_measure_107 : decode cX1_measure 107 = .ok (.if_icmp .ge 25, 3) := by decide +kernel
theorem dX1_measure_110 : decode cX1_measure 110 = .ok (.aload_n 0, 1) := by decide +kernel
theorem dX1_measure_111 : decode cX1_measure 111 = .ok (.dup, 1) := by decide +kernel
theorem dX1_measure_112 : decode cX1_measure 112 = .ok (.getfield 47, 3) := by decide +kernel
theorem dX1_measure_115 : decode cX1_measure 115 = .ok (.iconst 1, 1) := by decide +kernel
theorem dX1_measure_116 : decode cX1_measure 116 = .ok (.aload_n 0, 1) := by decide +kernel
theorem dX1_measure_117 : decode cX1_measure 117 = .ok (.iload_n 1, 1) := by decide +kernel
theorem dX1_measure_118 : decode cX1_measure 118 = .ok (.invokevirtual 110, 3) := by decide +kernel
theorem dX1_measure_121 : decode cX1_measure 121 = .ok (.ishl, 1) := by decide +kernel
theorem dX1_measure_122 : decode cX1_measure 122 = .ok (.ior, 1) := by decide +kernel
theorem dX1_measure_123 : decode cX1_measure 123 = .ok (.putfield 47, 3) := by decide +kernel
theorem dX1_measure_126 : decode cX1_measure 126 = .ok (.iinc 1 1, 3) := by decide +kernel
theorem dX1_measure_129 : decode cX1_measure 129 = .ok (.goto (-29), 3) := by decide +kernel
theorem dX1_measure_132 : decode cX1_measure 132 = .ok (.return_, 1) := by decide +kernel
theorem dX1_lineOf_0 : decode cX1_lineOf 0 = .ok (.aload_n 0, 1) := by decide +kernel
theorem dX1_lineOf_1 : decode cX1_lineOf 1 = .ok (.getfield 25, 3) := by decide +kernel
theorem dX1_lineOf_4 : decode cX1_lineOf 4 = .ok (.iconst 4, 1) := by decide +kernel
theorem dX1_lineOf_5 : decode cX1_lineOf 5 = .ok (.iaload, 1) := by decide +kernel
theorem dX1_lineOf_6 : decode cX1_lineOf 6 = .ok (.istore_n 2, 1) := by decide +kernel
theorem dX1_lineOf_7 : decode cX1_lineOf 7 = .ok (.iload_n 1, 1) := by decide +kernel
theorem dX1_lineOf_8 : decode cX1_lineOf 8 = .ok (.ifCond .lt 8, 3) := by decide +kernel
theorem dX1_lineOf_11 : decode cX1_lineOf 11 = .ok (.iload_n 1, 1) := by decide +kernel
theorem dX1_lineOf_12 : decode cX1_lineOf 12 = .ok (.iload_n 2, 1) := by decide +kernel
theorem dX1_lineOf_13 : decode cX1_lineOf 13 = .ok (.if_icmp .lt 5, 3) := by decide +kernel
theorem dX1_lineOf_16 : decode cX1_lineOf 16 = .ok (.iconst (-1), 1) := by decide +kernel
theorem dX1_lineOf_17 : decode cX1_lineOf 17 = .ok (.ireturn, 1) := by decide +kernel
theorem dX1_lineOf_18 : decode cX1_lineOf 18 = .ok (.iload_n 1, 1) := by decide +kernel
theorem dX1_lineOf_19 : decode cX1_lineOf 19 = .ok (.aload_n 0, 1) := by decide +kernel
theorem dX1_lineOf_20 : decode cX1_lineOf 20 = .ok (.getfield 9, 3) := by decide +kernel
theorem dX1_lineOf_23 : decode cX1_lineOf 23 = .ok (.iconst 2, 1) := by decide +kernel
theorem dX1_lineOf_24 : decode cX1_lineOf 24 = .ok (.aload_n 0, 1) := by decide +kernel
theorem dX1_lineOf_25 : decode cX1_lineOf 25 = .ok (.getfield 25, 3) := by decide +kernel
theorem dX1_lineOf_28 : decode cX1_lineOf 28 = .ok (.iconst 0, 1) := by decide +kernel
theorem dX1_lineOf_29 : decode cX1_lineOf 29 = .ok (.iaload, 1) := by decide +kernel
theorem dX1_lineOf_30 : decode cX1_lineOf 30 = .ok (.imul, 1) := by decide +kernel
theorem dX1_lineOf_31 : decode cX1_lineOf 31 = .ok (.isub, 1) := by decide +kernel
theorem dX1_lineOf_32 : decode cX1_lineOf 32 = .ok (.imul, 1) := by decide +kernel
theorem dX1_lineOf_33 : decode cX1_lineOf 33 = .ok (.i2f, 1) := by decide +kernel
theorem dX1_lineOf_34 : decode cX1_lineOf 34 = .ok (.fstore_n 3, 1) := by decide +kernel
theorem dX1_lineOf_35 : decode cX1_lineOf 35 = .ok (.aload_n 0, 1) := by decide +kernel
theorem dX1_lineOf_36 : decode cX1_lineOf 36 = .ok (.getfield 25, 3) := by decide +kernel
theorem dX1_lineOf_39 : decode cX1_lineOf 39 = .ok (.iconst 0, 1) := by decide +kernel
theorem dX1_lineOf_40 : decode cX1_lineOf 40 = .ok (.iaload, 1) := by decide +kernel
theorem dX1_lineOf_41 : decode cX1_lineOf 41 = .ok (.fload_n 3, 1) := by decide +kernel
theorem dX1_lineOf_42 : decode cX1_lineOf 42 = .ok (.iload_n 2, 1) := by decide +kernel
theorem dX1_lineOf_43 : decode cX1_lineOf 43 = .ok (.i2f, 1) := by decide +kernel
theorem dX1_lineOf_44 : decode cX1_lineOf 44 = .ok (.fdiv, 1) := by decide +kernel
theorem dX1_lineOf_45 : decode cX1_lineOf 45 = .ok (.f2i, 1) := by decide +kernel
theorem dX1_lineOf_46 : decode cX1_lineOf 46 = .ok (.iadd, 1) := by decide +kernel
theorem dX1_lineOf_47 : decode cX1_lineOf 47 = .ok (.ireturn, 1) := by decide +kernel
theorem dX1_wide_0 : decode cX1_wide 0 = .ok (.aload_n 0, 1) := by decide +kernel
theorem dX1_wide_1 : decode cX1_wide 1 = .ok (.iload_n 1, 1) := by decide +kernel
theorem dX1_wide_2 : decode cX1_wide 2 = .ok (.invokevirtual 64, 3) := by decide +kernel
theorem dX1_wide_5 : decode cX1_wide 5 = .ok (.ifCond .eq 12, 3) := by decide +kernel
theorem dX1_wide_8 : decode cX1_wide 8 = .ok (.aload_n 0, 1) := by decide +kernel
theorem dX1_wide_9 : decode cX1_wide 9 = .ok (.getfield 38, 3) := by decide +kernel
theorem dX1_wide_12 : decode cX1_wide 12 = .ok (.iload_n 1, 1) := by decide +kernel
theorem dX1_wide_13 : decode cX1_wide 13 = .ok (.iaload, 1) := by decide +kernel
theorem dX1_wide_14 : decode cX1_wide 14 = .ok (.goto 4, 3) := by decide +kernel
theorem dX1_wide_17 : decode cX1_wide 17 = .ok (.iconst (-1), 1) := by decide +kernel
theorem dX1_wide_18 : decode cX1_wide 18 = .ok (.ireturn, 1) := by decide +kernel
theorem dX1_high_0 : decode cX1_high 0 = .ok (.aload_n 0, 1) := by decide +kernel
theorem dX1_high_1 : decode cX1_high 1 = .ok (.iload_n 1, 1) := by decide +kernel
theorem dX1_high_2 : decode cX1_high 2 = .ok (.invokevirtual 64, 3) := by decide +kernel
theorem dX1_high_5 : decode cX1_high 5 = .ok (.ifCond .eq 12, 3) := by decide +kernel
theorem dX1_high_8 : decode cX1_high 8 = .ok (.aload_n 0, 1) := by decide +kernel
theorem dX1_high_9 : decode cX1_high 9 = .ok (.getfield 41, 3) := by decide +kernel
theorem dX1_high_12 : decode cX1_high 12 = .ok (.iload_n 1, 1) := by decide +kernel
theorem dX1_high_13 : decode cX1_high 13 = .ok (.iaload, 1) := by decide +kernel
theorem dX1_high_14 : decode cX1_high 14 = .ok (.goto 4, 3) := by decide +kernel
theorem dX1_high_17 : decode cX1_high 17 = .ok (.iconst (-1), 1) := by decide +kernel
theorem dX1_high_18 : decode cX1_high 18 = .ok (.ireturn, 1) := by decide +kernel
theorem dX1_weight_0 : decode cX1_weight 0 = .ok (.aload_n 0, 1) := by decide +kernel
theorem dX1_weight_1 : decode cX1_weight 1 = .ok (.iload_n 1, 1) := by decide +kernel
theorem dX1_weight_2 : decode cX1_weight 2 = .ok (.invokevirtual 64, 3) := by decide +kernel
theorem dX1_weight_5 : decode cX1_weight 5 = .ok (.ifCond .eq 29, 3) := by decide +kernel
theorem dX1_weight_8 : decode cX1_weight 8 = .ok (.aload_n 0, 1) := by decide +kernel
theorem dX1_weight_9 : decode cX1_weight 9 = .ok (.getfield 38, 3) := by decide +kernel
theorem dX1_weight_12 : decode cX1_weight 12 = .ok (.iload_n 1, 1) := by decide +kernel
theorem dX1_weight_13 : decode cX1_weight 13 = .ok (.iaload, 1) := by decide +kernel
theorem dX1_weight_14 : decode cX1_weight 14 = .ok (.aload_n 0, 1) := by decide +kernel
theorem dX1_weight_15 : decode cX1_weight 15 = .ok (.getfield 41, 3) := by decide +kernel
theorem dX1_weight_18 : decode cX1_weight 18 = .ok (.iload_n 1, 1) := by decide +kernel
theorem dX1_weight_19 : decode cX1_weight 19 = .ok (.iaload, 1) := by decide +kernel
theorem dX1_weight_20 : decode cX1_weight 20 = .ok (.imul, 1) := by decide +kernel
theorem dX1_weight_21 : decode cX1_weight 21 = .ok (.bipush 7, 2) := by decide +kernel
theorem dX1_weight_23 : decode cX1_weight 23 = .ok (.aload_n 0, 1) := by decide +kernel
theorem dX1_weight_24 : decode cX1_weight 24 = .ok (.iload_n 1, 1) := by decide +kernel
theorem dX1_weight_25 : decode cX1_weight 25 = .ok (.iconst 1, 1) := by decide +kernel
theorem dX1_weight_26 : decode cX1_weight 26 = .ok (.invokevirtual 99, 3) := by decide +kernel
theorem dX1_weight_29 : decode cX1_weight 29 = .ok (.isub, 1) := by decide +kernel
theorem dX1_weight_30 : decode cX1_weight 30 = .ok (.imul, 1) := by decide +kernel
theorem dX1_weight_31 : decode cX1_weight 31 = .ok (.goto 4, 3) := by decide +kernel
theorem dX1_weight_34 : decode cX1_weight 34 = .ok (.iconst 0, 1) := by decide +kernel
theorem dX1_weight_35 : decode cX1_weight 35 = .ok (.ireturn, 1) := by decide +kernel
theorem dX1_xOf_0 : decode cX1_xOf 0 = .ok (.aload_n 0, 1) := by decide +kernel
theorem dX1_xOf_1 : decode cX1_xOf 1 = .ok (.iload_n 1, 1) := by decide +kernel
theorem dX1_xOf_2 : decode cX1_xOf 2 = .ok (.invokevirtual 64, 3) := by decide +kernel
theorem dX1_xOf_5 : decode cX1_xOf 5 = .ok (.ifCond .eq 12, 3) := by decide +kernel
theorem dX1_xOf_8 : decode cX1_xOf 8 = .ok (.aload_n 0, 1) := by decide +kernel
theorem dX1_xOf_9 : decode cX1_xOf 9 = .ok (.getfield 32, 3) := by decide +kernel
theorem dX1_xOf_12 : decode cX1_xOf 12 = .ok (.iload_n 1, 1) := by decide +kernel
theorem dX1_xOf_13 : decode cX1_xOf 13 = .ok (.iaload, 1) := by decide +kernel
theorem dX1_xOf_14 : decode cX1_xOf 14 = .ok (.goto 4, 3) := by decide +kernel
theorem dX1_xOf_17 : decode cX1_xOf 17 = .ok (.iconst (-1), 1) := by decide +kernel
theorem dX1_xOf_18 : decode cX1_xOf 18 = .ok (.ireturn, 1) := by decide +kernel
theorem dX1_yOf_0 : decode cX1_yOf 0 = .ok (.aload_n 0, 1) := by decide +kernel
theorem dX1_yOf_1 : decode cX1_yOf 1 = .ok (.iload_n 1, 1) := by decide +kernel
theorem dX1_yOf_2 : decode cX1_yOf 2 = .ok (.invokevirtual 64, 3) := by decide +kernel
theorem dX1_yOf_5 : decode cX1_yOf 5 = .ok (.ifCond .eq 12, 3) := by decide +kernel
theorem dX1_yOf_8 : decode cX1_yOf 8 = .ok (.aload_n 0, 1) := by decide +kernel
theorem dX1_yOf_9 : decode cX1_yOf 9 = .ok (.getfield 35, 3) := by decide +kernel
theorem dX1_yOf_12 : decode cX1_yOf 12 = .ok (.iload_n 1, 1) := by decide +kernel
theorem dX1_yOf_13 : decode cX1_yOf 13 = .ok (.iaload, 1) := by decide +kernel
theorem dX1_yOf_14 : decode cX1_yOf 14 = .ok (.goto 4, 3) := by decide +kernel
theorem dX1_yOf_17 : decode cX1_yOf 17 = .ok (.iconst (-1), 1) := by decide +kernel
theorem dX1_yOf_18 : decode cX1_yOf 18 = .ok (.ireturn, 1) := by decide +kernel
theorem dX1_lies_0 : decode cX1_lies 0 = .ok (.aload_n 0, 1) := by decide +kernel
theorem dX1_lies_1 : decode cX1_lies 1 = .ok (.iload_n 1, 1) := by decide +kernel
theorem dX1_lies_2 : decode cX1_lies 2 = .ok (.invokevirtual 64, 3) := by decide +kernel
theorem dX1_lies_5 : decode cX1_lies 5 = .ok (.ifCond .eq 17, 3) := by decide +kernel
theorem dX1_lies_8 : decode cX1_lies 8 = .ok (.aload_n 0, 1) := by decide +kernel
theorem dX1_lies_9 : decode cX1_lies 9 = .ok (.getfield 32, 3) := by decide +kernel
theorem dX1_lies_12 : decode cX1_lies 12 = .ok (.iload_n 1, 1) := by decide +kernel
theorem dX1_lies_13 : decode cX1_lies 13 = .ok (.iaload, 1) := by decide +kernel
theorem dX1_lies_14 : decode cX1_lies 14 = .ok (.iconst (-1), 1) := by decide +kernel
theorem dX1_lies_15 : decode cX1_lies 15 = .ok (.if_icmp .eq 7, 3) := by decide +kernel
theorem dX1_lies_18 : decode cX1_lies 18 = .ok (.iconst 1, 1) := by decide +kernel
theorem dX1_lies_19 : decode cX1_lies 19 = .ok (.goto 4, 3) := by decide +kernel
theorem dX1_lies_22 : decode cX1_lies 22 = .ok (.iconst 0, 1) := by decide +kernel
theorem dX1_lies_23 : decode cX1_lies 23 = .ok (.ireturn, 1) := by decide +kernel
theorem dX1_lying_0 : decode cX1_lying 0 = .ok (.aload_n 0, 1) := by decide +kernel
theorem dX1_lying_1 : decode cX1_lying 1 = .ok (.invokevirtual 114, 3) := by decide +kernel
theorem dX1_lying_4 : decode cX1_lying 4 = .ok (.invokestatic 118, 3) := by decide +kernel
theorem dX1_lying_7 : decode cX1_lying 7 = .ok (.ireturn, 1) := by decide +kernel
theorem dX1_lyingBits_0 : decode cX1_lyingBits 0 = .ok (.iconst 0, 1) := by decide +kernel
theorem dX1_lyingBits_1 : decode cX1_lyingBits 1 = .ok (.istore_n 1, 1) := by decide +kernel
theorem dX1_lyingBits_2 : decode cX1_lyingBits 2 = .ok (.iconst 0, 1) := by decide +kernel
theorem dX1_lyingBits_3 : decode cX1_lyingBits 3 = .ok (.istore_n 2, 1) := by decide +kernel
theorem dX1_lyingBits_4 : decode cX1_lyingBits 4 = .ok (.iload_n 2, 1) := by decide +kernel
theorem dX1_lyingBits_5 : decode cX1_lyingBits 5 = .ok (.aload_n 0, 1) := by decide +kernel
theorem dX1_lyingBits_6 : decode cX1_lyingBits 6 = .ok (.getfield 44, 3) := by decide +kernel
theorem dX1_lyingBits_9 : decode cX1_lyingBits 9 = .ok (.if_icmp .ge 23, 3) := by decide +kernel
theorem dX1_lyingBits_12 : decode cX1_lyingBits 12 = .ok (.aload_n 0, 1) := by decide +kernel
theorem dX1_lyingBits_13 : decode cX1_lyingBits 13 = .ok (.iload_n 2, 1) := by decide +kernel
theorem dX1_lyingBits_14 : decode cX1_lyingBits 14 = .ok (.invokevirtual 123, 3) := by decide +kernel
theorem dX1_lyingBits_17 : decode cX1_lyingBits 17 = .ok (.ifCond .eq 9, 3) := by decide +kernel
theorem dX1_lyingBits_20 : decode cX1_lyingBits 20 = .ok (.iload_n 1, 1) := by decide +kernel
theorem dX1_lyingBits_21 : decode cX1_lyingBits 21 = .ok (.iconst 1, 1) := by decide +kernel
theorem dX1_lyingBits_22 : decode cX1_lyingBits 22 = .ok (.iload_n 2, 1) := by decide +kernel
theorem dX1_lyingBits_23 : decode cX1_lyingBits 23 = .ok (.ishl, 1) := by decide +kernel
theorem dX1_lyingBits_24 : decode cX1_lyingBits 24 = .ok (.ior, 1) := by decide +kernel
theorem dX1_lyingBits_25 : decode cX1_lyingBits 25 = .ok (.istore_n 1, 1) := by decide +kernel
theorem dX1_lyingBits_26 : decode cX1_lyingBits 26 = .ok (.iinc 2 1, 3) := by decide +kernel
theorem dX1_lyingBits_29 : decode cX1_lyingBits 29 = .ok (.goto (-25), 3) := by decide +kernel
theorem dX1_lyingBits_32 : decode cX1_lyingBits 32 = .ok (.iload_n 1, 1) := by decide +kernel
theorem dX1_lyingBits_33 : decode cX1_lyingBits 33 = .ok (.ireturn, 1) := by decide +kernel
theorem dX1_put_0 : decode cX1_put 0 = .ok (.aload_n 0, 1) := by decide +kernel
theorem dX1_put_1 : decode cX1_put 1 = .ok (.iload_n 1, 1) := by decide +kernel
theorem dX1_put_2 : decode cX1_put 2 = .ok (.invokevirtual 64, 3) := by decide +kernel
theorem dX1_put_5 : decode cX1_put 5 = .ok (.ifCond .eq 17, 3) := by decide +kernel
theorem dX1_put_8 : decode cX1_put 8 = .ok (.aload_n 0, 1) := by decide +kernel
theorem dX1_put_9 : decode cX1_put 9 = .ok (.getfield 32, 3) := by decide +kernel
theorem dX1_put_12 : decode cX1_put 12 = .ok (.iload_n 1, 1) := by decide +kernel
theorem dX1_put_13 : decode cX1_put 13 = .ok (.iload_n 2, 1) := by decide +kernel
theorem dX1_put_14 : decode cX1_put 14 = .ok (.iastore, 1) := by decide +kernel
theorem dX1_put_15 : decode cX1_put 15 = .ok (.aload_n 0, 1) := by decide +kernel
theorem dX1_put_16 : decode cX1_put 16 = .ok (.getfield 35, 3) := by decide +kernel
theorem dX1_put_19 : decode cX1_put 19 = .ok (.iload_n 1, 1) := by decide +kernel
theorem dX1_put_20 : decode cX1_put 20 = .ok (.iload_n 3, 1) := by decide +kernel
theorem dX1_put_21 : decode cX1_put 21 = .ok (.iastore, 1) := by decide +kernel
theorem dX1_put_22 : decode cX1_put 22 = .ok (.return_, 1) := by decide +kernel
theorem dX1_hasRoomAlone_0 : decode cX1_hasRoomAlone 0 = .ok (.aload_n 0, 1) := by decide +kernel
theorem dX1_hasRoomAlone_1 : decode cX1_hasRoomAlone 1 = .ok (.iload_n 1, 1) := by decide +kernel
theorem dX1_hasRoomAlone_2 : decode cX1_hasRoomAlone 2 = .ok (.invokevirtual 64, 3) := by decide +kernel
theorem dX1_hasRoomAlone_5 : decode cX1_hasRoomAlone 5 = .ok (.ifCond .ne 5, 3) := by decide +kernel
theorem dX1_hasRoomAlone_8 : decode cX1_hasRoomAlone 8 = .ok (.iconst 0, 1) := by decide +kernel
theorem dX1_hasRoomAlone_9 : decode cX1_hasRoomAlone 9 = .ok (.ireturn, 1) := by decide +kernel
theorem dX1_hasRoomAlone_10 : decode cX1_hasRoomAlone 10 = .ok (.aload_n 0, 1) := by decide +kernel
theorem dX1_hasRoomAlone_11 : decode cX1_hasRoomAlone 11 = .ok (.getfield 25, 3) := by decide +kernel
theorem dX1_hasRoomAlone_14 : decode cX1_hasRoomAlone 14 = .ok (.iconst 0, 1) := by decide +kernel
theorem dX1_hasRoomAlone_15 : decode cX1_hasRoomAlone 15 = .ok (.iaload, 1) := by decide +kernel
theorem dX1_hasRoomAlone_16 : decode cX1_hasRoomAlone 16 = .ok (.istore 4, 2) := by decide +kernel
theorem dX1_hasRoomAlone_18 : decode cX1_hasRoomAlone 18 = .ok (.iload_n 2, 1) := by decide +kernel
theorem dX1_hasRoomAlone_19 : decode cX1_hasRoomAlone 19 = .ok (.iload 4, 2) := by decide +kernel
theorem dX1_hasRoomAlone_21 : decode cX1_hasRoomAlone 21 = .ok (.if_icmp .lt 45, 3) := by decide +kernel
theorem dX1_hasRoomAlone_24 : decode cX1_hasRoomAlone 24 = .ok (.iload_n 3, 1) := by decide +kernel
theorem dX1_hasRoomAlone_25 : decode cX1_hasRoomAlone 25 = .ok (.iload 4, 2) := by decide +kernel
theorem dX1_hasRoomAlone_27 : decode cX1_hasRoomAlone 27 = .ok (.if_icmp .lt 39, 3) := by decide +kernel
theorem dX1_hasRoomAlone_30 : decode cX1_hasRoomAlone 30 = .ok (.iload_n 2, 1) := by decide +kernel
theorem dX1_hasRoomAlone_31 : decode cX1_hasRoomAlone 31 = .ok (.aload_n 0, 1) := by decide +kernel
theorem dX1_hasRoomAlone_32 : decode cX1_hasRoomAlone 32 = .ok (.getfield 38, 3) := by decide +kernel
theorem dX1_hasRoomAlone_35 : decode cX1_hasRoomAlone 35 = .ok (.iload_n 1, 1) := by decide +kernel
theorem dX1_hasRoomAlone_36 : decode cX1_hasRoomAlone 36 = .ok (.iaload, 1) := by decide +kernel
theorem dX1_hasRoomAlone_37 : decode cX1_hasRoomAlone 37 = .ok (.iadd, 1) := by decide +kernel
theorem dX1_hasRoomAlone_38 : decode cX1_hasRoomAlone 38 = .ok (.aload_n 0, 1) := by decide +kernel
theorem dX1_hasRoomAlone_39 : decode cX1_hasRoomAlone 39 = .ok (.getfield 9, 3) := by decide +kernel
theorem dX1_hasRoomAlone_42 : decode cX1_hasRoomAlone 42 = .ok (.iload 4, 2) := by decide +kernel
theorem dX1_hasRoomAlone_44 : decode cX1_hasRoomAlone 44 = .ok (.isub, 1) := by decide +kernel
theorem dX1_hasRoomAlone_45 : decode cX1_hasRoomAlone 45 = .ok (.if_icmp .gt 21, 3) := by decide +kernel
theorem dX1_hasRoomAlone_48 : decode cX1_hasRoomAlone 48 = .ok (.iload_n 3, 1) := by decide +kernel
theorem dX1_hasRoomAlone_49 : decode cX1_hasRoomAlone 49 = .ok (.aload_n 0, 1) := by decide +kernel
theorem dX1_hasRoomAlone_50 : decode cX1_hasRoomAlone 50 = .ok (.getfield 41, 3) := by decide +kernel
theorem dX1_hasRoomAlone_53 : decode cX1_hasRoomAlone 53 = .ok (.iload_n 1, 1) := by decide +kernel
theorem dX1_hasRoomAlone_54 : decode cX1_hasRoomAlone 54 = .ok (.iaload, 1) := by decide +kernel
theorem dX1_hasRoomAlone_55 : decode cX1_hasRoomAlone 55 = .ok (.iadd, 1) := by decide +kernel
theorem dX1_hasRoomAlone_56 : decode cX1_hasRoomAlone 56 = .ok (.aload_n 0, 1) := by decide +kernel
theorem dX1_hasRoomAlone_57 : decode cX1_hasRoomAlone 57 = .ok (.getfield 15, 3) := by decide +kernel
theorem dX1_hasRoomAlone_60 : decode cX1_hasRoomAlone 60 = .ok (.iload 4, 2) := by decide +kernel
theorem dX1_hasRoomAlone_62 : decode cX1_hasRoomAlone 62 = .ok (.isub, 1) := by decide +kernel
theorem dX1_hasRoomAlone_63 : decode cX1_hasRoomAlone 63 = .ok (.if_icmp .le 5, 3) := by decide +kernel
theorem dX1_hasRoomAlone_66 : decode cX1_hasRoomAlone 66 = .ok (.iconst 0, 1) := by decide +kernel
theorem dX1_hasRoomAlone_67 : decode cX1_hasRoomAlone 67 = .ok (.ireturn, 1) := by decide +kernel
theorem dX1_hasRoomAlone_68 : decode cX1_hasRoomAlone 68 = .ok (.aload_n 0, 1) := by decide +kernel
theorem dX1_hasRoomAlone_69 : decode cX1_hasRoomAlone 69 = .ok (.getfield 25, 3) := by decide +kernel
theorem dX1_hasRoomAlone_72 : decode cX1_hasRoomAlone 72 = .ok (.iconst 4, 1) := by decide +kernel
theorem dX1_hasRoomAlone_73 : decode cX1_hasRoomAlone 73 = .ok (.iaload, 1) := by decide +kernel
theorem dX1_hasRoomAlone_74 : decode cX1_hasRoomAlone 74 = .ok (.ifCond .eq 15, 3) := by decide +kernel
theorem dX1_hasRoomAlone_77 : decode cX1_hasRoomAlone 77 = .ok (.aload_n 0, 1) := by decide +kernel
theorem dX1_hasRoomAlone_78 : decode cX1_hasRoomAlone 78 = .ok (.getfield 47, 3) := by decide +kernel
theorem dX1_hasRoomAlone_81 : decode cX1_hasRoomAlone 81 = .ok (.iload_n 2, 1) := by decide +kernel
theorem dX1_hasRoomAlone_82 : decode cX1_hasRoomAlone 82 = .ok (.ishr, 1) := by decide +kernel
theorem dX1_hasRoomAlone_83 : decode cX1_hasRoomAlone 83 = .ok (.iconst 1, 1) := by decide +kernel
theorem dX1_hasRoomAlone_84 : decode cX1_hasRoomAlone 84 = .ok (.iand, 1) := by decide +kernel
theorem dX1_hasRoomAlone_85 : decode cX1_hasRoomAlone 85 = .ok (.iconst 1, 1) := by decide +kernel
theorem dX1_hasRoomAlone_86 : decode cX1_hasRoomAlone 86 = .ok (.if_icmp .ne 7, 3) := by decide +kernel
theorem dX1_hasRoomAlone_89 : decode cX1_hasRoomAlone 89 = .ok (.iconst 1, 1) := by decide +kernel
theorem dX1_hasRoomAlone_90 : decode cX1_hasRoomAlone 90 = .ok (.goto 4, 3) := by decide +kernel
theorem dX1_hasRoomAlone_93 : decode cX1_hasRoomAlone 93 = .ok (.iconst 0, 1) := by decide +kernel
theorem dX1_hasRoomAlone_94 : decode cX1_hasRoomAlone 94 = .ok (.ireturn, 1) := by decide +kernel
theorem dX1_isApart_0 : decode cX1_isApart 0 = .ok (.aload_n 0, 1) := by decide +kernel
theorem dX1_isApart_1 : decode cX1_isApart 1 = .ok (.iload_n 1, 1) := by decide +kernel
theorem dX1_isApart_2 : decode cX1_isApart 2 = .ok (.invokevirtual 64, 3) := by decide +kernel
theorem dX1_isApart_5 : decode cX1_isApart 5 = .ok (.ifCond .eq 12, 3) := by decide +kernel
theorem dX1_isApart_8 : decode cX1_isApart 8 = .ok (.aload_n 0, 1) := by decide +kernel
theorem dX1_isApart_9 : decode cX1_isApart 9 = .ok (.iload 4, 2) := by decide +kernel
theorem dX1_isApart_11 : decode cX1_isApart 11 = .ok (.invokevirtual 64, 3) := by decide +kernel
theorem dX1_isApart_14 : decode cX1_isApart 14 = .ok (.ifCond .ne 5, 3) := by decide +kernel
theorem dX1_isApart_17 : decode cX1_isApart 17 = .ok (.iconst 1, 1) := by decide +kernel
theorem dX1_isApart_18 : decode cX1_isApart 18 = .ok (.ireturn, 1) := by decide +kernel
theorem dX1_isApart_19 : decode cX1_isApart 19 = .ok (.aload_n 0, 1) := by decide +kernel
theorem dX1_isApart_20 : decode cX1_isApart 20 = .ok (.getfield 25, 3) := by decide +kernel
theorem dX1_isApart_23 : decode cX1_isApart 23 = .ok (.iconst 1, 1) := by decide +kernel
theorem dX1_isApart_24 : decode cX1_isApart 24 = .ok (.iaload, 1) := by decide +kernel
theorem dX1_isApart_25 : decode cX1_isApart 25 = .ok (.istore 5, 2) := by decide +kernel
theorem dX1_isApart_27 : decode cX1_isApart 27 = .ok (.iload_n 2, 1) := by decide +kernel
theorem dX1_isApart_28 : decode cX1_isApart 28 = .ok (.aload_n 0, 1) := by decide +kernel
theorem dX1_isApart_29 : decode cX1_isApart 29 = .ok (.getfield 38, 3) := by decide +kernel
theorem dX1_isApart_32 : decode cX1_isApart 32 = .ok (.iload_n 1, 1) := by decide +kernel
theorem dX1_isApart_33 : decode cX1_isApart 33 = .ok (.iaload, 1) := by decide +kernel
theorem dX1_isApart_34 : decode cX1_isApart 34 = .ok (.iadd, 1) := by decide +kernel
theorem dX1_isApart_35 : decode cX1_isApart 35 = .ok (.iload 5, 2) := by decide +kernel
theorem dX1_isApart_37 : decode cX1_isApart 37 = .ok (.iadd, 1) := by decide +kernel
theorem dX1_isApart_38 : decode cX1_isApart 38 = .ok (.aload_n 0, 1) := by decide +kernel
theorem dX1_isApart_39 : decode cX1_isApart 39 = .ok (.getfield 32, 3) := by decide +kernel
theorem dX1_isApart_42 : decode cX1_isApart 42 = .ok (.iload 4, 2) := by decide +kernel
theorem dX1_isApart_44 : decode cX1_isApart 44 = .ok (.iaload, 1) := by decide +kernel
theorem dX1_isApart_45 : decode cX1_isApart 45 = .ok (.if_icmp .le 68, 3) := by decide +kernel
theorem dX1_isApart_48 : decode cX1_isApart 48 = .ok (.aload_n 0, 1) := by decide +kernel
theorem dX1_isApart_49 : decode cX1_isApart 49 = .ok (.getfield 32, 3) := by decide +kernel
theorem dX1_isApart_52 : decode cX1_isApart 52 = .ok (.iload 4, 2) := by decide +kernel
theorem dX1_isApart_54 : decode cX1_isApart 54 = .ok (.iaload, 1) := by decide +kernel
theorem dX1_isApart_55 : decode cX1_isApart 55 = .ok (.aload_n 0, 1) := by decide +kernel
theorem dX1_isApart_56 : decode cX1_isApart 56 = .ok (.getfield 38, 3) := by decide +kernel
theorem dX1_isApart_59 : decode cX1_isApart 59 = .ok (.iload 4, 2) := by decide +kernel
theorem dX1_isApart_61 : decode cX1_isApart 61 = .ok (.iaload, 1) := by decide +kernel
theorem dX1_isApart_62 : decode cX1_isApart 62 = .ok (.iadd, 1) := by decide +kernel
theorem dX1_isApart_63 : decode cX1_isApart 63 = .ok (.iload 5, 2) := by decide +kernel
theorem dX1_isApart_65 : decode cX1_isApart 65 = .ok (.iadd, 1) := by decide +kernel
theorem dX1_isApart_66 : decode cX1_isApart 66 = .ok (.iload_n 2, 1) := by decide +kernel
theorem dX1_isApart_67 : decode cX1_isApart 67 = .ok (.if_icmp .le 46, 3) := by decide +kernel
theorem dX1_isApart_70 : decode cX1_isApart 70 = .ok (.iload_n 3, 1) := by decide +kernel
theorem dX1_isApart_71 : decode cX1_isApart 71 = .ok (.aload_n 0, 1) := by decide +kernel
theorem dX1_isApart_72 : decode cX1_isApart 72 = .ok (.getfield 41, 3) := by decide +kernel
theorem dX1_isApart_75 : decode cX1_isApart 75 = .ok (.iload_n 1, 1) := by decide +kernel
theorem dX1_isApart_76 : decode cX1_isApart 76 = .ok (.iaload, 1) := by decide +kernel
theorem dX1_isApart_77 : decode cX1_isApart 77 = .ok (.iadd, 1) := by decide +kernel
theorem dX1_isApart_78 : decode cX1_isApart 78 = .ok (.iload 5, 2) := by decide +kernel
theorem dX1_isApart_80 : decode cX1_isApart 80 = .ok (.iadd, 1) := by decide +kernel
theorem dX1_isApart_81 : decode cX1_isApart 81 = .ok (.aload_n 0, 1) := by decide +kernel
theorem dX1_isApart_82 : decode cX1_isApart 82 = .ok (.getfield 35, 3) := by decide +kernel
theorem dX1_isApart_85 : decode cX1_isApart 85 = .ok (.iload 4, 2) := by decide +kernel
theorem dX1_isApart_87 : decode cX1_isApart 87 = .ok (.iaload, 1) := by decide +kernel
theorem dX1_isApart_88 : decode cX1_isApart 88 = .ok (.if_icmp .le 25, 3) := by decide +kernel
theorem dX1_isApart_91 : decode cX1_isApart 91 = .ok (.aload_n 0, 1) := by decide +kernel
theorem dX1_isApart_92 : decode cX1_isApart 92 = .ok (.getfield 35, 3) := by decide +kernel
theorem dX1_isApart_95 : decode cX1_isApart 95 = .ok (.iload 4, 2) := by decide +kernel
theorem dX1_isApart_97 : decode cX1_isApart 97 = .ok (.iaload, 1) := by decide +kernel
theorem dX1_isApart_98 : decode cX1_isApart 98 = .ok (.aload_n 0, 1) := by decide +kernel
theorem dX1_isApart_99 : decode cX1_isApart 99 = .ok (.getfield 41, 3) := by decide +kernel
theorem dX1_isApart_102 : decode cX1_isApart 102 = .ok (.iload 4, 2) := by decide +kernel
theorem dX1_isApart_104 : decode cX1_isApart 104 = .ok (.iaload, 1) := by decide +kernel
theorem dX1_isApart_105 : decode cX1_isApart 105 = .ok (.iadd, 1) := by decide +kernel
theorem dX1_isApart_106 : decode cX1_isApart 106 = .ok (.iload 5, 2) := by decide +kernel
theorem dX1_isApart_108 : decode cX1_isApart 108 = .ok (.iadd, 1) := by decide +kernel
theorem dX1_isApart_109 : decode cX1_isApart 109 = .ok (.iload_n 3, 1) := by decide +kernel
theorem dX1_isApart_110 : decode cX1_isApart 110 = .ok (.if_icmp .gt 7, 3) := by decide +kernel
theorem dX1_isApart_113 : decode cX1_isApart 113 = .ok (.iconst 1, 1) := by decide +kernel
theorem dX1_isApart_114 : decode cX1_isApart 114 = .ok (.goto 4, 3) := by decide +kernel
theorem dX1_isApart_117 : decode cX1_isApart 117 = .ok (.iconst 0, 1) := by decide +kernel
theorem dX1_isApart_118 : decode cX1_isApart 118 = .ok (.ireturn, 1) := by decide +kernel
theorem dX1_hasRoom_0 : decode cX1_hasRoom 0 = .ok (.aload_n 0, 1) := by decide +kernel
theorem dX1_hasRoom_1 : decode cX1_hasRoom 1 = .ok (.iload_n 1, 1) := by decide +kernel
theorem dX1_hasRoom_2 : decode cX1_hasRoom 2 = .ok (.iload_n 2, 1) := by decide +kernel
theorem dX1_hasRoom_3 : decode cX1_hasRoom 3 = .ok (.iload_n 3, 1) := by decide +kernel
theorem dX1_hasRoom_4 : decode cX1_hasRoom 4 = .ok (.invokevirtual 126, 3) := by decide +kernel
theorem dX1_hasRoom_7 : decode cX1_hasRoom 7 = .ok (.ifCond .ne 5, 3) := by decide +kernel
theorem dX1_hasRoom_10 : decode cX1_hasRoom 10 = .ok (.iconst 0, 1) := by decide +kernel
theorem dX1_hasRoom_11 : decode cX1_hasRoom 11 = .ok (.ireturn, 1) := by decide +kernel
theorem dX1_hasRoom_12 : decode cX1_hasRoom 12 = .ok (.iconst 0, 1) := by decide +kernel
theorem dX1_hasRoom_13 : decode cX1_hasRoom 13 = .ok (.istore 4, 2) := by decide +kernel
theorem dX1_hasRoom_15 : decode cX1_hasRoom 15 = .ok (.iload 4, 2) := by decide +kernel
theorem dX1_hasRoom_17 : decode cX1_hasRoom 17 = .ok (.aload_n 0, 1) := by decide +kernel
theorem dX1_hasRoom_18 : decode cX1_hasRoom 18 = .ok (.getfield 44, 3) := by decide +kernel
theorem dX1_hasRoom_21 : decode cX1_hasRoom 21 = .ok (.if_icmp .ge 47, 3) := by decide +kernel
theorem dX1_hasRoom_24 : decode cX1_hasRoom 24 = .ok (.iload 4, 2) := by decide +kernel
theorem dX1_hasRoom_26 : decode cX1_hasRoom 26 = .ok (.bipush 8, 2) := by decide +kernel
theorem dX1_hasRoom_28 : decode cX1_hasRoom 28 = .ok (.if_icmp .ge 40, 3) := by decide +kernel
theorem dX1_hasRoom_31 : decode cX1_hasRoom 31 = .ok (.iload 4, 2) := by decide +kernel
theorem dX1_hasRoom_33 : decode cX1_hasRoom 33 = .ok (.iload_n 1, 1) := by decide +kernel
theorem dX1_hasRoom_34 : decode cX1_hasRoom 34 = .ok (.if_icmp .eq 28, 3) := by decide +kernel
theorem dX1_hasRoom_37 : decode cX1_hasRoom 37 = .ok (.aload_n 0, 1) := by decide +kernel
theorem dX1_hasRoom_38 : decode cX1_hasRoom 38 = .ok (.getfield 32, 3) := by decide +kernel
theorem dX1_hasRoom_41 : decode cX1_hasRoom 41 = .ok (.iload 4, 2) := by decide +kernel
theorem dX1_hasRoom_43 : decode cX1_hasRoom 43 = .ok (.iaload, 1) := by decide +kernel
theorem dX1_hasRoom_44 : decode cX1_hasRoom 44 = .ok (.iconst (-1), 1) := by decide +kernel
theorem dX1_hasRoom_45 : decode cX1_hasRoom 45 = .ok (.if_icmp .eq 17, 3) := by decide +kernel
theorem dX1_hasRoom_48 : decode cX1_hasRoom 48 = .ok (.aload_n 0, 1) := by decide +kernel
theorem dX1_hasRoom_49 : decode cX1_hasRoom 49 = .ok (.iload_n 1, 1) := by decide +kernel
theorem dX1_hasRoom_50 : decode cX1_hasRoom 50 = .ok (.iload_n 2, 1) := by decide +kernel
theorem dX1_hasRoom_51 : decode cX1_hasRoom 51 = .ok (.iload_n 3, 1) := by decide +kernel
theorem dX1_hasRoom_52 : decode cX1_hasRoom 52 = .ok (.iload 4, 2) := by decide +kernel
theorem dX1_hasRoom_54 : decode cX1_hasRoom 54 = .ok (.invokevirtual 129, 3) := by decide +kernel
theorem dX1_hasRoom_57 : decode cX1_hasRoom 57 = .ok (.ifCond .ne 5, 3) := by decide +kernel
theorem dX1_hasRoom_60 : decode cX1_hasRoom 60 = .ok (.iconst 0, 1) := by decide +kernel
theorem dX1_hasRoom_61 : decode cX1_hasRoom 61 = .ok (.ireturn, 1) := by decide +kernel
theorem dX1_hasRoom_62 : decode cX1_hasRoom 62 = .ok (.iinc 4 1, 3) := by decide +kernel
theorem dX1_hasRoom_65 : decode cX1_hasRoom 65 = .ok (.goto (-50), 3) := by decide +kernel
theorem dX1_hasRoom_68 : decode cX1_hasRoom 68 = .ok (.iconst 1, 1) := by decide +kernel
theorem dX1_hasRoom_69 : decode cX1_hasRoom 69 = .ok (.ireturn, 1) := by decide +kernel
theorem dX1_liesWell_0 : decode cX1_liesWell 0 = .ok (.aload_n 0, 1) := by decide +kernel
theorem dX1_liesWell_1 : decode cX1_liesWell 1 = .ok (.iload_n 1, 1) := by decide +kernel
theorem dX1_liesWell_2 : decode cX1_liesWell 2 = .ok (.invokevirtual 123, 3) := by decide +kernel
theorem dX1_liesWell_5 : decode cX1_liesWell 5 = .ok (.ifCond .eq 25, 3) := by decide +kernel
theorem dX1_liesWell_8 : decode cX1_liesWell 8 = .ok (.aload_n 0, 1) := by decide +kernel
theorem dX1_liesWell_9 : decode cX1_liesWell 9 = .ok (.iload_n 1, 1) := by decide +kernel
theorem dX1_liesWell_10 : decode cX1_liesWell 10 = .ok (.aload_n 0, 1) := by decide +kernel
theorem dX1_liesWell_11 : decode cX1_liesWell 11 = .ok (.iload_n 1, 1) := by decide +kernel
theorem dX1_liesWell_12 : decode cX1_liesWell 12 = .ok (.invokevirtual 133, 3) := by decide +kernel
theorem dX1_liesWell_15 : decode cX1_liesWell 15 = .ok (.aload_n 0, 1) := by decide +kernel
theorem dX1_liesWell_16 : decode cX1_liesWell 16 = .ok (.iload_n 1, 1) := by decide +kernel
theorem dX1_liesWell_17 : decode cX1_liesWell 17 = .ok (.invokevirtual 136, 3) := by decide +kernel
theorem dX1_liesWell_20 : decode cX1_liesWell 20 = .ok (.invokevirtual 139, 3) := by decide +kernel
theorem dX1_liesWell_23 : decode cX1_liesWell 23 = .ok (.ifCond .eq 7, 3) := by decide +kernel
theorem dX1_liesWell_26 : decode cX1_liesWell 26 = .ok (.iconst 1, 1) := by decide +kernel
theorem dX1_liesWell_27 : decode cX1_liesWell 27 = .ok (.goto 4, 3) := by decide +kernel
theorem dX1_liesWell_30 : decode cX1_liesWell 30 = .ok (.iconst 0, 1) := by decide +kernel
theorem dX1_liesWell_31 : decode cX1_liesWell 31 = .ok (.ireturn, 1) := by decide +kernel
theorem dX1_againstLaying_0 : decode cX1_againstLaying 0 = .ok (.aload_n 0, 1) := by decide +kernel
theorem dX1_againstLaying_1 : decode cX1_againstLaying 1 = .ok (.iload_n 1, 1) := by decide +kernel
theorem dX1_againstLaying_2 : decode cX1_againstLaying 2 = .ok (.invokevirtual 64, 3) := by decide +kernel
theorem dX1_againstLaying_5 : decode cX1_againstLaying 5 = .ok (.ifCond .eq 11, 3) := by decide +kernel
theorem dX1_againstLaying_8 : decode cX1_againstLaying 8 = .ok (.iload_n 2, 1) := by decide +kernel
theorem dX1_againstLaying_9 : decode cX1_againstLaying 9 = .ok (.iload_n 3, 1) := by decide +kernel
theorem dX1_againstLaying_10 : decode cX1_againstLaying 10 = .ok (.invokestatic 142, 3) := by decide +kernel
theorem dX1_againstLaying_13 : decode cX1_againstLaying 13 = .ok (.ifCond .ne 6, 3) := by decide +kernel
theorem dX1_againstLaying_16 : decode cX1_againstLaying 16 = .ok (.bipush (-2), 2) := by decide +kernel
theorem dX1_againstLaying_18 : decode cX1_againstLaying 18 = .ok (.ireturn, 1) := by decide +kernel
theorem dX1_againstLaying_19 : decode cX1_againstLaying 19 = .ok (.aload_n 0, 1) := by decide +kernel
theorem dX1_againstLaying_20 : decode cX1_againstLaying 20 = .ok (.iload_n 1, 1) := by decide +kernel
theorem dX1_againstLaying_21 : decode cX1_againstLaying 21 = .ok (.iload_n 2, 1) := by decide +kernel
theorem dX1_againstLaying_22 : decode cX1_againstLaying 22 = .ok (.iload_n 3, 1) := by decide +kernel
theorem dX1_againstLaying_23 : decode cX1_againstLaying 23 = .ok (.invokevirtual 139, 3) := by decide +kernel
theorem dX1_againstLaying_26 : decode cX1_againstLaying 26 = .ok (.ifCond .eq 7, 3) := by decide +kernel
theorem dX1_againstLaying_29 : decode cX1_againstLaying 29 = .ok (.iconst 0, 1) := by decide +kernel
theorem dX1_againstLaying_30 : decode cX1_againstLaying 30 = .ok (.goto 5, 3) := by decide +kernel
theorem dX1_againstLaying_33 : decode cX1_againstLaying 33 = .ok (.bipush (-3), 2) := by decide +kernel
theorem dX1_againstLaying_35 : decode cX1_againstLaying 35 = .ok (.ireturn, 1) := by decide +kernel
theorem dX1_lay_0 : decode cX1_lay 0 = .ok (.aload_n 0, 1) := by decide +kernel
theorem dX1_lay_1 : decode cX1_lay 1 = .ok (.iload_n 1, 1) := by decide +kernel
theorem dX1_lay_2 : decode cX1_lay 2 = .ok (.invokevirtual 123, 3) := by decide +kernel
theorem dX1_lay_5 : decode cX1_lay 5 = .ok (.ifCond .eq 7, 3) := by decide +kernel
theorem dX1_lay_8 : decode cX1_lay 8 = .ok (.iconst 1, 1) := by decide +kernel
theorem dX1_lay_9 : decode cX1_lay 9 = .ok (.goto 4, 3) := by decide +kernel
theorem dX1_lay_12 : decode cX1_lay 12 = .ok (.iconst 0, 1) := by decide +kernel
theorem dX1_lay_13 : decode cX1_lay 13 = .ok (.istore 4, 2) := by decide +kernel
theorem dX1_lay_15 : decode cX1_lay 15 = .ok (.aload_n 0, 1) := by decide +kernel
theorem dX1_lay_16 : decode cX1_lay 16 = .ok (.iload_n 1, 1) := by decide +kernel
theorem dX1_lay_17 : decode cX1_lay 17 = .ok (.iload_n 2, 1) := by decide +kernel
theorem dX1_lay_18 : decode cX1_lay 18 = .ok (.iload_n 3, 1) := by decide +kernel
theorem dX1_lay_19 : decode cX1_lay 19 = .ok (.invokevirtual 145, 3) := by decide +kernel
theorem dX1_lay_22 : decode cX1_lay 22 = .ok (.iload 4, 2) := by decide +kernel
theorem dX1_lay_24 : decode cX1_lay 24 = .ok (.ireturn, 1) := by decide +kernel
theorem dX1_againstTakingOff_0 : decode cX1_againstTakingOff 0 = .ok (.aload_n 0, 1) := by decide +kernel
theorem dX1_againstTakingOff_1 : decode cX1_againstTakingOff 1 = .ok (.iload_n 1, 1) := by decide +kernel
theorem dX1_againstTakingOff_2 : decode cX1_againstTakingOff 2 = .ok (.invokevirtual 64, 3) := by decide +kernel
theorem dX1_againstTakingOff_5 : decode cX1_againstTakingOff 5 = .ok (.ifCond .ne 6, 3) := by decide +kernel
theorem dX1_againstTakingOff_8 : decode cX1_againstTakingOff 8 = .ok (.bipush (-2), 2) := by decide +kernel
theorem dX1_againstTakingOff_10 : decode cX1_againstTakingOff 10 = .ok (.ireturn, 1) := by decide +kernel
theorem dX1_againstTakingOff_11 : decode cX1_againstTakingOff 11 = .ok (.aload_n 0, 1) := by decide +kernel
theorem dX1_againstTakingOff_12 : decode cX1_againstTakingOff 12 = .ok (.iload_n 1, 1) := by decide +kernel
theorem dX1_againstTakingOff_13 : decode cX1_againstTakingOff 13 = .ok (.invokevirtual 123, 3) := by decide +kernel
theorem dX1_againstTakingOff_16 : decode cX1_againstTakingOff 16 = .ok (.ifCond .eq 7, 3) := by decide +kernel
theorem dX1_againstTakingOff_19 : decode cX1_againstTakingOff 19 = .ok (.iconst 0, 1) := by decide +kernel
theorem dX1_againstTakingOff_20 : decode cX1_againstTakingOff 20 = .ok (.goto 5, 3) := by decide +kernel
theorem dX1_againstTakingOff_23 : decode cX1_againstTakingOff 23 = .ok (.bipush (-3), 2) := by decide +kernel
theorem dX1_againstTakingOff_25 : decode cX1_againstTakingOff 25 = .ok (.ireturn, 1) := by decide +kernel
theorem dX1_takeOff_0 : decode cX1_takeOff 0 = .ok (.aload_n 0, 1) := by decide +kernel
theorem dX1_takeOff_1 : decode cX1_takeOff 1 = .ok (.iload_n 1, 1) := by decide +kernel
theorem dX1_takeOff_2 : decode cX1_takeOff 2 = .ok (.iconst (-1), 1) := by decide +kernel
theorem dX1_takeOff_3 : decode cX1_takeOff 3 = .ok (.iconst (-1), 1) := by decide +kernel
theorem dX1_takeOff_4 : decode cX1_takeOff 4 = .ok (.invokevirtual 145, 3) := by decide +kernel
theorem dX1_takeOff_7 : decode cX1_takeOff 7 = .ok (.aload_n 0, 1) := by decide +kernel
theorem dX1_takeOff_8 : decode cX1_takeOff 8 = .ok (.invokevirtual 149, 3) := by decide +kernel
theorem dX1_takeOff_11 : decode cX1_takeOff 11 = .ok (.ireturn, 1) := by decide +kernel
theorem dX1_againstSwap_0 : decode cX1_againstSwap 0 = .ok (.aload_n 0, 1) := by decide +kernel
theorem dX1_againstSwap_1 : decode cX1_againstSwap 1 = .ok (.iload_n 1, 1) := by decide +kernel
theorem dX1_againstSwap_2 : decode cX1_againstSwap 2 = .ok (.invokevirtual 64, 3) := by decide +kernel
theorem dX1_againstSwap_5 : decode cX1_againstSwap 5 = .ok (.ifCond .eq 16, 3) := by decide +kernel
theorem dX1_againstSwap_8 : decode cX1_againstSwap 8 = .ok (.aload_n 0, 1) := by decide +kernel
theorem dX1_againstSwap_9 : decode cX1_againstSwap 9 = .ok (.iload_n 2, 1) := by decide +kernel
theorem dX1_againstSwap_10 : decode cX1_againstSwap 10 = .ok (.invokevirtual 64, 3) := by decide +kernel
theorem dX1_againstSwap_13 : decode cX1_againstSwap 13 = .ok (.ifCond .eq 8, 3) := by decide +kernel
theorem dX1_againstSwap_16 : decode cX1_againstSwap 16 = .ok (.iload_n 1, 1) := by decide +kernel
theorem dX1_againstSwap_17 : decode cX1_againstSwap 17 = .ok (.iload_n 2, 1) := by decide +kernel
theorem dX1_againstSwap_18 : decode cX1_againstSwap 18 = .ok (.if_icmp .ne 6, 3) := by decide +kernel
theorem dX1_againstSwap_21 : decode cX1_againstSwap 21 = .ok (.bipush (-2), 2) := by decide +kernel
theorem dX1_againstSwap_23 : decode cX1_againstSwap 23 = .ok (.ireturn, 1) := by decide +kernel
theorem dX1_againstSwap_24 : decode cX1_againstSwap 24 = .ok (.aload_n 0, 1) := by decide +kernel
theorem dX1_againstSwap_25 : decode cX1_againstSwap 25 = .ok (.iload_n 1, 1) := by decide +kernel
theorem dX1_againstSwap_26 : decode cX1_againstSwap 26 = .ok (.invokevirtual 123, 3) := by decide +kernel
theorem dX1_againstSwap_29 : decode cX1_againstSwap 29 = .ok (.ifCond .ne 11, 3) := by decide +kernel
theorem dX1_againstSwap_32 : decode cX1_againstSwap 32 = .ok (.aload_n 0, 1) := by decide +kernel
theorem dX1_againstSwap_33 : decode cX1_againstSwap 33 = .ok (.iload_n 2, 1) := by decide +kernel
theorem dX1_againstSwap_34 : decode cX1_againstSwap 34 = .ok (.invokevirtual 123, 3) := by decide +kernel
theorem dX1_againstSwap_37 : decode cX1_againstSwap 37 = .ok (.ifCond .eq 7, 3) := by decide +kernel
theorem dX1_againstSwap_40 : decode cX1_againstSwap 40 = .ok (.iconst 0, 1) := by decide +kernel
theorem dX1_againstSwap_41 : decode cX1_againstSwap 41 = .ok (.goto 5, 3) := by decide +kernel
theorem dX1_againstSwap_44 : decode cX1_againstSwap 44 = .ok (.bipush (-3), 2) := by decide +kernel
theorem dX1_againstSwap_46 : decode cX1_againstSwap 46 = .ok (.ireturn, 1) := by decide +kernel
theorem dX1_swap_0 : decode cX1_swap 0 = .ok (.aload_n 0, 1) := by decide +kernel
theorem dX1_swap_1 : decode cX1_swap 1 = .ok (.iload_n 1, 1) := by decide +kernel
theorem dX1_swap_2 : decode cX1_swap 2 = .ok (.invokevirtual 133, 3) := by decide +kernel
theorem dX1_swap_5 : decode cX1_swap 5 = .ok (.istore_n 3, 1) := by decide +kernel
theorem dX1_swap_6 : decode cX1_swap 6 = .ok (.aload_n 0, 1) := by decide +kernel
theorem dX1_swap_7 : decode cX1_swap 7 = .ok (.iload_n 1, 1) := by decide +kernel
theorem dX1_swap_8 : decode cX1_swap 8 = .ok (.invokevirtual 136, 3) := by decide +kernel
theorem dX1_swap_11 : decode cX1_swap 11 = .ok (.istore 4, 2) := by decide +kernel
theorem dX1_swap_13 : decode cX1_swap 13 = .ok (.aload_n 0, 1) := by decide +kernel
theorem dX1_swap_14 : decode cX1_swap 14 = .ok (.iload_n 1, 1) := by decide +kernel
theorem dX1_swap_15 : decode cX1_swap 15 = .ok (.aload_n 0, 1) := by decide +kernel
theorem dX1_swap_16 : decode cX1_swap 16 = .ok (.iload_n 2, 1) := by decide +kernel
theorem dX1_swap_17 : decode cX1_swap 17 = .ok (.invokevirtual 133, 3) := by decide +kernel
theorem dX1_swap_20 : decode cX1_swap 20 = .ok (.aload_n 0, 1) := by decide +kernel
theorem dX1_swap_21 : decode cX1_swap 21 = .ok (.iload_n 2, 1) := by decide +kernel
theorem dX1_swap_22 : decode cX1_swap 22 = .ok (.invokevirtual 136, 3) := by decide +kernel
theorem dX1_swap_25 : decode cX1_swap 25 = .ok (.invokevirtual 145, 3) := by decide +kernel
theorem dX1_swap_28 : decode cX1_swap 28 = .ok (.aload_n 0, 1) := by decide +kernel
theorem dX1_swap_29 : decode cX1_swap 29 = .ok (.iload_n 2, 1) := by decide +kernel
theorem dX1_swap_30 : decode cX1_swap 30 = .ok (.iload_n 3, 1) := by decide +kernel
theorem dX1_swap_31 : decode cX1_swap 31 = .ok (.iload 4, 2) := by decide +kernel
theorem dX1_swap_33 : decode cX1_swap 33 = .ok (.invokevirtual 145, 3) := by decide +kernel
theorem dX1_swap_36 : decode cX1_swap 36 = .ok (.aload_n 0, 1) := by decide +kernel
theorem dX1_swap_37 : decode cX1_swap 37 = .ok (.iload_n 1, 1) := by decide +kernel
theorem dX1_swap_38 : decode cX1_swap 38 = .ok (.invokevirtual 152, 3) := by decide +kernel
theorem dX1_swap_41 : decode cX1_swap 41 = .ok (.ifCond .eq 7, 3) := by decide +kernel
theorem dX1_swap_44 : decode cX1_swap 44 = .ok (.iconst 1, 1) := by decide +kernel
theorem dX1_swap_45 : decode cX1_swap 45 = .ok (.goto 4, 3) := by decide +kernel
theorem dX1_swap_48 : decode cX1_swap 48 = .ok (.iconst 0, 1) := by decide +kernel
theorem dX1_swap_49 : decode cX1_swap 49 = .ok (.aload_n 0, 1) := by decide +kernel
theorem dX1_swap_50 : decode cX1_swap 50 = .ok (.iload_n 2, 1) := by decide +kernel
theorem dX1_swap_51 : decode cX1_swap 51 = .ok (.invokevirtual 152, 3) := by decide +kernel
theorem dX1_swap_54 : decode cX1_swap 54 = .ok (.ifCond .eq 7, 3) := by decide +kernel
theorem dX1_swap_57 : decode cX1_swap 57 = .ok (.iconst 1, 1) := by decide +kernel
theorem dX1_swap_58 : decode cX1_swap 58 = .ok (.goto 4, 3) := by decide +kernel
theorem dX1_swap_61 : decode cX1_swap 61 = .ok (.iconst 0, 1) := by decide +kernel
theorem dX1_swap_62 : decode cX1_swap 62 = .ok (.iadd, 1) := by decide +kernel
theorem dX1_swap_63 : decode cX1_swap 63 = .ok (.ireturn, 1) := by decide +kernel
theorem dX1_tellOfItem_0 : decode cX1_tellOfItem 0 = .ok (.iload_n 2, 1) := by decide +kernel
theorem dX1_tellOfItem_1 : decode cX1_tellOfItem 1 = .ok (.tableswitch 83 4 9 #[39, 45, 51, 57, 63, 69], 39) := by decide +kernel
theorem dX1_tellOfItem_40 : decode cX1_tellOfItem 40 = .ok (.aload_n 0, 1) := by decide +kernel
theorem dX1_tellOfItem_41 : decode cX1_tellOfItem 41 = .ok (.iload_n 1, 1) := by decide +kernel
theorem dX1_tellOfItem_42 : decode cX1_tellOfItem 42 = .ok (.invokevirtual 133, 3) := by decide +kernel
theorem dX1_tellOfItem_45 : decode cX1_tellOfItem 45 = .ok (.ireturn, 1) := by decide +kernel
theorem dX1_tellOfItem_46 : decode cX1_tellOfItem 46 = .ok (.aload_n 0, 1) := by decide +kernel
theorem dX1_tellOfItem_47 : decode cX1_tellOfItem 47 = .ok (.iload_n 1, 1) := by decide +kernel
theorem dX1_tellOfItem_48 : decode cX1_tellOfItem 48 = .ok (.invokevirtual 136, 3) := by decide +kernel
theorem dX1_tellOfItem_51 : decode cX1_tellOfItem 51 = .ok (.ireturn, 1) := by decide +kernel
theorem dX1_tellOfItem_52 : decode cX1_tellOfItem 52 = .ok (.aload_n 0, 1) := by decide +kernel
theorem dX1_tellOfItem_53 : decode cX1_tellOfItem 53 = .ok (.iload_n 1, 1) := by decide +kernel
theorem dX1_tellOfItem_54 : decode cX1_tellOfItem 54 = .ok (.invokevirtual 155, 3) := by decide +kernel
theorem dX1_tellOfItem_57 : decode cX1_tellOfItem 57 = .ok (.ireturn, 1) := by decide +kernel
theorem dX1_tellOfItem_58 : decode cX1_tellOfItem 58 = .ok (.aload_n 0, 1) := by decide +kernel
theorem dX1_tellOfItem_59 : decode cX1_tellOfItem 59 = .ok (.iload_n 1, 1) := by decide +kernel
theorem dX1_tellOfItem_60 : decode cX1_tellOfItem 60 = .ok (.invokevirtual 158, 3) := by decide +kernel
theorem dX1_tellOfItem_63 : decode cX1_tellOfItem 63 = .ok (.ireturn, 1) := by decide +kernel
theorem dX1_tellOfItem_64 : decode cX1_tellOfItem 64 = .ok (.aload_n 0, 1) := by decide +kernel
theorem dX1_tellOfItem_65 : decode cX1_tellOfItem 65 = .ok (.iload_n 1, 1) := by decide +kernel
theorem dX1_tellOfItem_66 : decode cX1_tellOfItem 66 = .ok (.invokevirtual 161, 3) := by decide +kernel
theorem dX1_tellOfItem_69 : decode cX1_tellOfItem 69 = .ok (.ireturn, 1) := by decide +kernel
theorem dX1_tellOfItem_70 : decode cX1_tellOfItem 70 = .ok (.aload_n 0, 1) := by decide +kernel
theorem dX1_tellOfItem_71 : decode cX1_tellOfItem 71 = .ok (.iload_n 1, 1) := by decide +kernel
theorem dX1_tellOfItem_72 : decode cX1_tellOfItem 72 = .ok (.invokevirtual 152, 3) := by decide +kernel
theorem dX1_tellOfItem_75 : decode cX1_tellOfItem 75 = .ok (.ifCond .eq 7, 3) := by decide +kernel
theorem dX1_tellOfItem_78 : decode cX1_tellOfItem 78 = .ok (.iconst 1, 1) := by decide +kernel
theorem dX1_tellOfItem_79 : decode cX1_tellOfItem 79 = .ok (.goto 4, 3) := by decide +kernel
theorem dX1_tellOfItem_82 : decode cX1_tellOfItem 82 = .ok (.iconst 0, 1) := by decide +kernel
theorem dX1_tellOfItem_83 : decode cX1_tellOfItem 83 = .ok (.ireturn, 1) := by decide +kernel
theorem dX1_tellOfItem_84 : decode cX1_tellOfItem 84 = .ok (.aload_n 0, 1) := by decide +kernel
theorem dX1_tellOfItem_85 : decode cX1_tellOfItem 85 = .ok (.iload_n 1, 1) := by decide +kernel
theorem dX1_tellOfItem_86 : decode cX1_tellOfItem 86 = .ok (.iload_n 2, 1) := by decide +kernel
theorem dX1_tellOfItem_87 : decode cX1_tellOfItem 87 = .ok (.invokevirtual 99, 3) := by decide +kernel
theorem dX1_tellOfItem_90 : decode cX1_tellOfItem 90 = .ok (.ireturn, 1) := by decide +kernel
theorem dX1_tellOfAll_0 : decode cX1_tellOfAll 0 = .ok (.iload_n 1, 1) := by decide +kernel
theorem dX1_tellOfAll_1 : decode cX1_tellOfAll 1 = .ok (.tableswitch 42 0 2 #[27, 32, 37], 27) := by decide +kernel
theorem dX1_tellOfAll_28 : decode cX1_tellOfAll 28 = .ok (.aload_n 0, 1) := by decide +kernel
theorem dX1_tellOfAll_29 : decode cX1_tellOfAll 29 = .ok (.invokevirtual 114, 3) := by decide +kernel
theorem dX1_tellOfAll_32 : decode cX1_tellOfAll 32 = .ok (.ireturn, 1) := by decide +kernel
theorem dX1_tellOfAll_33 : decode cX1_tellOfAll 33 = .ok (.aload_n 0, 1) := by decide +kernel
theorem dX1_tellOfAll_34 : decode cX1_tellOfAll 34 = .ok (.invokevirtual 164, 3) := by decide +kernel
theorem dX1_tellOfAll_37 : decode cX1_tellOfAll 37 = .ok (.ireturn, 1) := by decide +kernel
theorem dX1_tellOfAll_38 : decode cX1_tellOfAll 38 = .ok (.aload_n 0, 1) := by decide +kernel
theorem dX1_tellOfAll_39 : decode cX1_tellOfAll 39 = .ok (.invokevirtual 167, 3) := by decide +kernel
theorem dX1_tellOfAll_42 : decode cX1_tellOfAll 42 = .ok (.ireturn, 1) := by decide +kernel
theorem dX1_tellOfAll_43 : decode cX1_tellOfAll 43 = .ok (.aload_n 0, 1) := by decide +kernel
theorem dX1_tellOfAll_44 : decode cX1_tellOfAll 44 = .ok (.invokevirtual 170, 3) := by decide +kernel
theorem dX1_tellOfAll_47 : decode cX1_tellOfAll 47 = .ok (.ireturn, 1) := by decide +kernel
theorem dX1_badlyLyingBits_0 : decode cX1_badlyLyingBits 0 = .ok (.iconst 0, 1) := by decide +kernel
theorem dX1_badlyLyingBits_1 : decode cX1_badlyLyingBits 1 = .ok (.istore_n 1, 1) := by decide +kernel
theorem dX1_badlyLyingBits_2 : decode cX1_badlyLyingBits 2 = .ok (.iconst 0, 1) := by decide +kernel
theorem dX1_badlyLyingBits_3 : decode cX1_badlyLyingBits 3 = .ok (.istore_n 2, 1) := by decide +kernel
theorem dX1_badlyLyingBits_4 : decode cX1_badlyLyingBits 4 = .ok (.iload_n 2, 1) := by decide +kernel
theorem dX1_badlyLyingBits_5 : decode cX1_badlyLyingBits 5 = .ok (.aload_n 0, 1) := by decide +kernel
theorem dX1_badlyLyingBits_6 : decode cX1_badlyLyingBits 6 = .ok (.getfield 44, 3) := by decide +kernel
theorem dX1_badlyLyingBits_9 : decode cX1_badlyLyingBits 9 = .ok (.if_icmp .ge 31, 3) := by decide +kernel
theorem dX1_badlyLyingBits_12 : decode cX1_badlyLyingBits 12 = .ok (.aload_n 0, 1) := by decide +kernel
theorem dX1_badlyLyingBits_13 : decode cX1_badlyLyingBits 13 = .ok (.iload_n 2, 1) := by decide +kernel
theorem dX1_badlyLyingBits_14 : decode cX1_badlyLyingBits 14 = .ok (.invokevirtual 123, 3) := by decide +kernel
theorem dX1_badlyLyingBits_17 : decode cX1_badlyLyingBits 17 = .ok (.ifCond .eq 17, 3) := by decide +kernel
theorem dX1_badlyLyingBits_20 : decode cX1_badlyLyingBits 20 = .ok (.aload_n 0, 1) := by decide +kernel
theorem dX1_badlyLyingBits_21 : decode cX1_badlyLyingBits 21 = .ok (.iload_n 2, 1) := by decide +kernel
theorem dX1_badlyLyingBits_22 : decode cX1_badlyLyingBits 22 = .ok (.invokevirtual 152, 3) := by decide +kernel
theorem dX1_badlyLyingBits_25 : decode cX1_badlyLyingBits 25 = .ok (.ifCond .ne 9, 3) := by decide +kernel
theorem dX1_badlyLyingBits_28 : decode cX1_badlyLyingBits 28 = .ok (.iload_n 1, 1) := by decide +kernel
theorem dX1_badlyLyingBits_29 : decode cX1_badlyLyingBits 29 = .ok (.iconst 1, 1) := by decide +kernel
theorem dX1_badlyLyingBits_30 : decode cX1_badlyLyingBits 30 = .ok (.iload_n 2, 1) := by decide +kernel
theorem dX1_badlyLyingBits_31 : decode cX1_badlyLyingBits 31 = .ok (.ishl, 1) := by decide +kernel
theorem dX1_badlyLyingBits_32 : decode cX1_badlyLyingBits 32 = .ok (.ior, 1) := by decide +kernel
theorem dX1_badlyLyingBits_33 : decode cX1_badlyLyingBits 33 = .ok (.istore_n 1, 1) := by decide +kernel
theorem dX1_badlyLyingBits_34 : decode cX1_badlyLyingBits 34 = .ok (.iinc 2 1, 3) := by decide +kernel
theorem dX1_badlyLyingBits_37 : decode cX1_badlyLyingBits 37 = .ok (.goto (-33), 3) := by decide +kernel
theorem dX1_badlyLyingBits_40 : decode cX1_badlyLyingBits 40 = .ok (.iload_n 1, 1) := by decide +kernel
theorem dX1_badlyLyingBits_41 : decode cX1_badlyLyingBits 41 = .ok (.ireturn, 1) := by decide +kernel
theorem dX1_lyingWeight_0 : decode cX1_lyingWeight 0 = .ok (.iconst 0, 1) := by decide +kernel
theorem dX1_lyingWeight_1 : decode cX1_lyingWeight 1 = .ok (.istore_n 1, 1) := by decide +kernel
theorem dX1_lyingWeight_2 : decode cX1_lyingWeight 2 = .ok (.iconst 0, 1) := by decide +kernel
theorem dX1_lyingWeight_3 : decode cX1_lyingWeight 3 = .ok (.istore_n 2, 1) := by decide +kernel
theorem dX1_lyingWeight_4 : decode cX1_lyingWeight 4 = .ok (.iload_n 2, 1) := by decide +kernel
theorem dX1_lyingWeight_5 : decode cX1_lyingWeight 5 = .ok (.aload_n 0, 1) := by decide +kernel
theorem dX1_lyingWeight_6 : decode cX1_lyingWeight 6 = .ok (.getfield 44, 3) := by decide +kernel
theorem dX1_lyingWeight_9 : decode cX1_lyingWeight 9 = .ok (.if_icmp .ge 25, 3) := by decide +kernel
theorem dX1_lyingWeight_12 : decode cX1_lyingWeight 12 = .ok (.aload_n 0, 1) := by decide +kernel
theorem dX1_lyingWeight_13 : decode cX1_lyingWeight 13 = .ok (.iload_n 2, 1) := by decide +kernel
theorem dX1_lyingWeight_14 : decode cX1_lyingWeight 14 = .ok (.invokevirtual 123, 3) := by decide +kernel
theorem dX1_lyingWeight_17 : decode cX1_lyingWeight 17 = .ok (.ifCond .eq 11, 3) := by decide +kernel
theorem dX1_lyingWeight_20 : decode cX1_lyingWeight 20 = .ok (.iload_n 1, 1) := by decide +kernel
theorem dX1_lyingWeight_21 : decode cX1_lyingWeight 21 = .ok (.aload_n 0, 1) := by decide +kernel
theorem dX1_lyingWeight_22 : decode cX1_lyingWeight 22 = .ok (.iload_n 2, 1) := by decide +kernel
theorem dX1_lyingWeight_23 : decode cX1_lyingWeight 23 = .ok (.invokevirtual 161, 3) := by decide +kernel
theorem dX1_lyingWeight_26 : decode cX1_lyingWeight 26 = .ok (.iadd, 1) := by decide +kernel
theorem dX1_lyingWeight_27 : decode cX1_lyingWeight 27 = .ok (.istore_n 1, 1) := by decide +kernel
theorem dX1_lyingWeight_28 : decode cX1_lyingWeight 28 = .ok (.iinc 2 1, 3) := by decide +kernel
theorem dX1_lyingWeight_31 : decode cX1_lyingWeight 31 = .ok (.goto (-27), 3) := by decide +kernel
theorem dX1_lyingWeight_34 : decode cX1_lyingWeight 34 = .ok (.iload_n 1, 1) := by decide +kernel
theorem dX1_lyingWeight_35 : decode cX1_lyingWeight 35 = .ok (.ireturn, 1) := by decide +kernel
theorem dX1_lesserPairs_0 : decode cX1_lesserPairs 0 = .ok (.iconst 0, 1) := by decide +kernel
theorem dX1_lesserPairs_1 : decode cX1_lesserPairs 1 = .ok (.istore_n 1, 1) := by decide +kernel
theorem dX1_lesserPairs_2 : decode cX1_lesserPairs 2 = .ok (.iconst 0, 1) := by decide +kernel
theorem dX1_lesserPairs_3 : decode cX1_lesserPairs 3 = .ok (.istore_n 2, 1) := by decide +kernel
theorem dX1_lesserPairs_4 : decode cX1_lesserPairs 4 = .ok (.iload_n 2, 1) := by decide +kernel
theorem dX1_lesserPairs_5 : decode cX1_lesserPairs 5 = .ok (.aload_n 0, 1) := by decide +kernel
theorem dX1_lesserPairs_6 : decode cX1_lesserPairs 6 = .ok (.getfield 44, 3) := by decide +kernel
theorem dX1_lesserPairs_9 : decode cX1_lesserPairs 9 = .ok (.if_icmp .ge 68, 3) := by decide +kernel
theorem dX1_lesserPairs_12 : decode cX1_lesserPairs 12 = .ok (.iconst 0, 1) := by decide +kernel
theorem dX1_lesserPairs_13 : decode cX1_lesserPairs 13 = .ok (.istore_n 3, 1) := by decide +kernel
theorem dX1_lesserPairs_14 : decode cX1_lesserPairs 14 = .ok (.iload_n 3, 1) := by decide +kernel
theorem dX1_lesserPairs_15 : decode cX1_lesserPairs 15 = .ok (.aload_n 0, 1) := by decide +kernel
theorem dX1_lesserPairs_16 : decode cX1_lesserPairs 16 = .ok (.getfield 44, 3) := by decide +kernel
theorem dX1_lesserPairs_19 : decode cX1_lesserPairs 19 = .ok (.if_icmp .ge 52, 3) := by decide +kernel
theorem dX1_lesserPairs_22 : decode cX1_lesserPairs 22 = .ok (.aload_n 0, 1) := by decide +kernel
theorem dX1_lesserPairs_23 : decode cX1_lesserPairs 23 = .ok (.iload_n 2, 1) := by decide +kernel
theorem dX1_lesserPairs_24 : decode cX1_lesserPairs 24 = .ok (.iconst 1, 1) := by decide +kernel
theorem dX1_lesserPairs_25 : decode cX1_lesserPairs 25 = .ok (.invokevirtual 99, 3) := by decide +kernel
theorem dX1_lesserPairs_28 : decode cX1_lesserPairs 28 = .ok (.aload_n 0, 1) := by decide +kernel
theorem dX1_lesserPairs_29 : decode cX1_lesserPairs 29 = .ok (.iload_n 3, 1) := by decide +kernel
theorem dX1_lesserPairs_30 : decode cX1_lesserPairs 30 = .ok (.iconst 1, 1) := by decide +kernel
theorem dX1_lesserPairs_31 : decode cX1_lesserPairs 31 = .ok (.invokevirtual 99, 3) := by decide +kernel
theorem dX1_lesserPairs_34 : decode cX1_lesserPairs 34 = .ok (.if_icmp .ge 31, 3) := by decide +kernel
theorem dX1_lesserPairs_37 : decode cX1_lesserPairs 37 = .ok (.aload_n 0, 1) := by decide +kernel
theorem dX1_lesserPairs_38 : decode cX1_lesserPairs 38 = .ok (.iload_n 2, 1) := by decide +kernel
theorem dX1_lesserPairs_39 : decode cX1_lesserPairs 39 = .ok (.invokevirtual 155, 3) := by decide +kernel
theorem dX1_lesserPairs_42 : decode cX1_lesserPairs 42 = .ok (.aload_n 0, 1) := by decide +kernel
theorem dX1_lesserPairs_43 : decode cX1_lesserPairs 43 = .ok (.iload_n 2, 1) := by decide +kernel
theorem dX1_lesserPairs_44 : decode cX1_lesserPairs 44 = .ok (.invokevirtual 158, 3) := by decide +kernel
theorem dX1_lesserPairs_47 : decode cX1_lesserPairs 47 = .ok (.imul, 1) := by decide +kernel
theorem dX1_lesserPairs_48 : decode cX1_lesserPairs 48 = .ok (.aload_n 0, 1) := by decide +kernel
theorem dX1_lesserPairs_49 : decode cX1_lesserPairs 49 = .ok (.iload_n 3, 1) := by decide +kernel
theorem dX1_lesserPairs_50 : decode cX1_lesserPairs 50 = .ok (.invokevirtual 155, 3) := by decide +kernel
theorem dX1_lesserPairs_53 : decode cX1_lesserPairs 53 = .ok (.aload_n 0, 1) := by decide +kernel
theorem dX1_lesserPairs_54 : decode cX1_lesserPairs 54 = .ok (.iload_n 3, 1) := by decide +kernel
theorem dX1_lesserPairs_55 : decode cX1_lesserPairs 55 = .ok (.invokevirtual 158, 3) := by decide +kernel
theorem dX1_lesserPairs_58 : decode cX1_lesserPairs 58 = .ok (.imul, 1) := by decide +kernel
theorem dX1_lesserPairs_59 : decode cX1_lesserPairs 59 = .ok (.if_icmp .gt 6, 3) := by decide +kernel
theorem dX1_lesserPairs_62 : decode cX1_lesserPairs 62 = .ok (.iinc 1 1, 3) := by decide +kernel
theorem dX1_lesserPairs_65 : decode cX1_lesserPairs 65 = .ok (.iinc 3 1, 3) := by decide +kernel
theorem dX1_lesserPairs_68 : decode cX1_lesserPairs 68 = .ok (.goto (-54), 3) := by decide +kernel
theorem dX1_lesserPairs_71 : decode cX1_lesserPairs 71 = .ok (.iinc 2 1, 3) := by decide +kernel
theorem dX1_lesserPairs_74 : decode cX1_lesserPairs 74 = .ok (.goto (-70), 3) := by decide +kernel
theorem dX1_lesserPairs_77 : decode cX1_lesserPairs 77 = .ok (.iload_n 1, 1) := by decide +kernel
theorem dX1_lesserPairs_78 : decode cX1_lesserPairs 78 = .ok (.ireturn, 1) := by decide +kernel
theorem dX1_leastOver_0 : decode cX1_leastOver 0 = .ok (.iconst 0, 1) := by decide +kernel
theorem dX1_leastOver_1 : decode cX1_leastOver 1 = .ok (.istore_n 3, 1) := by decide +kernel
theorem dX1_leastOver_2 : decode cX1_leastOver 2 = .ok (.iload_n 3, 1) := by decide +kernel
theorem dX1_leastOver_3 : decode cX1_leastOver 3 = .ok (.aload_n 0, 1) := by decide +kernel
theorem dX1_leastOver_4 : decode cX1_leastOver 4 = .ok (.getfield 44, 3) := by decide +kernel
theorem dX1_leastOver_7 : decode cX1_leastOver 7 = .ok (.if_icmp .ge 61, 3) := by decide +kernel
theorem dX1_leastOver_10 : decode cX1_leastOver 10 = .ok (.aload_n 0, 1) := by decide +kernel
theorem dX1_leastOver_11 : decode cX1_leastOver 11 = .ok (.iload_n 3, 1) := by decide +kernel
theorem dX1_leastOver_12 : decode cX1_leastOver 12 = .ok (.invokevirtual 123, 3) := by decide +kernel
theorem dX1_leastOver_15 : decode cX1_leastOver 15 = .ok (.ifCond .eq 47, 3) := by decide +kernel
theorem dX1_leastOver_18 : decode cX1_leastOver 18 = .ok (.iload_n 1, 1) := by decide +kernel
theorem dX1_leastOver_19 : decode cX1_leastOver 19 = .ok (.aload_n 0, 1) := by decide +kernel
theorem dX1_leastOver_20 : decode cX1_leastOver 20 = .ok (.iload_n 3, 1) := by decide +kernel
theorem dX1_leastOver_21 : decode cX1_leastOver 21 = .ok (.invokevirtual 133, 3) := by decide +kernel
theorem dX1_leastOver_24 : decode cX1_leastOver 24 = .ok (.isub, 1) := by decide +kernel
theorem dX1_leastOver_25 : decode cX1_leastOver 25 = .ok (.iconst 0, 1) := by decide +kernel
theorem dX1_leastOver_26 : decode cX1_leastOver 26 = .ok (.aload_n 0, 1) := by decide +kernel
theorem dX1_leastOver_27 : decode cX1_leastOver 27 = .ok (.iload_n 3, 1) := by decide +kernel
theorem dX1_leastOver_28 : decode cX1_leastOver 28 = .ok (.invokevirtual 155, 3) := by decide +kernel
theorem dX1_leastOver_31 : decode cX1_leastOver 31 = .ok (.iconst 1, 1) := by decide +kernel
theorem dX1_leastOver_32 : decode cX1_leastOver 32 = .ok (.isub, 1) := by decide +kernel
theorem dX1_leastOver_33 : decode cX1_leastOver 33 = .ok (.invokestatic 60, 3) := by decide +kernel
theorem dX1_leastOver_36 : decode cX1_leastOver 36 = .ok (.ifCond .eq 26, 3) := by decide +kernel
theorem dX1_leastOver_39 : decode cX1_leastOver 39 = .ok (.iload_n 2, 1) := by decide +kernel
theorem dX1_leastOver_40 : decode cX1_leastOver 40 = .ok (.aload_n 0, 1) := by decide +kernel
theorem dX1_leastOver_41 : decode cX1_leastOver 41 = .ok (.iload_n 3, 1) := by decide +kernel
theorem dX1_leastOver_42 : decode cX1_leastOver 42 = .ok (.invokevirtual 136, 3) := by decide +kernel
theorem dX1_leastOver_45 : decode cX1_leastOver 45 = .ok (.isub, 1) := by decide +kernel
theorem dX1_leastOver_46 : decode cX1_leastOver 46 = .ok (.iconst 0, 1) := by decide +kernel
theorem dX1_leastOver_47 : decode cX1_leastOver 47 = .ok (.aload_n 0, 1) := by decide +kernel
theorem dX1_leastOver_48 : decode cX1_leastOver 48 = .ok (.iload_n 3, 1) := by decide +kernel
theorem dX1_leastOver_49 : decode cX1_leastOver 49 = .ok (.invokevirtual 158, 3) := by decide +kernel
theorem dX1_leastOver_52 : decode cX1_leastOver 52 = .ok (.iconst 1, 1) := by decide +kernel
theorem dX1_leastOver_53 : decode cX1_leastOver 53 = .ok (.isub, 1) := by decide +kernel
theorem dX1_leastOver_54 : decode cX1_leastOver 54 = .ok (.invokestatic 60, 3) := by decide +kernel
theorem dX1_leastOver_57 : decode cX1_leastOver 57 = .ok (.ifCond .eq 5, 3) := by decide +kernel
theorem dX1_leastOver_60 : decode cX1_leastOver 60 = .ok (.iload_n 3, 1) := by decide +kernel
theorem dX1_leastOver_61 : decode cX1_leastOver 61 = .ok (.ireturn, 1) := by decide +kernel
theorem dX1_leastOver_62 : decode cX1_leastOver 62 = .ok (.iinc 3 1, 3) := by decide +kernel
theorem dX1_leastOver_65 : decode cX1_leastOver 65 = .ok (.goto (-63), 3) := by decide +kernel
theorem dX1_leastOver_68 : decode cX1_leastOver 68 = .ok (.iconst (-1), 1) := by decide +kernel
theorem dX1_leastOver_69 : decode cX1_leastOver 69 = .ok (.ireturn, 1) := by decide +kernel
theorem dX1_heaviest_0 : decode cX1_heaviest 0 = .ok (.iconst 0, 1) := by decide +kernel
theorem dX1_heaviest_1 : decode cX1_heaviest 1 = .ok (.istore_n 3, 1) := by decide +kernel
theorem dX1_heaviest_2 : decode cX1_heaviest 2 = .ok (.iload_n 3, 1) := by decide +kernel
theorem dX1_heaviest_3 : decode cX1_heaviest 3 = .ok (.aload_n 0, 1) := by decide +kernel
theorem dX1_heaviest_4 : decode cX1_heaviest 4 = .ok (.getfield 44, 3) := by decide +kernel
theorem dX1_heaviest_7 : decode cX1_heaviest 7 = .ok (.if_icmp .ge 30, 3) := by decide +kernel
theorem dX1_heaviest_10 : decode cX1_heaviest 10 = .ok (.aload_n 0, 1) := by decide +kernel
theorem dX1_heaviest_11 : decode cX1_heaviest 11 = .ok (.iload_n 3, 1) := by decide +kernel
theorem dX1_heaviest_12 : decode cX1_heaviest 12 = .ok (.iconst 0, 1) := by decide +kernel
theorem dX1_heaviest_13 : decode cX1_heaviest 13 = .ok (.invokevirtual 99, 3) := by decide +kernel
theorem dX1_heaviest_16 : decode cX1_heaviest 16 = .ok (.iload_n 1, 1) := by decide +kernel
theorem dX1_heaviest_17 : decode cX1_heaviest 17 = .ok (.if_icmp .ne 14, 3) := by decide +kernel
theorem dX1_heaviest_20 : decode cX1_heaviest 20 = .ok (.aload_n 0, 1) := by decide +kernel
theorem dX1_heaviest_21 : decode cX1_heaviest 21 = .ok (.iload_n 3, 1) := by decide +kernel
theorem dX1_heaviest_22 : decode cX1_heaviest 22 = .ok (.invokevirtual 173, 3) := by decide +kernel
theorem dX1_heaviest_25 : decode cX1_heaviest 25 = .ok (.iload_n 2, 1) := by decide +kernel
theorem dX1_heaviest_26 : decode cX1_heaviest 26 = .ok (.if_icmp .ne 5, 3) := by decide +kernel
theorem dX1_heaviest_29 : decode cX1_heaviest 29 = .ok (.iload_n 3, 1) := by decide +kernel
theorem dX1_heaviest_30 : decode cX1_heaviest 30 = .ok (.ireturn, 1) := by decide +kernel
theorem dX1_heaviest_31 : decode cX1_heaviest 31 = .ok (.iinc 3 1, 3) := by decide +kernel
theorem dX1_heaviest_34 : decode cX1_heaviest 34 = .ok (.goto (-32), 3) := by decide +kernel
theorem dX1_heaviest_37 : decode cX1_heaviest 37 = .ok (.iconst (-1), 1) := by decide +kernel
theorem dX1_heaviest_38 : decode cX1_heaviest 38 = .ok (.ireturn, 1) := by decide +kernel
theorem dX1_howManyBefore_0 : decode cX1_howManyBefore 0 = .ok (.iconst 0, 1) := by decide +kernel
theorem dX1_howManyBefore_1 : decode cX1_howManyBefore 1 = .ok (.istore_n 2, 1) := by decide +kernel
theorem dX1_howManyBefore_2 : decode cX1_howManyBefore 2 = .ok (.iconst 0, 1) := by decide +kernel
theorem dX1_howManyBefore_3 : decode cX1_howManyBefore 3 = .ok (.istore_n 3, 1) := by decide +kernel
theorem dX1_howManyBefore_4 : decode cX1_howManyBefore 4 = .ok (.iload_n 3, 1) := by decide +kernel
theorem dX1_howManyBefore_5 : decode cX1_howManyBefore 5 = .ok (.aload_n 0, 1) := by decide +kernel
theorem dX1_howManyBefore_6 : decode cX1_howManyBefore 6 = .ok (.getfield 44, 3) := by decide +kernel
theorem dX1_howManyBefore_9 : decode cX1_howManyBefore 9 = .ok (.if_icmp .ge 70, 3) := by decide +kernel
theorem dX1_howManyBefore_12 : decode cX1_howManyBefore 12 = .ok (.aload_n 0, 1) := by decide +kernel
theorem dX1_howManyBefore_13 : decode cX1_howManyBefore 13 = .ok (.iload_n 3, 1) := by decide +kernel
theorem dX1_howManyBefore_14 : decode cX1_howManyBefore 14 = .ok (.invokevirtual 161, 3) := by decide +kernel
theorem dX1_howManyBefore_17 : decode cX1_howManyBefore 17 = .ok (.aload_n 0, 1) := by decide +kernel
theorem dX1_howManyBefore_18 : decode cX1_howManyBefore 18 = .ok (.iload_n 1, 1) := by decide +kernel
theorem dX1_howManyBefore_19 : decode cX1_howManyBefore 19 = .ok (.invokevirtual 161, 3) := by decide +kernel
theorem dX1_howManyBefore_22 : decode cX1_howManyBefore 22 = .ok (.if_icmp .gt 21, 3) := by decide +kernel
theorem dX1_howManyBefore_25 : decode cX1_howManyBefore 25 = .ok (.aload_n 0, 1) := by decide +kernel
theorem dX1_howManyBefore_26 : decode cX1_howManyBefore 26 = .ok (.iload_n 3, 1) := by decide +kernel
theorem dX1_howManyBefore_27 : decode cX1_howManyBefore 27 = .ok (.invokevirtual 161, 3) := by decide +kernel
theorem dX1_howManyBefore_30 : decode cX1_howManyBefore 30 = .ok (.aload_n 0, 1) := by decide +kernel
theorem dX1_howManyBefore_31 : decode cX1_howManyBefore 31 = .ok (.iload_n 1, 1) := by decide +kernel
theorem dX1_howManyBefore_32 : decode cX1_howManyBefore 32 = .ok (.invokevirtual 161, 3) := by decide +kernel
theorem dX1_howManyBefore_35 : decode cX1_howManyBefore 35 = .ok (.if_icmp .ne 12, 3) := by decide +kernel
theorem dX1_howManyBefore_38 : decode cX1_howManyBefore 38 = .ok (.iload_n 3, 1) := by decide +kernel
theorem dX1_howManyBefore_39 : decode cX1_howManyBefore 39 = .ok (.iload_n 1, 1) := by decide +kernel
theorem dX1_howManyBefore_40 : decode cX1_howManyBefore 40 = .ok (.if_icmp .ge 7, 3) := by decide +kernel
theorem dX1_howManyBefore_43 : decode cX1_howManyBefore 43 = .ok (.iconst 1, 1) := by decide +kernel
theorem dX1_howManyBefore_44 : decode cX1_howManyBefore 44 = .ok (.goto 4, 3) := by decide +kernel
theorem dX1_howManyBefore_47 : decode cX1_howManyBefore 47 = .ok (.iconst 0, 1) := by decide +kernel
theorem dX1_howManyBefore_48 : decode cX1_howManyBefore 48 = .ok (.istore 4, 2) := by decide +kernel
theorem dX1_howManyBefore_50 : decode cX1_howManyBefore 50 = .ok (.aload_n 0, 1) := by decide +kernel
theorem dX1_howManyBefore_51 : decode cX1_howManyBefore 51 = .ok (.iload_n 3, 1) := by decide +kernel
theorem dX1_howManyBefore_52 : decode cX1_howManyBefore 52 = .ok (.iconst 0, 1) := by decide +kernel
theorem dX1_howManyBefore_53 : decode cX1_howManyBefore 53 = .ok (.invokevirtual 99, 3) := by decide +kernel
theorem dX1_howManyBefore_56 : decode cX1_howManyBefore 56 = .ok (.aload_n 0, 1) := by decide +kernel
theorem dX1_howManyBefore_57 : decode cX1_howManyBefore 57 = .ok (.iload_n 1, 1) := by decide +kernel
theorem dX1_howManyBefore_58 : decode cX1_howManyBefore 58 = .ok (.iconst 0, 1) := by decide +kernel
theorem dX1_howManyBefore_59 : decode cX1_howManyBefore 59 = .ok (.invokevirtual 99, 3) := by decide +kernel
theorem dX1_howManyBefore_62 : decode cX1_howManyBefore 62 = .ok (.if_icmp .ne 11, 3) := by decide +kernel
theorem dX1_howManyBefore_65 : decode cX1_howManyBefore 65 = .ok (.iload 4, 2) := by decide +kernel
theorem dX1_howManyBefore_67 : decode cX1_howManyBefore 67 = .ok (.ifCond .eq 6, 3) := by decide +kernel
theorem dX1_howManyBefore_70 : decode cX1_howManyBefore 70 = .ok (.iinc 2 1, 3) := by decide +kernel
theorem dX1_howManyBefore_73 : decode cX1_howManyBefore 73 = .ok (.iinc 3 1, 3) := by decide +kernel
theorem dX1_howManyBefore_76 : decode cX1_howManyBefore 76 = .ok (.goto (-72), 3) := by decide +kernel
theorem dX1_howManyBefore_79 : decode cX1_howManyBefore 79 = .ok (.iload_n 2, 1) := by decide +kernel
theorem dX1_howManyBefore_80 : decode cX1_howManyBefore 80 = .ok (.ireturn, 1) := by decide +kernel
theorem dX2_init_0 : decode cX2_init 0 = .ok (.aload_n 0, 1) := by decide +kernel
theorem dX2_init_1 : decode cX2_init 1 = .ok (.invokespecial 3, 3) := by decide +kernel
theorem dX2_init_4 : decode cX2_init 4 = .ok (.aload_n 0, 1) := by decide +kernel
theorem dX2_init_5 : decode cX2_init 5 = .ok (.bipush 8, 2) := by decide +kernel
theorem dX2_init_7 : decode cX2_init 7 = .ok (.newarray .int, 2) := by decide +kernel
theorem dX2_init_9 : decode cX2_init 9 = .ok (.putfield 9, 3) := by decide +kernel
theorem dX2_init_12 : decode cX2_init 12 = .ok (.aload_n 0, 1) := by decide +kernel
theorem dX2_init_13 : decode cX2_init 13 = .ok (.bipush 8, 2) := by decide +kernel
theorem dX2_init_15 : decode cX2_init 15 = .ok (.newarray .int, 2) := by decide +kernel
theorem dX2_init_17 : decode cX2_init 17 = .ok (.putfield 15, 3) := by decide +kernel
theorem dX2_init_20 : decode cX2_init 20 = .ok (.aload_n 0, 1) := by decide +kernel
theorem dX2_init_21 : decode cX2_init 21 = .ok (.bipush 8, 2) := by decide +kernel
theorem dX2_init_23 : decode cX2_init 23 = .ok (.newarray .int, 2) := by decide +kernel
theorem dX2_init_25 : decode cX2_init 25 = .ok (.putfield 18, 3) := by decide +kernel
theorem dX2_init_28 : decode cX2_init 28 = .ok (.return_, 1) := by decide +kernel
theorem dX2_tell_0 : decode cX2_tell 0 = .ok (.iconst (-1), 1) := by decide +kernel
theorem dX2_tell_1 : decode cX2_tell 1 = .ok (.istore 4, 2) := by decide +kernel
theorem dX2_tell_3 : decode cX2_tell 3 = .ok (.iconst (-1), 1) := by decide +kernel
theorem dX2_tell_4 : decode cX2_tell 4 = .ok (.istore 5, 2) := by decide +kernel
theorem dX2_tell_6 : decode cX2_tell 6 = .ok (.iconst 0, 1) := by decide +kernel
theorem dX2_tell_7 : decode cX2_tell 7 = .ok (.istore 6, 2) := by decide +kernel
theorem dX2_tell_9 : decode cX2_tell 9 = .ok (.iconst 0, 1) := by decide +kernel
theorem dX2_tell_10 : decode cX2_tell 10 = .ok (.istore 7, 2) := by decide +kernel
theorem dX2_tell_12 : decode cX2_tell 12 = .ok (.iload 7, 2) := by decide +kernel
theorem dX2_tell_14 : decode cX2_tell 14 = .ok (.aload_n 1, 1) := by decide +kernel
theorem dX2_tell_15 : decode cX2_tell 15 = .ok (.getfield 21, 3) := by decide +kernel
theorem dX2_tell_18 : decode cX2_tell 18 = .ok (.if_icmp .ge 65, 3) := by decide +kernel
theorem dX2_tell_21 : decode cX2_tell 21 = .ok (.iconst 0, 1) := by decide +kernel
theorem dX2_tell_22 : decode cX2_tell 22 = .ok (.istore 8, 2) := by decide +kernel
theorem dX2_tell_24 : decode cX2_tell 24 = .ok (.iload 8, 2) := by decide +kernel
theorem dX2_tell_26 : decode cX2_tell 26 = .ok (.aload_n 1, 1) := by decide +kernel
theorem dX2_tell_27 : decode cX2_tell 27 = .ok (.getfield 27, 3) := by decide +kernel
theorem dX2_tell_30 : decode cX2_tell 30 = .ok (.if_icmp .ge 47, 3) := by decide +kernel
theorem dX2_tell_33 : decode cX2_tell 33 = .ok (.aload_n 1, 1) := by decide +kernel
theorem dX2_tell_34 : decode cX2_tell 34 = .ok (.iload_n 2, 1) := by decide +kernel
theorem dX2_tell_35 : decode cX2_tell 35 = .ok (.iload 8, 2) := by decide +kernel
theorem dX2_tell_37 : decode cX2_tell 37 = .ok (.iload 7, 2) := by decide +kernel
theorem dX2_tell_39 : decode cX2_tell 39 = .ok (.invokevirtual 30, 3) := by decide +kernel
theorem dX2_tell_42 : decode cX2_tell 42 = .ok (.ifCond .eq 29, 3) := by decide +kernel
theorem dX2_tell_45 : decode cX2_tell 45 = .ok (.iload 8, 2) := by decide +kernel
theorem dX2_tell_47 : decode cX2_tell 47 = .ok (.iload 7, 2) := by decide +kernel
theorem dX2_tell_49 : decode cX2_tell 49 = .ok (.invokestatic 34, 3) := by decide +kernel
theorem dX2_tell_52 : decode cX2_tell 52 = .ok (.istore 5, 2) := by decide +kernel
theorem dX2_tell_54 : decode cX2_tell 54 = .ok (.iload 6, 2) := by decide +kernel
theorem dX2_tell_56 : decode cX2_tell 56 = .ok (.ifCond .ne 8, 3) := by decide +kernel
theorem dX2_tell_59 : decode cX2_tell 59 = .ok (.iload 5, 2) := by decide +kernel
theorem dX2_tell_61 : decode cX2_tell 61 = .ok (.goto 5, 3) := by decide +kernel
theorem dX2_tell_64 : decode cX2_tell 64 = .ok (.iload 4, 2) := by decide +kernel
theorem dX2_tell_66 : decode cX2_tell 66 = .ok (.istore 4, 2) := by decide +kernel
theorem dX2_tell_68 : decode cX2_tell 68 = .ok (.iinc 6 1, 3) := by decide +kernel
theorem dX2_tell_71 : decode cX2_tell 71 = .ok (.iinc 8 1, 3) := by decide +kernel
theorem dX2_tell_74 : decode cX2_tell 74 = .ok (.goto (-50), 3) := by decide +kernel
theorem dX2_tell_77 : decode cX2_tell 77 = .ok (.iinc 7 1, 3) := by decide +kernel
theorem dX2_tell_80 : decode cX2_tell 80 = .ok (.goto (-68), 3) := by decide +kernel
theorem dX2_tell_83 : decode cX2_tell 83 = .ok (.iload_n 3, 1) := by decide +kernel
theorem dX2_tell_84 : decode cX2_tell 84 = .ok (.iconst 3, 1) := by decide +kernel
theorem dX2_tell_85 : decode cX2_tell 85 = .ok (.if_icmp .ne 6, 3) := by decide +kernel
theorem dX2_tell_88 : decode cX2_tell 88 = .ok (.iload 6, 2) := by decide +kernel
theorem dX2_tell_90 : decode cX2_tell 90 = .ok (.ireturn, 1) := by decide +kernel
theorem dX2_tell_91 : decode cX2_tell 91 = .ok (.iload_n 3, 1) := by decide +kernel
theorem dX2_tell_92 : decode cX2_tell 92 = .ok (.iconst 2, 1) := by decide +kernel
theorem dX2_tell_93 : decode cX2_tell 93 = .ok (.if_icmp .ne 8, 3) := by decide +kernel
theorem dX2_tell_96 : decode cX2_tell 96 = .ok (.iload 5, 2) := by decide +kernel
theorem dX2_tell_98 : decode cX2_tell 98 = .ok (.goto 5, 3) := by decide +kernel
theorem dX2_tell_101 : decode cX2_tell 101 = .ok (.iload 4, 2) := by decide +kernel
theorem dX2_tell_103 : decode cX2_tell 103 = .ok (.ireturn, 1) := by decide +kernel
theorem dX2_best_0 : decode cX2_best 0 = .ok (.iconst (-1), 1) := by decide +kernel
theorem dX2_best_1 : decode cX2_best 1 = .ok (.istore 4, 2) := by decide +kernel
theorem dX2_best_3 : decode cX2_best 3 = .ok (.dconst 0, 1) := by decide +kernel
theorem dX2_best_4 : decode cX2_best 4 = .ok (.dstore 5, 2) := by decide +kernel
theorem dX2_best_6 : decode cX2_best 6 = .ok (.aload_n 2, 1) := by decide +kernel
theorem dX2_best_7 : decode cX2_best 7 = .ok (.aload_n 1, 1) := by decide +kernel
theorem dX2_best_8 : decode cX2_best 8 = .ok (.iload_n 3, 1) := by decide +kernel
theorem dX2_best_9 : decode cX2_best 9 = .ok (.invokevirtual 38, 3) := by decide +kernel
theorem dX2_best_12 : decode cX2_best 12 = .ok (.iconst 0, 1) := by decide +kernel
theorem dX2_best_13 : decode cX2_best 13 = .ok (.istore 7, 2) := by decide +kernel
theorem dX2_best_15 : decode cX2_best 15 = .ok (.iload 7, 2) := by decide +kernel
theorem dX2_best_17 : decode cX2_best 17 = .ok (.aload_n 1, 1) := by decide +kernel
theorem dX2_best_18 : decode cX2_best 18 = .ok (.getfield 21, 3) := by decide +kernel
theorem dX2_best_21 : decode cX2_best 21 = .ok (.if_icmp .ge 78, 3) := by decide +kernel
theorem dX2_best_24 : decode cX2_best 24 = .ok (.iconst 0, 1) := by decide +kernel
theorem dX2_best_25 : decode cX2_best 25 = .ok (.istore 8, 2) := by decide +kernel
theorem dX2_best_27 : decode cX2_best 27 = .ok (.iload 8, 2) := by decide +kernel
theorem dX2_best_29 : decode cX2_best 29 = .ok (.aload_n 1, 1) := by decide +kernel
theorem dX2_best_30 : decode cX2_best 30 = .ok (.getfield 27, 3) := by decide +kernel
theorem dX2_best_33 : decode cX2_best 33 = .ok (.if_icmp .ge 60, 3) := by decide +kernel
theorem dX2_best_36 : decode cX2_best 36 = .ok (.aload_n 1, 1) := by decide +kernel
theorem dX2_best_37 : decode cX2_best 37 = .ok (.iload_n 3, 1) := by decide +kernel
theorem dX2_best_38 : decode cX2_best 38 = .ok (.iload 8, 2) := by decide +kernel
theorem dX2_best_40 : decode cX2_best 40 = .ok (.iload 7, 2) := by decide +kernel
theorem dX2_best_42 : decode cX2_best 42 = .ok (.invokevirtual 30, 3) := by decide +kernel
theorem dX2_best_45 : decode cX2_best 45 = .ok (.ifCond .eq 42, 3) := by decide +kernel
theorem dX2_best_48 : decode cX2_best 48 = .ok (.aload_n 2, 1) := by decide +kernel
theorem dX2_best_49 : decode cX2_best 49 = .ok (.aload_n 1, 1) := by decide +kernel
theorem dX2_best_50 : decode cX2_best 50 = .ok (.iload_n 3, 1) := by decide +kernel
theorem dX2_best_51 : decode cX2_best 51 = .ok (.iload 8, 2) := by decide +kernel
theorem dX2_best_53 : decode cX2_best 53 = .ok (.iload 7, 2) := by decide +kernel
theorem dX2_best_55 : decode cX2_best 55 = .ok (.invokevirtual 44, 3) := by decide +kernel
theorem dX2_best_58 : decode cX2_best 58 = .ok (.dstore 9, 2) := by decide +kernel
theorem dX2_best_60 : decode cX2_best 60 = .ok (.iload 4, 2) := by decide +kernel
theorem dX2_best_62 : decode cX2_best 62 = .ok (.iconst (-1), 1) := by decide +kernel
theorem dX2_best_63 : decode cX2_best 63 = .ok (.if_icmp .eq 11, 3) := by decide +kernel
theorem dX2_best_66 : decode cX2_best 66 = .ok (.dload 9, 2) := by decide +kernel
theorem dX2_best_68 : decode cX2_best 68 = .ok (.dload 5, 2) := by decide +kernel
theorem dX2_best_70 : decode cX2_best 70 = .ok (.dcmp .g, 1) := by decide +kernel
theorem dX2_best_71 : decode cX2_best 71 = .ok (.ifCond .ge 16, 3) := by decide +kernel
theorem dX2_best_74 : decode cX2_best 74 = .ok (.iload 8, 2) := by decide +kernel
theorem dX2_best_76 : decode cX2_best 76 = .ok (.iload 7, 2) := by decide +kernel
theorem dX2_best_78 : decode cX2_best 78 = .ok (.invokestatic 34, 3) := by decide +kernel
theorem dX2_best_81 : decode cX2_best 81 = .ok (.istore 4, 2) := by decide +kernel
theorem dX2_best_83 : decode cX2_best 83 = .ok (.dload 9, 2) := by decide +kernel
theorem dX2_best_85 : decode cX2_best 85 = .ok (.dstore 5, 2) := by decide +kernel
theorem dX2_best_87 : decode cX2_best 87 = .ok (.iinc 8 1, 3) := by decide +kernel
theorem dX2_best_90 : decode cX2_best 90 = .ok (.goto (-63), 3) := by decide +kernel
theorem dX2_best_93 : decode cX2_best 93 = .ok (.iinc 7 1, 3) := by decide +kernel
theorem dX2_best_96 : decode cX2_best 96 = .ok (.goto (-81), 3) := by decide +kernel
theorem dX2_best_99 : decode cX2_best 99 = .ok (.iload 4, 2) := by decide +kernel
theorem dX2_best_101 : decode cX2_best 101 = .ok (.ireturn, 1) := by decide +kernel
theorem dX2_first_0 : decode cX2_first 0 = .ok (.iconst 0, 1) := by decide +kernel
theorem dX2_first_1 : decode cX2_first 1 = .ok (.istore_n 3, 1) := by decide +kernel
theorem dX2_first_2 : decode cX2_first 2 = .ok (.iload_n 3, 1) := by decide +kernel
theorem dX2_first_3 : decode cX2_first 3 = .ok (.aload_n 1, 1) := by decide +kernel
theorem dX2_first_4 : decode cX2_first 4 = .ok (.getfield 21, 3) := by decide +kernel
theorem dX2_first_7 : decode cX2_first 7 = .ok (.if_icmp .ge 45, 3) := by decide +kernel
theorem dX2_first_10 : decode cX2_first 10 = .ok (.iconst 0, 1) := by decide +kernel
theorem dX2_first_11 : decode cX2_first 11 = .ok (.istore 4, 2) := by decide +kernel
theorem dX2_first_13 : decode cX2_first 13 = .ok (.iload 4, 2) := by decide +kernel
theorem dX2_first_15 : decode cX2_first 15 = .ok (.aload_n 1, 1) := by decide +kernel
theorem dX2_first_16 : decode cX2_first 16 = .ok (.getfield 27, 3) := by decide +kernel
theorem dX2_first_19 : decode cX2_first 19 = .ok (.if_icmp .ge 27, 3) := by decide +kernel
theorem dX2_first_22 : decode cX2_first 22 = .ok (.aload_n 1, 1) := by decide +kernel
theorem dX2_first_23 : decode cX2_first 23 = .ok (.iload_n 2, 1) := by decide +kernel
theorem dX2_first_24 : decode cX2_first 24 = .ok (.iload 4, 2) := by decide +kernel
theorem dX2_first_26 : decode cX2_first 26 = .ok (.iload_n 3, 1) := by decide +kernel
theorem dX2_first_27 : decode cX2_first 27 = .ok (.invokevirtual 30, 3) := by decide +kernel
theorem dX2_first_30 : decode cX2_first 30 = .ok (.ifCond .eq 10, 3) := by decide +kernel
theorem dX2_first_33 : decode cX2_first 33 = .ok (.iload 4, 2) := by decide +kernel
theorem dX2_first_35 : decode cX2_first 35 = .ok (.iload_n 3, 1) := by decide +kernel
theorem dX2_first_36 : decode cX2_first 36 = .ok (.invokestatic 34, 3) := by decide +kernel
theorem dX2_first_39 : decode cX2_first 39 = .ok (.ireturn, 1) := by decide +kernel
theorem dX2_first_40 : decode cX2_first 40 = .ok (.iinc 4 1, 3) := by decide +kernel
theorem dX2_first_43 : decode cX2_first 43 = .ok (.goto (-30), 3) := by decide +kernel
theorem dX2_first_46 : decode cX2_first 46 = .ok (.iinc 3 1, 3) := by decide +kernel
theorem dX2_first_49 : decode cX2_first 49 = .ok (.goto (-47), 3) := by decide +kernel
theorem dX2_first_52 : decode cX2_first 52 = .ok (.iconst (-1), 1) := by decide +kernel
theorem dX2_first_53 : decode cX2_first 53 = .ok (.ireturn, 1) := by decide +kernel
theorem dX2_nearest_0 : decode cX2_nearest 0 = .ok (.iconst (-1), 1) := by decide +kernel
theorem dX2_nearest_1 : decode cX2_nearest 1 = .ok (.istore 5, 2) := by decide +kernel
theorem dX2_nearest_3 : decode cX2_nearest 3 = .ok (.iconst 0, 1) := by decide +kernel
theorem dX2_nearest_4 : decode cX2_nearest 4 = .ok (.istore 6, 2) := by decide +kernel
theorem dX2_nearest_6 : decode cX2_nearest 6 = .ok (.iconst 0, 1) := by decide +kernel
theorem dX2_nearest_7 : decode cX2_nearest 7 = .ok (.istore 7, 2) := by decide +kernel
theorem dX2_nearest_9 : decode cX2_nearest 9 = .ok (.iload 7, 2) := by decide +kernel
theorem dX2_nearest_11 : decode cX2_nearest 11 = .ok (.aload_n 1, 1) := by decide +kernel
theorem dX2_nearest_12 : decode cX2_nearest 12 = .ok (.getfield 21, 3) := by decide +kernel
theorem dX2_nearest_15 : decode cX2_nearest 15 = .ok (.if_icmp .ge 81, 3) := by decide +kernel
theorem dX2_nearest_18 : decode cX2_nearest 18 = .ok (.iconst 0, 1) := by decide +kernel
theorem dX2_nearest_19 : decode cX2_nearest 19 = .ok (.istore 8, 2) := by decide +kernel
theorem dX2_nearest_21 : decode cX2_nearest 21 = .ok (.iload 8, 2) := by decide +kernel
theorem dX2_nearest_23 : decode cX2_nearest 23 = .ok (.aload_n 1, 1) := by decide +kernel
theorem dX2_nearest_24 : decode cX2_nearest 24 = .ok (.getfield 27, 3) := by decide +kernel
theorem dX2_nearest_27 : decode cX2_nearest 27 = .ok (.if_icmp .ge 63, 3) := by decide +kernel
theorem dX2_nearest_30 : decode cX2_nearest 30 = .ok (.iload 8, 2) := by decide +kernel
theorem dX2_nearest_32 : decode cX2_nearest 32 = .ok (.iload_n 3, 1) := by decide +kernel
theorem dX2_nearest_33 : decode cX2_nearest 33 = .ok (.invokestatic 48, 3) := by decide +kernel
theorem dX2_nearest_36 : decode cX2_nearest 36 = .ok (.iload 7, 2) := by decide +kernel
theorem dX2_nearest_38 : decode cX2_nearest 38 = .ok (.iload 4, 2) := by decide +kernel
theorem dX2_nearest_40 : decode cX2_nearest 40 = .ok (.invokestatic 48, 3) := by decide +kernel
theorem dX2_nearest_43 : decode cX2_nearest 43 = .ok (.iadd, 1) := by decide +kernel
theorem dX2_nearest_44 : decode cX2_nearest 44 = .ok (.istore 9, 2) := by decide +kernel
theorem dX2_nearest_46 : decode cX2_nearest 46 = .ok (.iload 5, 2) := by decide +kernel
theorem dX2_nearest_48 : decode cX2_nearest 48 = .ok (.iconst (-1), 1) := by decide +kernel
theorem dX2_nearest_49 : decode cX2_nearest 49 = .ok (.if_icmp .eq 10, 3) := by decide +kernel
theorem dX2_nearest_52 : decode cX2_nearest 52 = .ok (.iload 9, 2) := by decide +kernel
theorem dX2_nearest_54 : decode cX2_nearest 54 = .ok (.iload 6, 2) := by decide +kernel
theorem dX2_nearest_56 : decode cX2_nearest 56 = .ok (.if_icmp .ge 28, 3) := by decide +kernel
theorem dX2_nearest_59 : decode cX2_nearest 59 = .ok (.aload_n 1, 1) := by decide +kernel
theorem dX2_nearest_60 : decode cX2_nearest 60 = .ok (.iload_n 2, 1) := by decide +kernel
theorem dX2_nearest_61 : decode cX2_nearest 61 = .ok (.iload 8, 2) := by decide +kernel
theorem dX2_nearest_63 : decode cX2_nearest 63 = .ok (.iload 7, 2) := by decide +kernel
theorem dX2_nearest_65 : decode cX2_nearest 65 = .ok (.invokevirtual 30, 3) := by decide +kernel
theorem dX2_nearest_68 : decode cX2_nearest 68 = .ok (.ifCond .eq 16, 3) := by decide +kernel
theorem dX2_nearest_71 : decode cX2_nearest 71 = .ok (.iload 8, 2) := by decide +kernel
theorem dX2_nearest_73 : decode cX2_nearest 73 = .ok (.iload 7, 2) := by decide +kernel
theorem dX2_nearest_75 : decode cX2_nearest 75 = .ok (.invokestatic 34, 3) := by decide +kernel
theorem dX2_nearest_78 : decode cX2_nearest 78 = .ok (.istore 5, 2) := by decide +kernel
theorem dX2_nearest_80 : decode cX2_nearest 80 = .ok (.iload 9, 2) := by decide +kernel
theorem dX2_nearest_82 : decode cX2_nearest 82 = .ok (.istore 6, 2) := by decide +kernel
theorem dX2_nearest_84 : decode cX2_nearest 84 = .ok (.iinc 8 1, 3) := by decide +kernel
theorem dX2_nearest_87 : decode cX2_nearest 87 = .ok (.goto (-66), 3) := by decide +kernel
theorem dX2_nearest_90 : decode cX2_nearest 90 = .ok (.iinc 7 1, 3) := by decide +kernel
theorem dX2_nearest_93 : decode cX2_nearest 93 = .ok (.goto (-84), 3) := by decide +kernel
theorem dX2_nearest_96 : decode cX2_nearest 96 = .ok (.iload 5, 2) := by decide +kernel
theorem dX2_nearest_98 : decode cX2_nearest 98 = .ok (.ireturn, 1) := by decide +kernel
theorem dX2_putAt_0 : decode cX2_putAt 0 = .ok (.iload_n 2, 1) := by decide +kernel
theorem dX2_putAt_1 : decode cX2_putAt 1 = .ok (.iconst (-1), 1) := by decide +kernel
theorem dX2_putAt_2 : decode cX2_putAt 2 = .ok (.if_icmp .eq 16, 3) := by decide +kernel
theorem dX2_putAt_5 : decode cX2_putAt 5 = .ok (.aload_n 0, 1) := by decide +kernel
theorem dX2_putAt_6 : decode cX2_putAt 6 = .ok (.iload_n 1, 1) := by decide +kernel
theorem dX2_putAt_7 : decode cX2_putAt 7 = .ok (.iload_n 2, 1) := by decide +kernel
theorem dX2_putAt_8 : decode cX2_putAt 8 = .ok (.bipush 16, 2) := by decide +kernel
theorem dX2_putAt_10 : decode cX2_putAt 10 = .ok (.irem, 1) := by decide +kernel
theorem dX2_putAt_11 : decode cX2_putAt 11 = .ok (.iload_n 2, 1) := by decide +kernel
theorem dX2_putAt_12 : decode cX2_putAt 12 = .ok (.bipush 16, 2) := by decide +kernel
theorem dX2_putAt_14 : decode cX2_putAt 14 = .ok (.idiv, 1) := by decide +kernel
theorem dX2_putAt_15 : decode cX2_putAt 15 = .ok (.invokevirtual 51, 3) := by decide +kernel
theorem dX2_putAt_18 : decode cX2_putAt 18 = .ok (.return_, 1) := by decide +kernel
theorem dX2_pack_0 : decode cX2_pack 0 = .ok (.iconst 0, 1) := by decide +kernel
theorem dX2_pack_1 : decode cX2_pack 1 = .ok (.istore_n 2, 1) := by decide +kernel
theorem dX2_pack_2 : decode cX2_pack 2 = .ok (.iload_n 2, 1) := by decide +kernel
theorem dX2_pack_3 : decode cX2_pack 3 = .ok (.aload_n 1, 1) := by decide +kernel
theorem dX2_pack_4 : decode cX2_pack 4 = .ok (.getfield 55, 3) := by decide +kernel
theorem dX2_pack_7 : decode cX2_pack 7 = .ok (.if_icmp .ge 16, 3) := by decide +kernel
theorem dX2_pack_10 : decode cX2_pack 10 = .ok (.aload_n 1, 1) := by decide +kernel
theorem dX2_pack_11 : decode cX2_pack 11 = .ok (.iload_n 2, 1) := by decide +kernel
theorem dX2_pack_12 : decode cX2_pack 12 = .ok (.iconst (-1), 1) := by decide +kernel
theorem dX2_pack_13 : decode cX2_pack 13 = .ok (.iconst (-1), 1) := by decide +kernel
theorem dX2_pack_14 : decode cX2_pack 14 = .ok (.invokevirtual 51, 3) := by decide +kernel
theorem dX2_pack_17 : decode cX2_pack 17 = .ok (.iinc 2 1, 3) := by decide +kernel
theorem dX2_pack_20 : decode cX2_pack 20 = .ok (.goto (-18), 3) := by decide +kernel
theorem dX2_pack_23 : decode cX2_pack 23 = .ok (.iconst 1, 1) := by decide +kernel
theorem dX2_pack_24 : decode cX2_pack 24 = .ok (.istore_n 2, 1) := by decide +kernel
theorem dX2_pack_25 : decode cX2_pack 25 = .ok (.iload_n 2, 1) := by decide +kernel
theorem dX2_pack_26 : decode cX2_pack 26 = .ok (.bipush 6, 2) := by decide +kernel
theorem dX2_pack_28 : decode cX2_pack 28 = .ok (.if_icmp .gt 46, 3) := by decide +kernel
theorem dX2_pack_31 : decode cX2_pack 31 = .ok (.iconst 0, 1) := by decide +kernel
theorem dX2_pack_32 : decode cX2_pack 32 = .ok (.istore_n 3, 1) := by decide +kernel
theorem dX2_pack_33 : decode cX2_pack 33 = .ok (.iload_n 3, 1) := by decide +kernel
theorem dX2_pack_34 : decode cX2_pack 34 = .ok (.aload_n 1, 1) := by decide +kernel
theorem dX2_pack_35 : decode cX2_pack 35 = .ok (.getfield 55, 3) := by decide +kernel
theorem dX2_pack_38 : decode cX2_pack 38 = .ok (.if_icmp .ge 30, 3) := by decide +kernel
theorem dX2_pack_41 : decode cX2_pack 41 = .ok (.aload_n 1, 1) := by decide +kernel
theorem dX2_pack_42 : decode cX2_pack 42 = .ok (.iload_n 3, 1) := by decide +kernel
theorem dX2_pack_43 : decode cX2_pack 43 = .ok (.iconst 1, 1) := by decide +kernel
theorem dX2_pack_44 : decode cX2_pack 44 = .ok (.invokevirtual 58, 3) := by decide +kernel
theorem dX2_pack_47 : decode cX2_pack 47 = .ok (.iload_n 2, 1) := by decide +kernel
theorem dX2_pack_48 : decode cX2_pack 48 = .ok (.if_icmp .ne 14, 3) := by decide +kernel
theorem dX2_pack_51 : decode cX2_pack 51 = .ok (.aload_n 1, 1) := by decide +kernel
theorem dX2_pack_52 : decode cX2_pack 52 = .ok (.iload_n 3, 1) := by decide +kernel
theorem dX2_pack_53 : decode cX2_pack 53 = .ok (.aload_n 0, 1) := by decide +kernel
theorem dX2_pack_54 : decode cX2_pack 54 = .ok (.aload_n 1, 1) := by decide +kernel
theorem dX2_pack_55 : decode cX2_pack 55 = .ok (.iload_n 3, 1) := by decide +kernel
theorem dX2_pack_56 : decode cX2_pack 56 = .ok (.invokevirtual 61, 3) := by decide +kernel
theorem dX2_pack_59 : decode cX2_pack 59 = .ok (.invokestatic 65, 3) := by decide +kernel
theorem dX2_pack_62 : decode cX2_pack 62 = .ok (.iinc 3 1, 3) := by decide +kernel
theorem dX2_pack_65 : decode cX2_pack 65 = .ok (.goto (-32), 3) := by decide +kernel
theorem dX2_pack_68 : decode cX2_pack 68 = .ok (.iinc 2 1, 3) := by decide +kernel
theorem dX2_pack_71 : decode cX2_pack 71 = .ok (.goto (-46), 3) := by decide +kernel
theorem dX2_pack_74 : decode cX2_pack 74 = .ok (.aload_n 1, 1) := by decide +kernel
theorem dX2_pack_75 : decode cX2_pack 75 = .ok (.invokevirtual 69, 3) := by decide +kernel
theorem dX2_pack_78 : decode cX2_pack 78 = .ok (.ireturn, 1) := by decide +kernel
theorem dX2_tidy_0 : decode cX2_tidy 0 = .ok (.aload_n 0, 1) := by decide +kernel
theorem dX2_tidy_1 : decode cX2_tidy 1 = .ok (.aload_n 1, 1) := by decide +kernel
theorem dX2_tidy_2 : decode cX2_tidy 2 = .ok (.invokevirtual 73, 3) := by decide +kernel
theorem dX2_tidy_5 : decode cX2_tidy 5 = .ok (.istore_n 2, 1) := by decide +kernel
theorem dX2_tidy_6 : decode cX2_tidy 6 = .ok (.aload_n 1, 1) := by decide +kernel
theorem dX2_tidy_7 : decode cX2_tidy 7 = .ok (.invokevirtual 77, 3) := by decide +kernel
theorem dX2_tidy_10 : decode cX2_tidy 10 = .ok (.iload_n 2, 1) := by decide +kernel
theorem dX2_tidy_11 : decode cX2_tidy 11 = .ok (.iconst (-1), 1) := by decide +kernel
theorem dX2_tidy_12 : decode cX2_tidy 12 = .ok (.ixor, 1) := by decide +kernel
theorem dX2_tidy_13 : decode cX2_tidy 13 = .ok (.iand, 1) := by decide +kernel
theorem dX2_tidy_14 : decode cX2_tidy 14 = .ok (.istore_n 3, 1) := by decide +kernel
theorem dX2_tidy_15 : decode cX2_tidy 15 = .ok (.aload_n 0, 1) := by decide +kernel
theorem dX2_tidy_16 : decode cX2_tidy 16 = .ok (.aload_n 1, 1) := by decide +kernel
theorem dX2_tidy_17 : decode cX2_tidy 17 = .ok (.iload_n 3, 1) := by decide +kernel
theorem dX2_tidy_18 : decode cX2_tidy 18 = .ok (.invokevirtual 80, 3) := by decide +kernel
theorem dX2_tidy_21 : decode cX2_tidy 21 = .ok (.iconst 1, 1) := by decide +kernel
theorem dX2_tidy_22 : decode cX2_tidy 22 = .ok (.istore 4, 2) := by decide +kernel
theorem dX2_tidy_24 : decode cX2_tidy 24 = .ok (.iload 4, 2) := by decide +kernel
theorem dX2_tidy_26 : decode cX2_tidy 26 = .ok (.bipush 6, 2) := by decide +kernel
theorem dX2_tidy_28 : decode cX2_tidy 28 = .ok (.if_icmp .gt 74, 3) := by decide +kernel
theorem dX2_tidy_31 : decode cX2_tidy 31 = .ok (.iconst 0, 1) := by decide +kernel
theorem dX2_tidy_32 : decode cX2_tidy 32 = .ok (.istore 5, 2) := by decide +kernel
theorem dX2_tidy_34 : decode cX2_tidy 34 = .ok (.iload 5, 2) := by decide +kernel
theorem dX2_tidy_36 : decode cX2_tidy 36 = .ok (.bipush 8, 2) := by decide +kernel
theorem dX2_tidy_38 : decode cX2_tidy 38 = .ok (.if_icmp .ge 58, 3) := by decide +kernel
theorem dX2_tidy_41 : decode cX2_tidy 41 = .ok (.iload_n 3, 1) := by decide +kernel
theorem dX2_tidy_42 : decode cX2_tidy 42 = .ok (.iload 5, 2) := by decide +kernel
theorem dX2_tidy_44 : decode cX2_tidy 44 = .ok (.ishr, 1) := by decide +kernel
theorem dX2_tidy_45 : decode cX2_tidy 45 = .ok (.iconst 1, 1) := by decide +kernel
theorem dX2_tidy_46 : decode cX2_tidy 46 = .ok (.iand, 1) := by decide +kernel
theorem dX2_tidy_47 : decode cX2_tidy 47 = .ok (.iconst 1, 1) := by decide +kernel
theorem dX2_tidy_48 : decode cX2_tidy 48 = .ok (.if_icmp .ne 42, 3) := by decide +kernel
theorem dX2_tidy_51 : decode cX2_tidy 51 = .ok (.aload_n 1, 1) := by decide +kernel
theorem dX2_tidy_52 : decode cX2_tidy 52 = .ok (.iload 5, 2) := by decide +kernel
theorem dX2_tidy_54 : decode cX2_tidy 54 = .ok (.iconst 1, 1) := by decide +kernel
theorem dX2_tidy_55 : decode cX2_tidy 55 = .ok (.invokevirtual 58, 3) := by decide +kernel
theorem dX2_tidy_58 : decode cX2_tidy 58 = .ok (.iload 4, 2) := by decide +kernel
theorem dX2_tidy_60 : decode cX2_tidy 60 = .ok (.if_icmp .ne 30, 3) := by decide +kernel
theorem dX2_tidy_63 : decode cX2_tidy 63 = .ok (.aload_n 1, 1) := by decide +kernel
theorem dX2_tidy_64 : decode cX2_tidy 64 = .ok (.iload 5, 2) := by decide +kernel
theorem dX2_tidy_66 : decode cX2_tidy 66 = .ok (.aload_n 0, 1) := by decide +kernel
theorem dX2_tidy_67 : decode cX2_tidy 67 = .ok (.aload_n 1, 1) := by decide +kernel
theorem dX2_tidy_68 : decode cX2_tidy 68 = .ok (.iload 5, 2) := by decide +kernel
theorem dX2_tidy_70 : decode cX2_tidy 70 = .ok (.aload_n 0, 1) := by decide +kernel
theorem dX2_tidy_71 : decode cX2_tidy 71 = .ok (.getfield 15, 3) := by decide +kernel
theorem dX2_tidy_74 : decode cX2_tidy 74 = .ok (.iload 5, 2) := by decide +kernel
theorem dX2_tidy_76 : decode cX2_tidy 76 = .ok (.iaload, 1) := by decide +kernel
theorem dX2_tidy_77 : decode cX2_tidy 77 = .ok (.aload_n 0, 1) := by decide +kernel
theorem dX2_tidy_78 : decode cX2_tidy 78 = .ok (.getfield 18, 3) := by decide +kernel
theorem dX2_tidy_81 : decode cX2_tidy 81 = .ok (.iload 5, 2) := by decide +kernel
theorem dX2_tidy_83 : decode cX2_tidy 83 = .ok (.iaload, 1) := by decide +kernel
theorem dX2_tidy_84 : decode cX2_tidy 84 = .ok (.invokevirtual 83, 3) := by decide +kernel
theorem dX2_tidy_87 : decode cX2_tidy 87 = .ok (.invokestatic 65, 3) := by decide +kernel
theorem dX2_tidy_90 : decode cX2_tidy 90 = .ok (.iinc 5 1, 3) := by decide +kernel
theorem dX2_tidy_93 : decode cX2_tidy 93 = .ok (.goto (-59), 3) := by decide +kernel
theorem dX2_tidy_96 : decode cX2_tidy 96 = .ok (.iinc 4 1, 3) := by decide +kernel
theorem dX2_tidy_99 : decode cX2_tidy 99 = .ok (.goto (-75), 3) := by decide +kernel
theorem dX2_tidy_102 : decode cX2_tidy 102 = .ok (.iload_n 2, 1) := by decide +kernel
theorem dX2_tidy_103 : decode cX2_tidy 103 = .ok (.invokestatic 87, 3) := by decide +kernel
theorem dX2_tidy_106 : decode cX2_tidy 106 = .ok (.ireturn, 1) := by decide +kernel
theorem dX2_takeOffAll_0 : decode cX2_takeOffAll 0 = .ok (.iconst 0, 1) := by decide +kernel
theorem dX2_takeOffAll_1 : decode cX2_takeOffAll 1 = .ok (.istore_n 3, 1) := by decide +kernel
theorem dX2_takeOffAll_2 : decode cX2_takeOffAll 2 = .ok (.iload_n 3, 1) := by decide +kernel
theorem dX2_takeOffAll_3 : decode cX2_takeOffAll 3 = .ok (.bipush 8, 2) := by decide +kernel
theorem dX2_takeOffAll_5 : decode cX2_takeOffAll 5 = .ok (.if_icmp .ge 47, 3) := by decide +kernel
theorem dX2_takeOffAll_8 : decode cX2_takeOffAll 8 = .ok (.aload_n 0, 1) := by decide +kernel
theorem dX2_takeOffAll_9 : decode cX2_takeOffAll 9 = .ok (.getfield 15, 3) := by decide +kernel
theorem dX2_takeOffAll_12 : decode cX2_takeOffAll 12 = .ok (.iload_n 3, 1) := by decide +kernel
theorem dX2_takeOffAll_13 : decode cX2_takeOffAll 13 = .ok (.aload_n 1, 1) := by decide +kernel
theorem dX2_takeOffAll_14 : decode cX2_takeOffAll 14 = .ok (.iload_n 3, 1) := by decide +kernel
theorem dX2_takeOffAll_15 : decode cX2_takeOffAll 15 = .ok (.invokevirtual 93, 3) := by decide +kernel
theorem dX2_takeOffAll_18 : decode cX2_takeOffAll 18 = .ok (.iastore, 1) := by decide +kernel
theorem dX2_takeOffAll_19 : decode cX2_takeOffAll 19 = .ok (.aload_n 0, 1) := by decide +kernel
theorem dX2_takeOffAll_20 : decode cX2_takeOffAll 20 = .ok (.getfield 18, 3) := by decide +kernel
theorem dX2_takeOffAll_23 : decode cX2_takeOffAll 23 = .ok (.iload_n 3, 1) := by decide +kernel
theorem dX2_takeOffAll_24 : decode cX2_takeOffAll 24 = .ok (.aload_n 1, 1) := by decide +kernel
theorem dX2_takeOffAll_25 : decode cX2_takeOffAll 25 = .ok (.iload_n 3, 1) := by decide +kernel
theorem dX2_takeOffAll_26 : decode cX2_takeOffAll 26 = .ok (.invokevirtual 96, 3) := by decide +kernel
theorem dX2_takeOffAll_29 : decode cX2_takeOffAll 29 = .ok (.iastore, 1) := by decide +kernel
theorem dX2_takeOffAll_30 : decode cX2_takeOffAll 30 = .ok (.iload_n 2, 1) := by decide +kernel
theorem dX2_takeOffAll_31 : decode cX2_takeOffAll 31 = .ok (.iload_n 3, 1) := by decide +kernel
theorem dX2_takeOffAll_32 : decode cX2_takeOffAll 32 = .ok (.ishr, 1) := by decide +kernel
theorem dX2_takeOffAll_33 : decode cX2_takeOffAll 33 = .ok (.iconst 1, 1) := by decide +kernel
theorem dX2_takeOffAll_34 : decode cX2_takeOffAll 34 = .ok (.iand, 1) := by decide +kernel
theorem dX2_takeOffAll_35 : decode cX2_takeOffAll 35 = .ok (.iconst 1, 1) := by decide +kernel
theorem dX2_takeOffAll_36 : decode cX2_takeOffAll 36 = .ok (.if_icmp .ne 10, 3) := by decide +kernel
theorem dX2_takeOffAll_39 : decode cX2_takeOffAll 39 = .ok (.aload_n 1, 1) := by decide +kernel
theorem dX2_takeOffAll_40 : decode cX2_takeOffAll 40 = .ok (.iload_n 3, 1) := by decide +kernel
theorem dX2_takeOffAll_41 : decode cX2_takeOffAll 41 = .ok (.iconst (-1), 1) := by decide +kernel
theorem dX2_takeOffAll_42 : decode cX2_takeOffAll 42 = .ok (.iconst (-1), 1) := by decide +kernel
theorem dX2_takeOffAll_43 : decode cX2_takeOffAll 43 = .ok (.invokevirtual 51, 3) := by decide +kernel
theorem dX2_takeOffAll_46 : decode cX2_takeOffAll 46 = .ok (.iinc 3 1, 3) := by decide +kernel
theorem dX2_takeOffAll_49 : decode cX2_takeOffAll 49 = .ok (.goto (-47), 3) := by decide +kernel
theorem dX2_takeOffAll_52 : decode cX2_takeOffAll 52 = .ok (.return_, 1) := by decide +kernel
theorem dX2_staying_0 : decode cX2_staying 0 = .ok (.aload_n 0, 1) := by decide +kernel
theorem dX2_staying_1 : decode cX2_staying 1 = .ok (.aload_n 1, 1) := by decide +kernel
theorem dX2_staying_2 : decode cX2_staying 2 = .ok (.invokevirtual 99, 3) := by decide +kernel
theorem dX2_staying_5 : decode cX2_staying 5 = .ok (.istore_n 2, 1) := by decide +kernel
theorem dX2_staying_6 : decode cX2_staying 6 = .ok (.iconst 0, 1) := by decide +kernel
theorem dX2_staying_7 : decode cX2_staying 7 = .ok (.istore_n 3, 1) := by decide +kernel
theorem dX2_staying_8 : decode cX2_staying 8 = .ok (.iconst 0, 1) := by decide +kernel
theorem dX2_staying_9 : decode cX2_staying 9 = .ok (.istore 4, 2) := by decide +kernel
theorem dX2_staying_11 : decode cX2_staying 11 = .ok (.iconst 1, 1) := by decide +kernel
theorem dX2_staying_12 : decode cX2_staying 12 = .ok (.istore 5, 2) := by decide +kernel
theorem dX2_staying_14 : decode cX2_staying 14 = .ok (.iload 5, 2) := by decide +kernel
theorem dX2_staying_16 : decode cX2_staying 16 = .ok (.sipush 256, 3) := by decide +kernel
theorem dX2_staying_19 : decode cX2_staying 19 = .ok (.if_icmp .ge 80, 3) := by decide +kernel
theorem dX2_staying_22 : decode cX2_staying 22 = .ok (.iload 5, 2) := by decide +kernel
theorem dX2_staying_24 : decode cX2_staying 24 = .ok (.iload_n 2, 1) := by decide +kernel
theorem dX2_staying_25 : decode cX2_staying 25 = .ok (.iconst (-1), 1) := by decide +kernel
theorem dX2_staying_26 : decode cX2_staying 26 = .ok (.ixor, 1) := by decide +kernel
theorem dX2_staying_27 : decode cX2_staying 27 = .ok (.iand, 1) := by decide +kernel
theorem dX2_staying_28 : decode cX2_staying 28 = .ok (.ifCond .ne 65, 3) := by decide +kernel
theorem dX2_staying_31 : decode cX2_staying 31 = .ok (.aload_n 0, 1) := by decide +kernel
theorem dX2_staying_32 : decode cX2_staying 32 = .ok (.iload 5, 2) := by decide +kernel
theorem dX2_staying_34 : decode cX2_staying 34 = .ok (.invokevirtual 102, 3) := by decide +kernel
theorem dX2_staying_37 : decode cX2_staying 37 = .ok (.ifCond .eq 56, 3) := by decide +kernel
theorem dX2_staying_40 : decode cX2_staying 40 = .ok (.aload_n 1, 1) := by decide +kernel
theorem dX2_staying_41 : decode cX2_staying 41 = .ok (.iload 5, 2) := by decide +kernel
theorem dX2_staying_43 : decode cX2_staying 43 = .ok (.invokestatic 106, 3) := by decide +kernel
theorem dX2_staying_46 : decode cX2_staying 46 = .ok (.istore 6, 2) := by decide +kernel
theorem dX2_staying_48 : decode cX2_staying 48 = .ok (.iload 5, 2) := by decide +kernel
theorem dX2_staying_50 : decode cX2_staying 50 = .ok (.invokestatic 87, 3) := by decide +kernel
theorem dX2_staying_53 : decode cX2_staying 53 = .ok (.iload_n 3, 1) := by decide +kernel
theorem dX2_staying_54 : decode cX2_staying 54 = .ok (.invokestatic 87, 3) := by decide +kernel
theorem dX2_staying_57 : decode cX2_staying 57 = .ok (.if_icmp .le 7, 3) := by decide +kernel
theorem dX2_staying_60 : decode cX2_staying 60 = .ok (.iconst 1, 1) := by decide +kernel
theorem dX2_staying_61 : decode cX2_staying 61 = .ok (.goto 4, 3) := by decide +kernel
theorem dX2_staying_64 : decode cX2_staying 64 = .ok (.iconst 0, 1) := by decide +kernel
theorem dX2_staying_65 : decode cX2_staying 65 = .ok (.istore 7, 2) := by decide +kernel
theorem dX2_staying_67 : decode cX2_staying 67 = .ok (.iload 6, 2) := by decide +kernel
theorem dX2_staying_69 : decode cX2_staying 69 = .ok (.iload 4, 2) := by decide +kernel
theorem dX2_staying_71 : decode cX2_staying 71 = .ok (.if_icmp .gt 15, 3) := by decide +kernel
theorem dX2_staying_74 : decode cX2_staying 74 = .ok (.iload 6, 2) := by decide +kernel
theorem dX2_staying_76 : decode cX2_staying 76 = .ok (.iload 4, 2) := by decide +kernel
theorem dX2_staying_78 : decode cX2_staying 78 = .ok (.if_icmp .ne 15, 3) := by decide +kernel
theorem dX2_staying_81 : decode cX2_staying 81 = .ok (.iload 7, 2) := by decide +kernel
theorem dX2_staying_83 : decode cX2_staying 83 = .ok (.ifCond .eq 10, 3) := by decide +kernel
theorem dX2_staying_86 : decode cX2_staying 86 = .ok (.iload 5, 2) := by decide +kernel
theorem dX2_staying_88 : decode cX2_staying 88 = .ok (.istore_n 3, 1) := by decide +kernel
theorem dX2_staying_89 : decode cX2_staying 89 = .ok (.iload 6, 2) := by decide +kernel
theorem dX2_staying_91 : decode cX2_staying 91 = .ok (.istore 4, 2) := by decide +kernel
theorem dX2_staying_93 : decode cX2_staying 93 = .ok (.iinc 5 1, 3) := by decide +kernel
theorem dX2_staying_96 : decode cX2_staying 96 = .ok (.goto (-82), 3) := by decide +kernel
theorem dX2_staying_99 : decode cX2_staying 99 = .ok (.iload_n 3, 1) := by decide +kernel
theorem dX2_staying_100 : decode cX2_staying 100 = .ok (.ireturn, 1) := by decide +kernel
theorem dX2_findClashes_0 : decode cX2_findClashes 0 = .ok (.iconst 0, 1) := by decide +kernel
theorem dX2_findClashes_1 : decode cX2_findClashes 1 = .ok (.istore_n 2, 1) := by decide +kernel
theorem dX2_findClashes_2 : decode cX2_findClashes 2 = .ok (.iconst 0, 1) := by decide +kernel
theorem dX2_findClashes_3 : decode cX2_findClashes 3 = .ok (.istore_n 3, 1) := by decide +kernel
theorem dX2_findClashes_4 : decode cX2_findClashes 4 = .ok (.iload_n 3, 1) := by decide +kernel
theorem dX2_findClashes_5 : decode cX2_findClashes 5 = .ok (.bipush 8, 2) := by decide +kernel
theorem dX2_findClashes_7 : decode cX2_findClashes 7 = .ok (.if_icmp .ge 103, 3) := by decide +kernel
theorem dX2_findClashes_10 : decode cX2_findClashes 10 = .ok (.aload_n 0, 1) := by decide +kernel
theorem dX2_findClashes_11 : decode cX2_findClashes 11 = .ok (.getfield 9, 3) := by decide +kernel
theorem dX2_findClashes_14 : decode cX2_findClashes 14 = .ok (.iload_n 3, 1) := by decide +kernel
theorem dX2_findClashes_15 : decode cX2_findClashes 15 = .ok (.iconst 0, 1) := by decide +kernel
theorem dX2_findClashes_16 : decode cX2_findClashes 16 = .ok (.iastore, 1) := by decide +kernel
theorem dX2_findClashes_17 : decode cX2_findClashes 17 = .ok (.aload_n 1, 1) := by decide +kernel
theorem dX2_findClashes_18 : decode cX2_findClashes 18 = .ok (.iload_n 3, 1) := by decide +kernel
theorem dX2_findClashes_19 : decode cX2_findClashes 19 = .ok (.invokevirtual 109, 3) := by decide +kernel
theorem dX2_findClashes_22 : decode cX2_findClashes 22 = .ok (.ifCond .eq 27, 3) := by decide +kernel
theorem dX2_findClashes_25 : decode cX2_findClashes 25 = .ok (.aload_n 1, 1) := by decide +kernel
theorem dX2_findClashes_26 : decode cX2_findClashes 26 = .ok (.iload_n 3, 1) := by decide +kernel
theorem dX2_findClashes_27 : decode cX2_findClashes 27 = .ok (.aload_n 1, 1) := by decide +kernel
theorem dX2_findClashes_28 : decode cX2_findClashes 28 = .ok (.iload_n 3, 1) := by decide +kernel
theorem dX2_findClashes_29 : decode cX2_findClashes 29 = .ok (.invokevirtual 93, 3) := by decide +kernel
theorem dX2_findClashes_32 : decode cX2_findClashes 32 = .ok (.aload_n 1, 1) := by decide +kernel
theorem dX2_findClashes_33 : decode cX2_findClashes 33 = .ok (.iload_n 3, 1) := by decide +kernel
theorem dX2_findClashes_34 : decode cX2_findClashes 34 = .ok (.invokevirtual 96, 3) := by decide +kernel
theorem dX2_findClashes_37 : decode cX2_findClashes 37 = .ok (.invokevirtual 112, 3) := by decide +kernel
theorem dX2_findClashes_40 : decode cX2_findClashes 40 = .ok (.ifCond .eq 9, 3) := by decide +kernel
theorem dX2_findClashes_43 : decode cX2_findClashes 43 = .ok (.iload_n 2, 1) := by decide +kernel
theorem dX2_findClashes_44 : decode cX2_findClashes 44 = .ok (.iconst 1, 1) := by decide +kernel
theorem dX2_findClashes_45 : decode cX2_findClashes 45 = .ok (.iload_n 3, 1) := by decide +kernel
theorem dX2_findClashes_46 : decode cX2_findClashes 46 = .ok (.ishl, 1) := by decide +kernel
theorem dX2_findClashes_47 : decode cX2_findClashes 47 = .ok (.ior, 1) := by decide +kernel
theorem dX2_findClashes_48 : decode cX2_findClashes 48 = .ok (.istore_n 2, 1) := by decide +kernel
theorem dX2_findClashes_49 : decode cX2_findClashes 49 = .ok (.iconst 0, 1) := by decide +kernel
theorem dX2_findClashes_50 : decode cX2_findClashes 50 = .ok (.istore 4, 2) := by decide +kernel
theorem dX2_findClashes_52 : decode cX2_findClashes 52 = .ok (.iload 4, 2) := by decide +kernel
theorem dX2_findClashes_54 : decode cX2_findClashes 54 = .ok (.bipush 8, 2) := by decide +kernel
theorem dX2_findClashes_56 : decode cX2_findClashes 56 = .ok (.if_icmp .ge 48, 3) := by decide +kernel
theorem dX2_findClashes_59 : decode cX2_findClashes 59 = .ok (.iload 4, 2) := by decide +kernel
theorem dX2_findClashes_61 : decode cX2_findClashes 61 = .ok (.iload_n 3, 1) := by decide +kernel
theorem dX2_findClashes_62 : decode cX2_findClashes 62 = .ok (.if_icmp .eq 36, 3) := by decide +kernel
theorem dX2_findClashes_65 : decode cX2_findClashes 65 = .ok (.aload_n 1, 1) := by decide +kernel
theorem dX2_findClashes_66 : decode cX2_findClashes 66 = .ok (.iload_n 3, 1) := by decide +kernel
theorem dX2_findClashes_67 : decode cX2_findClashes 67 = .ok (.aload_n 1, 1) := by decide +kernel
theorem dX2_findClashes_68 : decode cX2_findClashes 68 = .ok (.iload_n 3, 1) := by decide +kernel
theorem dX2_findClashes_69 : decode cX2_findClashes 69 = .ok (.invokevirtual 93, 3) := by decide +kernel
theorem dX2_findClashes_72 : decode cX2_findClashes 72 = .ok (.aload_n 1, 1) := by decide +kernel
theorem dX2_findClashes_73 : decode cX2_findClashes 73 = .ok (.iload_n 3, 1) := by decide +kernel
theorem dX2_findClashes_74 : decode cX2_findClashes 74 = .ok (.invokevirtual 96, 3) := by decide +kernel
theorem dX2_findClashes_77 : decode cX2_findClashes 77 = .ok (.iload 4, 2) := by decide +kernel
theorem dX2_findClashes_79 : decode cX2_findClashes 79 = .ok (.invokevirtual 115, 3) := by decide +kernel
theorem dX2_findClashes_82 : decode cX2_findClashes 82 = .ok (.ifCond .ne 16, 3) := by decide +kernel
theorem dX2_findClashes_85 : decode cX2_findClashes 85 = .ok (.aload_n 0, 1) := by decide +kernel
theorem dX2_findClashes_86 : decode cX2_findClashes 86 = .ok (.getfield 9, 3) := by decide +kernel
theorem dX2_findClashes_89 : decode cX2_findClashes 89 = .ok (.iload_n 3, 1) := by decide +kernel
theorem dX2_findClashes_90 : decode cX2_findClashes 90 = .ok (.dup2, 1) := by decide +kernel
theorem dX2_findClashes_91 : decode cX2_findClashes 91 = .ok (.iaload, 1) := by decide +kernel
theorem dX2_findClashes_92 : decode cX2_findClashes 92 = .ok (.iconst 1, 1) := by decide +kernel
theorem dX2_findClashes_93 : decode cX2_findClashes 93 = .ok (.iload 4, 2) := by decide +kernel
theorem dX2_findClashes_95 : decode cX2_findClashes 95 = .ok (.ishl, 1) := by decide +kernel
theorem dX2_findClashes_96 : decode cX2_findClashes 96 = .ok (.ior, 1) := by decide +kernel
theorem dX2_findClashes_97 : decode cX2_findClashes 97 = .ok (.iastore, 1) := by decide +kernel
theorem dX2_findClashes_98 : decode cX2_findClashes 98 = .ok (.iinc 4 1, 3) := by decide +kernel
theorem dX2_findClashes_101 : decode cX2_findClashes 101 = .ok (.goto (-49), 3) := by decide +kernel
theorem dX2_findClashes_104 : decode cX2_findClashes 104 = .ok (.iinc 3 1, 3) := by decide +kernel
theorem dX2_findClashes_107 : decode cX2_findClashes 107 = .ok (.goto (-103), 3) := by decide +kernel
theorem dX2_findClashes_110 : decode cX2_findClashes 110 = .ok (.iload_n 2, 1) := by decide +kernel
theorem dX2_findClashes_111 : decode cX2_findClashes 111 = .ok (.ireturn, 1) := by decide +kernel
theorem dX2_hasNoClash_0 : decode cX2_hasNoClash 0 = .ok (.iconst 0, 1) := by decide +kernel
theorem dX2_hasNoClash_1 : decode cX2_hasNoClash 1 = .ok (.istore_n 2, 1) := by decide +kernel
theorem dX2_hasNoClash_2 : decode cX2_hasNoClash 2 = .ok (.iload_n 2, 1) := by decide +kernel
theorem dX2_hasNoClash_3 : decode cX2_hasNoClash 3 = .ok (.bipush 8, 2) := by decide +kernel
theorem dX2_hasNoClash_5 : decode cX2_hasNoClash 5 = .ok (.if_icmp .ge 31, 3) := by decide +kernel
theorem dX2_hasNoClash_8 : decode cX2_hasNoClash 8 = .ok (.iload_n 1, 1) := by decide +kernel
theorem dX2_hasNoClash_9 : decode cX2_hasNoClash 9 = .ok (.iload_n 2, 1) := by decide +kernel
theorem dX2_hasNoClash_10 : decode cX2_hasNoClash 10 = .ok (.ishr, 1) := by decide +kernel
theorem dX2_hasNoClash_11 : decode cX2_hasNoClash 11 = .ok (.iconst 1, 1) := by decide +kernel
theorem dX2_hasNoClash_12 : decode cX2_hasNoClash 12 = .ok (.iand, 1) := by decide +kernel
theorem dX2_hasNoClash_13 : decode cX2_hasNoClash 13 = .ok (.iconst 1, 1) := by decide +kernel
theorem dX2_hasNoClash_14 : decode cX2_hasNoClash 14 = .ok (.if_icmp .ne 16, 3) := by decide +kernel
theorem dX2_hasNoClash_17 : decode cX2_hasNoClash 17 = .ok (.iload_n 1, 1) := by decide +kernel
theorem dX2_hasNoClash_18 : decode cX2_hasNoClash 18 = .ok (.aload_n 0, 1) := by decide +kernel
theorem dX2_hasNoClash_19 : decode cX2_hasNoClash 19 = .ok (.getfield 9, 3) := by decide +kernel
theorem dX2_hasNoClash_22 : decode cX2_hasNoClash 22 = .ok (.iload_n 2, 1) := by decide +kernel
theorem dX2_hasNoClash_23 : decode cX2_hasNoClash 23 = .ok (.iaload, 1) := by decide +kernel
theorem dX2_hasNoClash_24 : decode cX2_hasNoClash 24 = .ok (.iand, 1) := by decide +kernel
theorem dX2_hasNoClash_25 : decode cX2_hasNoClash 25 = .ok (.ifCond .eq 5, 3) := by decide +kernel
theorem dX2_hasNoClash_28 : decode cX2_hasNoClash 28 = .ok (.iconst 0, 1) := by decide +kernel
theorem dX2_hasNoClash_29 : decode cX2_hasNoClash 29 = .ok (.ireturn, 1) := by decide +kernel
theorem dX2_hasNoClash_30 : decode cX2_hasNoClash 30 = .ok (.iinc 2 1, 3) := by decide +kernel
theorem dX2_hasNoClash_33 : decode cX2_hasNoClash 33 = .ok (.goto (-31), 3) := by decide +kernel
theorem dX2_hasNoClash_36 : decode cX2_hasNoClash 36 = .ok (.iconst 1, 1) := by decide +kernel
theorem dX2_hasNoClash_37 : decode cX2_hasNoClash 37 = .ok (.ireturn, 1) := by decide +kernel
theorem dX2_weightOf_0 : decode cX2_weightOf 0 = .ok (.iconst 0, 1) := by decide +kernel
theorem dX2_weightOf_1 : decode cX2_weightOf 1 = .ok (.istore_n 2, 1) := by decide +kernel
theorem dX2_weightOf_2 : decode cX2_weightOf 2 = .ok (.iconst 0, 1) := by decide +kernel
theorem dX2_weightOf_3 : decode cX2_weightOf 3 = .ok (.istore_n 3, 1) := by decide +kernel
theorem dX2_weightOf_4 : decode cX2_weightOf 4 = .ok (.iload_n 3, 1) := by decide +kernel
theorem dX2_weightOf_5 : decode cX2_weightOf 5 = .ok (.bipush 8, 2) := by decide +kernel
theorem dX2_weightOf_7 : decode cX2_weightOf 7 = .ok (.if_icmp .ge 26, 3) := by decide +kernel
theorem dX2_weightOf_10 : decode cX2_weightOf 10 = .ok (.iload_n 1, 1) := by decide +kernel
theorem dX2_weightOf_11 : decode cX2_weightOf 11 = .ok (.iload_n 3, 1) := by decide +kernel
theorem dX2_weightOf_12 : decode cX2_weightOf 12 = .ok (.ishr, 1) := by decide +kernel
theorem dX2_weightOf_13 : decode cX2_weightOf 13 = .ok (.iconst 1, 1) := by decide +kernel
theorem dX2_weightOf_14 : decode cX2_weightOf 14 = .ok (.iand, 1) := by decide +kernel
theorem dX2_weightOf_15 : decode cX2_weightOf 15 = .ok (.iconst 1, 1) := by decide +kernel
theorem dX2_weightOf_16 : decode cX2_weightOf 16 = .ok (.if_icmp .ne 11, 3) := by decide +kernel
theorem dX2_weightOf_19 : decode cX2_weightOf 19 = .ok (.iload_n 2, 1) := by decide +kernel
theorem dX2_weightOf_20 : decode cX2_weightOf 20 = .ok (.aload_n 0, 1) := by decide +kernel
theorem dX2_weightOf_21 : decode cX2_weightOf 21 = .ok (.iload_n 3, 1) := by decide +kernel
theorem dX2_weightOf_22 : decode cX2_weightOf 22 = .ok (.invokevirtual 119, 3) := by decide +kernel
theorem dX2_weightOf_25 : decode cX2_weightOf 25 = .ok (.iadd, 1) := by decide +kernel
theorem dX2_weightOf_26 : decode cX2_weightOf 26 = .ok (.istore_n 2, 1) := by decide +kernel
theorem dX2_weightOf_27 : decode cX2_weightOf 27 = .ok (.iinc 3 1, 3) := by decide +kernel
theorem dX2_weightOf_30 : decode cX2_weightOf 30 = .ok (.goto (-26), 3) := by decide +kernel
theorem dX2_weightOf_33 : decode cX2_weightOf 33 = .ok (.iload_n 2, 1) := by decide +kernel
theorem dX2_weightOf_34 : decode cX2_weightOf 34 = .ok (.ireturn, 1) := by decide +kernel
theorem dX3_init_0 : decode cX3_init 0 = .ok (.aload_n 0, 1) := by decide +kernel
theorem dX3_init_1 : decode cX3_init 1 = .ok (.invokespecial 1, 3) := by decide +kernel
theorem dX3_init_4 : decode cX3_init 4 = .ok (.return_, 1) := by decide +kernel
theorem dX3_weighAll_0 : decode cX3_weighAll 0 = .ok (.aload_n 0, 1) := by decide +kernel
theorem dX3_weighAll_1 : decode cX3_weighAll 1 = .ok (.dconst 0, 1) := by decide +kernel
theorem dX3_weighAll_2 : decode cX3_weighAll 2 = .ok (.putfield 7, 3) := by decide +kernel
theorem dX3_weighAll_5 : decode cX3_weighAll 5 = .ok (.aload_n 0, 1) := by decide +kernel
theorem dX3_weighAll_6 : decode cX3_weighAll 6 = .ok (.dconst 0, 1) := by decide +kernel
theorem dX3_weighAll_7 : decode cX3_weighAll 7 = .ok (.putfield 13, 3) := by decide +kernel
theorem dX3_weighAll_10 : decode cX3_weighAll 10 = .ok (.aload_n 0, 1) := by decide +kernel
theorem dX3_weighAll_11 : decode cX3_weighAll 11 = .ok (.dconst 0, 1) := by decide +kernel
theorem dX3_weighAll_12 : decode cX3_weighAll 12 = .ok (.putfield 16, 3) := by decide +kernel
theorem dX3_weighAll_15 : decode cX3_weighAll 15 = .ok (.iconst 0, 1) := by decide +kernel
theorem dX3_weighAll_16 : decode cX3_weighAll 16 = .ok (.istore_n 3, 1) := by decide +kernel
theorem dX3_weighAll_17 : decode cX3_weighAll 17 = .ok (.iload_n 3, 1) := by decide +kernel
theorem dX3_weighAll_18 : decode cX3_weighAll 18 = .ok (.aload_n 1, 1) := by decide +kernel
theorem dX3_weighAll_19 : decode cX3_weighAll 19 = .ok (.getfield 19, 3) := by decide +kernel
theorem dX3_weighAll_22 : decode cX3_weighAll 22 = .ok (.if_icmp .ge 38, 3) := by decide +kernel
theorem dX3_weighAll_25 : decode cX3_weighAll 25 = .ok (.iload_n 3, 1) := by decide +kernel
theorem dX3_weighAll_26 : decode cX3_weighAll 26 = .ok (.iload_n 2, 1) := by decide +kernel
theorem dX3_weighAll_27 : decode cX3_weighAll 27 = .ok (.if_icmp .eq 27, 3) := by decide +kernel
theorem dX3_weighAll_30 : decode cX3_weighAll 30 = .ok (.aload_n 1, 1) := by decide +kernel
theorem dX3_weighAll_31 : decode cX3_weighAll 31 = .ok (.iload_n 3, 1) := by decide +kernel
theorem dX3_weighAll_32 : decode cX3_weighAll 32 = .ok (.invokevirtual 25, 3) := by decide +kernel
theorem dX3_weighAll_35 : decode cX3_weighAll 35 = .ok (.ifCond .eq 19, 3) := by decide +kernel
theorem dX3_weighAll_38 : decode cX3_weighAll 38 = .ok (.aload_n 0, 1) := by decide +kernel
theorem dX3_weighAll_39 : decode cX3_weighAll 39 = .ok (.aload_n 1, 1) := by decide +kernel
theorem dX3_weighAll_40 : decode cX3_weighAll 40 = .ok (.iload_n 3, 1) := by decide +kernel
theorem dX3_weighAll_41 : decode cX3_weighAll 41 = .ok (.aload_n 1, 1) := by decide +kernel
theorem dX3_weighAll_42 : decode cX3_weighAll 42 = .ok (.iload_n 3, 1) := by decide +kernel
theorem dX3_weighAll_43 : decode cX3_weighAll 43 = .ok (.invokevirtual 29, 3) := by decide +kernel
theorem dX3_weighAll_46 : decode cX3_weighAll 46 = .ok (.aload_n 1, 1) := by decide +kernel
theorem dX3_weighAll_47 : decode cX3_weighAll 47 = .ok (.iload_n 3, 1) := by decide +kernel
theorem dX3_weighAll_48 : decode cX3_weighAll 48 = .ok (.invokevirtual 33, 3) := by decide +kernel
theorem dX3_weighAll_51 : decode cX3_weighAll 51 = .ok (.invokevirtual 36, 3) := by decide +kernel
theorem dX3_weighAll_54 : decode cX3_weighAll 54 = .ok (.iinc 3 1, 3) := by decide +kernel
theorem dX3_weighAll_57 : decode cX3_weighAll 57 = .ok (.goto (-40), 3) := by decide +kernel
theorem dX3_weighAll_60 : decode cX3_weighAll 60 = .ok (.return_, 1) := by decide +kernel
theorem dX3_add_0 : decode cX3_add 0 = .ok (.aload_n 1, 1) := by decide +kernel
theorem dX3_add_1 : decode cX3_add 1 = .ok (.iload_n 2, 1) := by decide +kernel
theorem dX3_add_2 : decode cX3_add 2 = .ok (.invokevirtual 40, 3) := by decide +kernel
theorem dX3_add_5 : decode cX3_add 5 = .ok (.i2d, 1) := by decide +kernel
theorem dX3_add_6 : decode cX3_add 6 = .ok (.dstore 5, 2) := by decide +kernel
theorem dX3_add_8 : decode cX3_add 8 = .ok (.aload_n 0, 1) := by decide +kernel
theorem dX3_add_9 : decode cX3_add 9 = .ok (.aload_n 0, 1) := by decide +kernel
theorem dX3_add_10 : decode cX3_add 10 = .ok (.getfield 7, 3) := by decide +kernel
theorem dX3_add_13 : decode cX3_add 13 = .ok (.dload 5, 2) := by decide +kernel
theorem dX3_add_15 : decode cX3_add 15 = .ok (.dadd, 1) := by decide +kernel
theorem dX3_add_16 : decode cX3_add 16 = .ok (.putfield 7, 3) := by decide +kernel
theorem dX3_add_19 : decode cX3_add 19 = .ok (.aload_n 0, 1) := by decide +kernel
theorem dX3_add_20 : decode cX3_add 20 = .ok (.aload_n 0, 1) := by decide +kernel
theorem dX3_add_21 : decode cX3_add 21 = .ok (.getfield 13, 3) := by decide +kernel
theorem dX3_add_24 : decode cX3_add 24 = .ok (.dload 5, 2) := by decide +kernel
theorem dX3_add_26 : decode cX3_add 26 = .ok (.iload_n 3, 1) := by decide +kernel
theorem dX3_add_27 : decode cX3_add 27 = .ok (.i2d, 1) := by decide +kernel
theorem dX3_add_28 : decode cX3_add 28 = .ok (.aload_n 1, 1) := by decide +kernel
theorem dX3_add_29 : decode cX3_add 29 = .ok (.iload_n 2, 1) := by decide +kernel
theorem dX3_add_30 : decode cX3_add 30 = .ok (.invokevirtual 43, 3) := by decide +kernel
theorem dX3_add_33 : decode cX3_add 33 = .ok (.i2d, 1) := by decide +kernel
theorem dX3_add_34 : decode cX3_add 34 = .ok (.ldc2_w 46, 3) := by decide +kernel
theorem dX3_add_37 : decode cX3_add 37 = .ok (.ddiv, 1) := by decide +kernel
theorem dX3_add_38 : decode cX3_add 38 = .ok (.dadd, 1) := by decide +kernel
theorem dX3_add_39 : decode cX3_add 39 = .ok (.dmul, 1) := by decide +kernel
theorem dX3_add_40 : decode cX3_add 40 = .ok (.dadd, 1) := by decide +kernel
theorem dX3_add_41 : decode cX3_add 41 = .ok (.putfield 13, 3) := by decide +kernel
theorem dX3_add_44 : decode cX3_add 44 = .ok (.aload_n 0, 1) := by decide +kernel
theorem dX3_add_45 : decode cX3_add 45 = .ok (.aload_n 0, 1) := by decide +kernel
theorem dX3_add_46 : decode cX3_add 46 = .ok (.getfield 16, 3) := by decide +kernel
theorem dX3_add_49 : decode cX3_add 49 = .ok (.dload 5, 2) := by decide +kernel
theorem dX3_add_51 : decode cX3_add 51 = .ok (.iload 4, 2) := by decide +kernel
theorem dX3_add_53 : decode cX3_add 53 = .ok (.i2d, 1) := by decide +kernel
theorem dX3_add_54 : decode cX3_add 54 = .ok (.aload_n 1, 1) := by decide +kernel
theorem dX3_add_55 : decode cX3_add 55 = .ok (.iload_n 2, 1) := by decide +kernel
theorem dX3_add_56 : decode cX3_add 56 = .ok (.invokevirtual 48, 3) := by decide +kernel
theorem dX3_add_59 : decode cX3_add 59 = .ok (.i2d, 1) := by decide +kernel
theorem dX3_add_60 : decode cX3_add 60 = .ok (.ldc2_w 46, 3) := by decide +kernel
theorem dX3_add_63 : decode cX3_add 63 = .ok (.ddiv, 1) := by decide +kernel
theorem dX3_add_64 : decode cX3_add 64 = .ok (.dadd, 1) := by decide +kernel
theorem dX3_add_65 : decode cX3_add 65 = .ok (.dmul, 1) := by decide +kernel
theorem dX3_add_66 : decode cX3_add 66 = .ok (.dadd, 1) := by decide +kernel
theorem dX3_add_67 : decode cX3_add 67 = .ok (.putfield 16, 3) := by decide +kernel
theorem dX3_add_70 : decode cX3_add 70 = .ok (.return_, 1) := by decide +kernel
theorem dX3_centreX_0 : decode cX3_centreX 0 = .ok (.aload_n 0, 1) := by decide +kernel
theorem dX3_centreX_1 : decode cX3_centreX 1 = .ok (.getfield 7, 3) := by decide +kernel
theorem dX3_centreX_4 : decode cX3_centreX 4 = .ok (.dconst 0, 1) := by decide +kernel
theorem dX3_centreX_5 : decode cX3_centreX 5 = .ok (.dcmp .l, 1) := by decide +kernel
theorem dX3_centreX_6 : decode cX3_centreX 6 = .ok (.ifCond .le 15, 3) := by decide +kernel
theorem dX3_centreX_9 : decode cX3_centreX 9 = .ok (.aload_n 0, 1) := by decide +kernel
theorem dX3_centreX_10 : decode cX3_centreX 10 = .ok (.getfield 13, 3) := by decide +kernel
theorem dX3_centreX_13 : decode cX3_centreX 13 = .ok (.aload_n 0, 1) := by decide +kernel
theorem dX3_centreX_14 : decode cX3_centreX 14 = .ok (.getfield 7, 3) := by decide +kernel
theorem dX3_centreX_17 : decode cX3_centreX 17 = .ok (.ddiv, 1) := by decide +kernel
theorem dX3_centreX_18 : decode cX3_centreX 18 = .ok (.goto 12, 3) := by decide +kernel
theorem dX3_centreX_21 : decode cX3_centreX 21 = .ok (.aload_n 1, 1) := by decide +kernel
theorem dX3_centreX_22 : decode cX3_centreX 22 = .ok (.getfield 51, 3) := by decide +kernel
theorem dX3_centreX_25 : decode cX3_centreX 25 = .ok (.i2d, 1) := by decide +kernel
theorem dX3_centreX_26 : decode cX3_centreX 26 = .ok (.ldc2_w 46, 3) := by decide +kernel
theorem dX3_centreX_29 : decode cX3_centreX 29 = .ok (.ddiv, 1) := by decide +kernel
theorem dX3_centreX_30 : decode cX3_centreX 30 = .ok (.dreturn, 1) := by decide +kernel
theorem dX3_centreY_0 : decode cX3_centreY 0 = .ok (.aload_n 0, 1) := by decide +kernel
theorem dX3_centreY_1 : decode cX3_centreY 1 = .ok (.getfield 7, 3) := by decide +kernel
theorem dX3_centreY_4 : decode cX3_centreY 4 = .ok (.dconst 0, 1) := by decide +kernel
theorem dX3_centreY_5 : decode cX3_centreY 5 = .ok (.dcmp .l, 1) := by decide +kernel
theorem dX3_centreY_6 : decode cX3_centreY 6 = .ok (.ifCond .le 15, 3) := by decide +kernel
theorem dX3_centreY_9 : decode cX3_centreY 9 = .ok (.aload_n 0, 1) := by decide +kernel
theorem dX3_centreY_10 : decode cX3_centreY 10 = .ok (.getfield 16, 3) := by decide +kernel
theorem dX3_centreY_13 : decode cX3_centreY 13 = .ok (.aload_n 0, 1) := by decide +kernel
theorem dX3_centreY_14 : decode cX3_centreY 14 = .ok (.getfield 7, 3) := by decide +kernel
theorem dX3_centreY_17 : decode cX3_centreY 17 = .ok (.ddiv, 1) := by decide +kernel
theorem dX3_centreY_18 : decode cX3_centreY 18 = .ok (.goto 12, 3) := by decide +kernel
theorem dX3_centreY_21 : decode cX3_centreY 21 = .ok (.aload_n 1, 1) := by decide +kernel
theorem dX3_centreY_22 : decode cX3_centreY 22 = .ok (.getfield 54, 3) := by decide +kernel
theorem dX3_centreY_25 : decode cX3_centreY 25 = .ok (.i2d, 1) := by decide +kernel
theorem dX3_centreY_26 : decode cX3_centreY 26 = .ok (.ldc2_w 46, 3) := by decide +kernel
theorem dX3_centreY_29 : decode cX3_centreY 29 = .ok (.ddiv, 1) := by decide +kernel
theorem dX3_centreY_30 : decode cX3_centreY 30 = .ok (.dreturn, 1) := by decide +kernel
theorem dX3_balance_0 : decode cX3_balance 0 = .ok (.aload_n 0, 1) := by decide +kernel
theorem dX3_balance_1 : decode cX3_balance 1 = .ok (.aload_n 1, 1) := by decide +kernel
theorem dX3_balance_2 : decode cX3_balance 2 = .ok (.invokevirtual 57, 3) := by decide +kernel
theorem dX3_balance_5 : decode cX3_balance 5 = .ok (.aload_n 1, 1) := by decide +kernel
theorem dX3_balance_6 : decode cX3_balance 6 = .ok (.getfield 51, 3) := by decide +kernel
theorem dX3_balance_9 : decode cX3_balance 9 = .ok (.i2d, 1) := by decide +kernel
theorem dX3_balance_10 : decode cX3_balance 10 = .ok (.ldc2_w 46, 3) := by decide +kernel
theorem dX3_balance_13 : decode cX3_balance 13 = .ok (.ddiv, 1) := by decide +kernel
theorem dX3_balance_14 : decode cX3_balance 14 = .ok (.dsub, 1) := by decide +kernel
theorem dX3_balance_15 : decode cX3_balance 15 = .ok (.dstore_n 2, 1) := by decide +kernel
theorem dX3_balance_16 : decode cX3_balance 16 = .ok (.aload_n 0, 1) := by decide +kernel
theorem dX3_balance_17 : decode cX3_balance 17 = .ok (.aload_n 1, 1) := by decide +kernel
theorem dX3_balance_18 : decode cX3_balance 18 = .ok (.invokevirtual 61, 3) := by decide +kernel
theorem dX3_balance_21 : decode cX3_balance 21 = .ok (.aload_n 1, 1) := by decide +kernel
theorem dX3_balance_22 : decode cX3_balance 22 = .ok (.getfield 54, 3) := by decide +kernel
theorem dX3_balance_25 : decode cX3_balance 25 = .ok (.i2d, 1) := by decide +kernel
theorem dX3_balance_26 : decode cX3_balance 26 = .ok (.ldc2_w 46, 3) := by decide +kernel
theorem dX3_balance_29 : decode cX3_balance 29 = .ok (.ddiv, 1) := by decide +kernel
theorem dX3_balance_30 : decode cX3_balance 30 = .ok (.dsub, 1) := by decide +kernel
theorem dX3_balance_31 : decode cX3_balance 31 = .ok (.dstore 4, 2) := by decide +kernel
theorem dX3_balance_33 : decode cX3_balance 33 = .ok (.dload_n 2, 1) := by decide +kernel
theorem dX3_balance_34 : decode cX3_balance 34 = .ok (.dload_n 2, 1) := by decide +kernel
theorem dX3_balance_35 : decode cX3_balance 35 = .ok (.dmul, 1) := by decide +kernel
theorem dX3_balance_36 : decode cX3_balance 36 = .ok (.dload 4, 2) := by decide +kernel
theorem dX3_balance_38 : decode cX3_balance 38 = .ok (.dload 4, 2) := by decide +kernel
theorem dX3_balance_40 : decode cX3_balance 40 = .ok (.dmul, 1) := by decide +kernel
theorem dX3_balance_41 : decode cX3_balance 41 = .ok (.dadd, 1) := by decide +kernel
theorem dX3_balance_42 : decode cX3_balance 42 = .ok (.dreturn, 1) := by decide +kernel
theorem dX3_balanceWith_0 : decode cX3_balanceWith 0 = .ok (.aload_n 0, 1) := by decide +kernel
theorem dX3_balanceWith_1 : decode cX3_balanceWith 1 = .ok (.getfield 7, 3) := by decide +kernel
theorem dX3_balanceWith_4 : decode cX3_balanceWith 4 = .ok (.dstore 5, 2) := by decide +kernel
theorem dX3_balanceWith_6 : decode cX3_balanceWith 6 = .ok (.aload_n 0, 1) := by decide +kernel
theorem dX3_balanceWith_7 : decode cX3_balanceWith 7 = .ok (.getfield 13, 3) := by decide +kernel
theorem dX3_balanceWith_10 : decode cX3_balanceWith 10 = .ok (.dstore 7, 2) := by decide +kernel
theorem dX3_balanceWith_12 : decode cX3_balanceWith 12 = .ok (.aload_n 0, 1) := by decide +kernel
theorem dX3_balanceWith_13 : decode cX3_balanceWith 13 = .ok (.getfield 16, 3) := by decide +kernel
theorem dX3_balanceWith_16 : decode cX3_balanceWith 16 = .ok (.dstore 9, 2) := by decide +kernel
theorem dX3_balanceWith_18 : decode cX3_balanceWith 18 = .ok (.aload_n 0, 1) := by decide +kernel
theorem dX3_balanceWith_19 : decode cX3_balanceWith 19 = .ok (.aload_n 1, 1) := by decide +kernel
theorem dX3_balanceWith_20 : decode cX3_balanceWith 20 = .ok (.iload_n 2, 1) := by decide +kernel
theorem dX3_balanceWith_21 : decode cX3_balanceWith 21 = .ok (.iload_n 3, 1) := by decide +kernel
theorem dX3_balanceWith_22 : decode cX3_balanceWith 22 = .ok (.iload 4, 2) := by decide +kernel
theorem dX3_balanceWith_24 : decode cX3_balanceWith 24 = .ok (.invokevirtual 36, 3) := by decide +kernel
theorem dX3_balanceWith_27 : decode cX3_balanceWith 27 = .ok (.aload_n 0, 1) := by decide +kernel
theorem dX3_balanceWith_28 : decode cX3_balanceWith 28 = .ok (.aload_n 1, 1) := by decide +kernel
theorem dX3_balanceWith_29 : decode cX3_balanceWith 29 = .ok (.invokevirtual 64, 3) := by decide +kernel
theorem dX3_balanceWith_32 : decode cX3_balanceWith 32 = .ok (.dstore 11, 2) := by decide +kernel
theorem dX3_balanceWith_34 : decode cX3_balanceWith 34 = .ok (.aload_n 0, 1) := by decide +kernel
theorem dX3_balanceWith_35 : decode cX3_balanceWith 35 = .ok (.dload 5, 2) := by decide +kernel
theorem dX3_balanceWith_37 : decode cX3_balanceWith 37 = .ok (.putfield 7, 3) := by decide +kernel
theorem dX3_balanceWith_40 : decode cX3_balanceWith 40 = .ok (.aload_n 0, 1) := by decide +kernel
theorem dX3_balanceWith_41 : decode cX3_balanceWith 41 = .ok (.dload 7, 2) := by decide +kernel
theorem dX3_balanceWith_43 : decode cX3_balanceWith 43 = .ok (.putfield 13, 3) := by decide +kernel
theorem dX3_balanceWith_46 : decode cX3_balanceWith 46 = .ok (.aload_n 0, 1) := by decide +kernel
theorem dX3_balanceWith_47 : decode cX3_balanceWith 47 = .ok (.dload 9, 2) := by decide +kernel
theorem dX3_balanceWith_49 : decode cX3_balanceWith 49 = .ok (.putfield 16, 3) := by decide +kernel
theorem dX3_balanceWith_52 : decode cX3_balanceWith 52 = .ok (.dload 11, 2) := by decide +kernel
theorem dX3_balanceWith_54 : decode cX3_balanceWith 54 = .ok (.dreturn, 1) := by decide +kernel
theorem dX3_tell_0 : decode cX3_tell 0 = .ok (.iload_n 2, 1) := by decide +kernel
theorem dX3_tell_1 : decode cX3_tell 1 = .ok (.lookupswitch 39 #[(0, 27), (1, 33)], 27) := by decide +kernel
theorem dX3_tell_28 : decode cX3_tell 28 = .ok (.aload_n 0, 1) := by decide +kernel
theorem dX3_tell_29 : decode cX3_tell 29 = .ok (.aload_n 1, 1) := by decide +kernel
theorem dX3_tell_30 : decode cX3_tell 30 = .ok (.invokevirtual 57, 3) := by decide +kernel
theorem dX3_tell_33 : decode cX3_tell 33 = .ok (.dreturn, 1) := by decide +kernel
theorem dX3_tell_34 : decode cX3_tell 34 = .ok (.aload_n 0, 1) := by decide +kernel
theorem dX3_tell_35 : decode cX3_tell 35 = .ok (.aload_n 1, 1) := by decide +kernel
theorem dX3_tell_36 : decode cX3_tell 36 = .ok (.invokevirtual 61, 3) := by decide +kernel
theorem dX3_tell_39 : decode cX3_tell 39 = .ok (.dreturn, 1) := by decide +kernel
theorem dX3_tell_40 : decode cX3_tell 40 = .ok (.aload_n 0, 1) := by decide +kernel
theorem dX3_tell_41 : decode cX3_tell 41 = .ok (.aload_n 1, 1) := by decide +kernel
theorem dX3_tell_42 : decode cX3_tell 42 = .ok (.invokevirtual 64, 3) := by decide +kernel
theorem dX3_tell_45 : decode cX3_tell 45 = .ok (.dreturn, 1) := by decide +kernel
theorem dX4_init_0 : decode cX4_init 0 = .ok (.aload_n 0, 1) := by decide +kernel
theorem dX4_init_1 : decode cX4_init 1 = .ok (.invokespecial 3, 3) := by decide +kernel
theorem dX4_init_4 : decode cX4_init 4 = .ok (.aload_n 0, 1) := by decide +kernel
theorem dX4_init_5 : decode cX4_init 5 = .ok (.bipush 96, 2) := by decide +kernel
theorem dX4_init_7 : decode cX4_init 7 = .ok (.newarray .int, 2) := by decide +kernel
theorem dX4_init_9 : decode cX4_init 9 = .ok (.putfield 11, 3) := by decide +kernel
theorem dX4_init_12 : decode cX4_init 12 = .ok (.return_, 1) := by decide +kernel
theorem dX4_copyFrom_0 : decode cX4_copyFrom 0 = .ok (.aload_n 1, 1) := by decide +kernel
theorem dX4_copyFrom_1 : decode cX4_copyFrom 1 = .ok (.ifnonnull 4, 3) := by decide +kernel
theorem dX4_copyFrom_4 : decode cX4_copyFrom 4 = .ok (.return_, 1) := by decide +kernel
theorem dX4_copyFrom_5 : decode cX4_copyFrom 5 = .ok (.aload_n 0, 1) := by decide +kernel
theorem dX4_copyFrom_6 : decode cX4_copyFrom 6 = .ok (.aload_n 1, 1) := by decide +kernel
theorem dX4_copyFrom_7 : decode cX4_copyFrom 7 = .ok (.getfield 15, 3) := by decide +kernel
theorem dX4_copyFrom_10 : decode cX4_copyFrom 10 = .ok (.putfield 15, 3) := by decide +kernel
theorem dX4_copyFrom_13 : decode cX4_copyFrom 13 = .ok (.aload_n 1, 1) := by decide +kernel
theorem dX4_copyFrom_14 : decode cX4_copyFrom 14 = .ok (.getfield 11, 3) := by decide +kernel
theorem dX4_copyFrom_17 : decode cX4_copyFrom 17 = .ok (.iconst 0, 1) := by decide +kernel
theorem dX4_copyFrom_18 : decode cX4_copyFrom 18 = .ok (.aload_n 0, 1) := by decide +kernel
theorem dX4_copyFrom_19 : decode cX4_copyFrom 19 = .ok (.getfield 11, 3) := by decide +kernel
theorem dX4_copyFrom_22 : decode cX4_copyFrom 22 = .ok (.iconst 0, 1) := by decide +kernel
theorem dX4_copyFrom_23 : decode cX4_copyFrom 23 = .ok (.bipush 96, 2) := by decide +kernel
theorem dX4_copyFrom_25 : decode cX4_copyFrom 25 = .ok (.invokestatic 19, 3) := by decide +kernel
theorem dX4_copyFrom_28 : decode cX4_copyFrom 28 = .ok (.return_, 1) := by decide +kernel
theorem dX4_isRow_0 : decode cX4_isRow 0 = .ok (.iload_n 0, 1) := by decide +kernel
theorem dX4_isRow_1 : decode cX4_isRow 1 = .ok (.iconst 0, 1) := by decide +kernel
theorem dX4_isRow_2 : decode cX4_isRow 2 = .ok (.iconst 2, 1) := by decide +kernel
theorem dX4_isRow_3 : decode cX4_isRow 3 = .ok (.invokestatic 25, 3) := by decide +kernel
theorem dX4_isRow_6 : decode cX4_isRow 6 = .ok (.ifCond .eq 17, 3) := by decide +kernel
theorem dX4_isRow_9 : decode cX4_isRow 9 = .ok (.iload_n 1, 1) := by decide +kernel
theorem dX4_isRow_10 : decode cX4_isRow 10 = .ok (.iconst 0, 1) := by decide +kernel
theorem dX4_isRow_11 : decode cX4_isRow 11 = .ok (.bipush 7, 2) := by decide +kernel
theorem dX4_isRow_13 : decode cX4_isRow 13 = .ok (.invokestatic 25, 3) := by decide +kernel
theorem dX4_isRow_16 : decode cX4_isRow 16 = .ok (.ifCond .eq 7, 3) := by decide +kernel
theorem dX4_isRow_19 : decode cX4_isRow 19 = .ok (.iconst 1, 1) := by decide +kernel
theorem dX4_isRow_20 : decode cX4_isRow 20 = .ok (.goto 4, 3) := by decide +kernel
theorem dX4_isRow_23 : decode cX4_isRow 23 = .ok (.iconst 0, 1) := by decide +kernel
theorem dX4_isRow_24 : decode cX4_isRow 24 = .ok (.ireturn, 1) := by decide +kernel
theorem dX4_then_0 : decode cX4_then 0 = .ok (.iload_n 1, 1) := by decide +kernel
theorem dX4_then_1 : decode cX4_then 1 = .ok (.iload_n 2, 1) := by decide +kernel
theorem dX4_then_2 : decode cX4_then 2 = .ok (.invokestatic 29, 3) := by decide +kernel
theorem dX4_then_5 : decode cX4_then 5 = .ok (.ifCond .eq 16, 3) := by decide +kernel
theorem dX4_then_8 : decode cX4_then 8 = .ok (.iload_n 3, 1) := by decide +kernel
theorem dX4_then_9 : decode cX4_then 9 = .ok (.iconst 0, 1) := by decide +kernel
theorem dX4_then_10 : decode cX4_then 10 = .ok (.iconst 3, 1) := by decide +kernel
theorem dX4_then_11 : decode cX4_then 11 = .ok (.invokestatic 25, 3) := by decide +kernel
theorem dX4_then_14 : decode cX4_then 14 = .ok (.ifCond .eq 7, 3) := by decide +kernel
theorem dX4_then_17 : decode cX4_then 17 = .ok (.iconst 1, 1) := by decide +kernel
theorem dX4_then_18 : decode cX4_then 18 = .ok (.goto 4, 3) := by decide +kernel
theorem dX4_then_21 : decode cX4_then 21 = .ok (.iconst 0, 1) := by decide +kernel
theorem dX4_then_22 : decode cX4_then 22 = .ok (.istore 4, 2) := by decide +kernel
theorem dX4_then_24 : decode cX4_then 24 = .ok (.iload 4, 2) := by decide +kernel
end
section
theorem dX4_then_26 : decode cX4_then 26 = .ok (.ifCond .eq 21, 3) := by decide +kernel
theorem dX4_then_29 : decode cX4_then 29 = .ok (.aload_n 0, 1) := by decide +kernel
theorem dX4_then_30 : decode cX4_then 30 = .ok (.getfield 11, 3) := by decide +kernel
theorem dX4_then_33 : decode cX4_then 33 = .ok (.iload_n 1, 1) := by decide +kernel
theorem dX4_then_34 : decode cX4_then 34 = .ok (.bipush 8, 2) := by decide +kernel
theorem dX4_then_36 : decode cX4_then 36 = .ok (.imul, 1) := by decide +kernel
theorem dX4_then_37 : decode cX4_then 37 = .ok (.iload_n 2, 1) := by decide +kernel
theorem dX4_then_38 : decode cX4_then 38 = .ok (.iadd, 1) := by decide +kernel
theorem dX4_then_39 : decode cX4_then 39 = .ok (.iconst 4, 1) := by decide +kernel
theorem dX4_then_40 : decode cX4_then 40 = .ok (.imul, 1) := by decide +kernel
theorem dX4_then_41 : decode cX4_then 41 = .ok (.iload_n 3, 1) := by decide +kernel
theorem dX4_then_42 : decode cX4_then 42 = .ok (.iadd, 1) := by decide +kernel
theorem dX4_then_43 : decode cX4_then 43 = .ok (.iaload, 1) := by decide +kernel
theorem dX4_then_44 : decode cX4_then 44 = .ok (.goto 4, 3) := by decide +kernel
theorem dX4_then_47 : decode cX4_then 47 = .ok (.iconst (-1), 1) := by decide +kernel
theorem dX4_then_48 : decode cX4_then 48 = .ok (.ireturn, 1) := by decide +kernel
theorem dX4_lay_0 : decode cX4_lay 0 = .ok (.aload_n 0, 1) := by decide +kernel
theorem dX4_lay_1 : decode cX4_lay 1 = .ok (.iload_n 1, 1) := by decide +kernel
theorem dX4_lay_2 : decode cX4_lay 2 = .ok (.iload_n 2, 1) := by decide +kernel
theorem dX4_lay_3 : decode cX4_lay 3 = .ok (.iconst 0, 1) := by decide +kernel
theorem dX4_lay_4 : decode cX4_lay 4 = .ok (.invokevirtual 33, 3) := by decide +kernel
theorem dX4_lay_7 : decode cX4_lay 7 = .ok (.iconst (-1), 1) := by decide +kernel
theorem dX4_lay_8 : decode cX4_lay 8 = .ok (.if_icmp .eq 7, 3) := by decide +kernel
theorem dX4_lay_11 : decode cX4_lay 11 = .ok (.iconst 1, 1) := by decide +kernel
theorem dX4_lay_12 : decode cX4_lay 12 = .ok (.goto 4, 3) := by decide +kernel
theorem dX4_lay_15 : decode cX4_lay 15 = .ok (.iconst 0, 1) := by decide +kernel
theorem dX4_lay_16 : decode cX4_lay 16 = .ok (.ireturn, 1) := by decide +kernel
theorem dX4_againstUse_0 : decode cX4_againstUse 0 = .ok (.iload_n 1, 1) := by decide +kernel
theorem dX4_againstUse_1 : decode cX4_againstUse 1 = .ok (.iconst 0, 1) := by decide +kernel
theorem dX4_againstUse_2 : decode cX4_againstUse 2 = .ok (.iconst 2, 1) := by decide +kernel
theorem dX4_againstUse_3 : decode cX4_againstUse 3 = .ok (.invokestatic 25, 3) := by decide +kernel
theorem dX4_againstUse_6 : decode cX4_againstUse 6 = .ok (.ifCond .ne 6, 3) := by decide +kernel
theorem dX4_againstUse_9 : decode cX4_againstUse 9 = .ok (.bipush (-2), 2) := by decide +kernel
theorem dX4_againstUse_11 : decode cX4_againstUse 11 = .ok (.ireturn, 1) := by decide +kernel
theorem dX4_againstUse_12 : decode cX4_againstUse 12 = .ok (.aload_n 0, 1) := by decide +kernel
theorem dX4_againstUse_13 : decode cX4_againstUse 13 = .ok (.getfield 15, 3) := by decide +kernel
theorem dX4_againstUse_16 : decode cX4_againstUse 16 = .ok (.iload_n 1, 1) := by decide +kernel
theorem dX4_againstUse_17 : decode cX4_againstUse 17 = .ok (.ishr, 1) := by decide +kernel
theorem dX4_againstUse_18 : decode cX4_againstUse 18 = .ok (.iconst 1, 1) := by decide +kernel
theorem dX4_againstUse_19 : decode cX4_againstUse 19 = .ok (.iand, 1) := by decide +kernel
theorem dX4_againstUse_20 : decode cX4_againstUse 20 = .ok (.iconst 1, 1) := by decide +kernel
theorem dX4_againstUse_21 : decode cX4_againstUse 21 = .ok (.if_icmp .ne 7, 3) := by decide +kernel
theorem dX4_againstUse_24 : decode cX4_againstUse 24 = .ok (.iconst 0, 1) := by decide +kernel
theorem dX4_againstUse_25 : decode cX4_againstUse 25 = .ok (.goto 5, 3) := by decide +kernel
theorem dX4_againstUse_28 : decode cX4_againstUse 28 = .ok (.bipush (-3), 2) := by decide +kernel
theorem dX4_againstUse_30 : decode cX4_againstUse 30 = .ok (.ireturn, 1) := by decide +kernel
theorem dX4_keep_0 : decode cX4_keep 0 = .ok (.iconst 0, 1) := by decide +kernel
theorem dX4_keep_1 : decode cX4_keep 1 = .ok (.istore_n 3, 1) := by decide +kernel
theorem dX4_keep_2 : decode cX4_keep 2 = .ok (.iload_n 3, 1) := by decide +kernel
theorem dX4_keep_3 : decode cX4_keep 3 = .ok (.bipush 8, 2) := by decide +kernel
theorem dX4_keep_5 : decode cX4_keep 5 = .ok (.if_icmp .ge 83, 3) := by decide +kernel
theorem dX4_keep_8 : decode cX4_keep 8 = .ok (.iload_n 2, 1) := by decide +kernel
theorem dX4_keep_9 : decode cX4_keep 9 = .ok (.iload_n 3, 1) := by decide +kernel
theorem dX4_keep_10 : decode cX4_keep 10 = .ok (.invokestatic 29, 3) := by decide +kernel
theorem dX4_keep_13 : decode cX4_keep 13 = .ok (.ifCond .eq 75, 3) := by decide +kernel
theorem dX4_keep_16 : decode cX4_keep 16 = .ok (.iload_n 2, 1) := by decide +kernel
theorem dX4_keep_17 : decode cX4_keep 17 = .ok (.bipush 8, 2) := by decide +kernel
theorem dX4_keep_19 : decode cX4_keep 19 = .ok (.imul, 1) := by decide +kernel
theorem dX4_keep_20 : decode cX4_keep 20 = .ok (.iload_n 3, 1) := by decide +kernel
theorem dX4_keep_21 : decode cX4_keep 21 = .ok (.iadd, 1) := by decide +kernel
theorem dX4_keep_22 : decode cX4_keep 22 = .ok (.iconst 4, 1) := by decide +kernel
theorem dX4_keep_23 : decode cX4_keep 23 = .ok (.imul, 1) := by decide +kernel
theorem dX4_keep_24 : decode cX4_keep 24 = .ok (.istore 4, 2) := by decide +kernel
theorem dX4_keep_26 : decode cX4_keep 26 = .ok (.aload_n 0, 1) := by decide +kernel
theorem dX4_keep_27 : decode cX4_keep 27 = .ok (.getfield 11, 3) := by decide +kernel
theorem dX4_keep_30 : decode cX4_keep 30 = .ok (.iload 4, 2) := by decide +kernel
theorem dX4_keep_32 : decode cX4_keep 32 = .ok (.iconst 0, 1) := by decide +kernel
theorem dX4_keep_33 : decode cX4_keep 33 = .ok (.iadd, 1) := by decide +kernel
theorem dX4_keep_34 : decode cX4_keep 34 = .ok (.aload_n 1, 1) := by decide +kernel
theorem dX4_keep_35 : decode cX4_keep 35 = .ok (.iload_n 3, 1) := by decide +kernel
theorem dX4_keep_36 : decode cX4_keep 36 = .ok (.invokevirtual 37, 3) := by decide +kernel
theorem dX4_keep_39 : decode cX4_keep 39 = .ok (.iastore, 1) := by decide +kernel
theorem dX4_keep_40 : decode cX4_keep 40 = .ok (.aload_n 0, 1) := by decide +kernel
theorem dX4_keep_41 : decode cX4_keep 41 = .ok (.getfield 11, 3) := by decide +kernel
theorem dX4_keep_44 : decode cX4_keep 44 = .ok (.iload 4, 2) := by decide +kernel
theorem dX4_keep_46 : decode cX4_keep 46 = .ok (.iconst 1, 1) := by decide +kernel
theorem dX4_keep_47 : decode cX4_keep 47 = .ok (.iadd, 1) := by decide +kernel
theorem dX4_keep_48 : decode cX4_keep 48 = .ok (.aload_n 1, 1) := by decide +kernel
theorem dX4_keep_49 : decode cX4_keep 49 = .ok (.iload_n 3, 1) := by decide +kernel
theorem dX4_keep_50 : decode cX4_keep 50 = .ok (.invokevirtual 43, 3) := by decide +kernel
theorem dX4_keep_53 : decode cX4_keep 53 = .ok (.iastore, 1) := by decide +kernel
theorem dX4_keep_54 : decode cX4_keep 54 = .ok (.aload_n 0, 1) := by decide +kernel
theorem dX4_keep_55 : decode cX4_keep 55 = .ok (.getfield 11, 3) := by decide +kernel
theorem dX4_keep_58 : decode cX4_keep 58 = .ok (.iload 4, 2) := by decide +kernel
theorem dX4_keep_60 : decode cX4_keep 60 = .ok (.iconst 2, 1) := by decide +kernel
theorem dX4_keep_61 : decode cX4_keep 61 = .ok (.iadd, 1) := by decide +kernel
theorem dX4_keep_62 : decode cX4_keep 62 = .ok (.aload_n 1, 1) := by decide +kernel
theorem dX4_keep_63 : decode cX4_keep 63 = .ok (.iload_n 3, 1) := by decide +kernel
theorem dX4_keep_64 : decode cX4_keep 64 = .ok (.invokevirtual 46, 3) := by decide +kernel
theorem dX4_keep_67 : decode cX4_keep 67 = .ok (.iastore, 1) := by decide +kernel
theorem dX4_keep_68 : decode cX4_keep 68 = .ok (.aload_n 0, 1) := by decide +kernel
theorem dX4_keep_69 : decode cX4_keep 69 = .ok (.getfield 11, 3) := by decide +kernel
theorem dX4_keep_72 : decode cX4_keep 72 = .ok (.iload 4, 2) := by decide +kernel
theorem dX4_keep_74 : decode cX4_keep 74 = .ok (.iconst 3, 1) := by decide +kernel
theorem dX4_keep_75 : decode cX4_keep 75 = .ok (.iadd, 1) := by decide +kernel
theorem dX4_keep_76 : decode cX4_keep 76 = .ok (.aload_n 1, 1) := by decide +kernel
theorem dX4_keep_77 : decode cX4_keep 77 = .ok (.iload_n 3, 1) := by decide +kernel
theorem dX4_keep_78 : decode cX4_keep 78 = .ok (.invokevirtual 49, 3) := by decide +kernel
theorem dX4_keep_81 : decode cX4_keep 81 = .ok (.iastore, 1) := by decide +kernel
theorem dX4_keep_82 : decode cX4_keep 82 = .ok (.iinc 3 1, 3) := by decide +kernel
theorem dX4_keep_85 : decode cX4_keep 85 = .ok (.goto (-83), 3) := by decide +kernel
theorem dX4_keep_88 : decode cX4_keep 88 = .ok (.aload_n 0, 1) := by decide +kernel
theorem dX4_keep_89 : decode cX4_keep 89 = .ok (.dup, 1) := by decide +kernel
theorem dX4_keep_90 : decode cX4_keep 90 = .ok (.getfield 15, 3) := by decide +kernel
theorem dX4_keep_93 : decode cX4_keep 93 = .ok (.iconst 1, 1) := by decide +kernel
theorem dX4_keep_94 : decode cX4_keep 94 = .ok (.iload_n 2, 1) := by decide +kernel
theorem dX4_keep_95 : decode cX4_keep 95 = .ok (.ishl, 1) := by decide +kernel
theorem dX4_keep_96 : decode cX4_keep 96 = .ok (.ior, 1) := by decide +kernel
theorem dX4_keep_97 : decode cX4_keep 97 = .ok (.putfield 15, 3) := by decide +kernel
theorem dX4_keep_100 : decode cX4_keep 100 = .ok (.aload_n 1, 1) := by decide +kernel
theorem dX4_keep_101 : decode cX4_keep 101 = .ok (.invokevirtual 52, 3) := by decide +kernel
theorem dX4_keep_104 : decode cX4_keep 104 = .ok (.ireturn, 1) := by decide +kernel
theorem dX4_layAgain_0 : decode cX4_layAgain 0 = .ok (.iconst 0, 1) := by decide +kernel
theorem dX4_layAgain_1 : decode cX4_layAgain 1 = .ok (.istore_n 3, 1) := by decide +kernel
theorem dX4_layAgain_2 : decode cX4_layAgain 2 = .ok (.iload_n 3, 1) := by decide +kernel
theorem dX4_layAgain_3 : decode cX4_layAgain 3 = .ok (.aload_n 1, 1) := by decide +kernel
theorem dX4_layAgain_4 : decode cX4_layAgain 4 = .ok (.getfield 56, 3) := by decide +kernel
theorem dX4_layAgain_7 : decode cX4_layAgain 7 = .ok (.if_icmp .ge 28, 3) := by decide +kernel
theorem dX4_layAgain_10 : decode cX4_layAgain 10 = .ok (.aload_n 1, 1) := by decide +kernel
theorem dX4_layAgain_11 : decode cX4_layAgain 11 = .ok (.iload_n 3, 1) := by decide +kernel
theorem dX4_layAgain_12 : decode cX4_layAgain 12 = .ok (.aload_n 0, 1) := by decide +kernel
theorem dX4_layAgain_13 : decode cX4_layAgain 13 = .ok (.iload_n 2, 1) := by decide +kernel
theorem dX4_layAgain_14 : decode cX4_layAgain 14 = .ok (.iload_n 3, 1) := by decide +kernel
theorem dX4_layAgain_15 : decode cX4_layAgain 15 = .ok (.iconst 0, 1) := by decide +kernel
theorem dX4_layAgain_16 : decode cX4_layAgain 16 = .ok (.invokevirtual 33, 3) := by decide +kernel
theorem dX4_layAgain_19 : decode cX4_layAgain 19 = .ok (.aload_n 0, 1) := by decide +kernel
theorem dX4_layAgain_20 : decode cX4_layAgain 20 = .ok (.iload_n 2, 1) := by decide +kernel
theorem dX4_layAgain_21 : decode cX4_layAgain 21 = .ok (.iload_n 3, 1) := by decide +kernel
theorem dX4_layAgain_22 : decode cX4_layAgain 22 = .ok (.iconst 1, 1) := by decide +kernel
theorem dX4_layAgain_23 : decode cX4_layAgain 23 = .ok (.invokevirtual 33, 3) := by decide +kernel
theorem dX4_layAgain_26 : decode cX4_layAgain 26 = .ok (.invokevirtual 59, 3) := by decide +kernel
theorem dX4_layAgain_29 : decode cX4_layAgain 29 = .ok (.iinc 3 1, 3) := by decide +kernel
theorem dX4_layAgain_32 : decode cX4_layAgain 32 = .ok (.goto (-30), 3) := by decide +kernel
theorem dX4_layAgain_35 : decode cX4_layAgain 35 = .ok (.aload_n 1, 1) := by decide +kernel
theorem dX4_layAgain_36 : decode cX4_layAgain 36 = .ok (.invokevirtual 52, 3) := by decide +kernel
theorem dX4_layAgain_39 : decode cX4_layAgain 39 = .ok (.ireturn, 1) := by decide +kernel
theorem dX4_isAlike_0 : decode cX4_isAlike 0 = .ok (.aload_n 1, 1) := by decide +kernel
theorem dX4_isAlike_1 : decode cX4_isAlike 1 = .ok (.iload_n 3, 1) := by decide +kernel
theorem dX4_isAlike_2 : decode cX4_isAlike 2 = .ok (.invokevirtual 37, 3) := by decide +kernel
theorem dX4_isAlike_5 : decode cX4_isAlike 5 = .ok (.aload_n 0, 1) := by decide +kernel
theorem dX4_isAlike_6 : decode cX4_isAlike 6 = .ok (.iload_n 2, 1) := by decide +kernel
theorem dX4_isAlike_7 : decode cX4_isAlike 7 = .ok (.iload_n 3, 1) := by decide +kernel
theorem dX4_isAlike_8 : decode cX4_isAlike 8 = .ok (.iconst 0, 1) := by decide +kernel
theorem dX4_isAlike_9 : decode cX4_isAlike 9 = .ok (.invokevirtual 33, 3) := by decide +kernel
theorem dX4_isAlike_12 : decode cX4_isAlike 12 = .ok (.if_icmp .ne 52, 3) := by decide +kernel
theorem dX4_isAlike_15 : decode cX4_isAlike 15 = .ok (.aload_n 1, 1) := by decide +kernel
theorem dX4_isAlike_16 : decode cX4_isAlike 16 = .ok (.iload_n 3, 1) := by decide +kernel
theorem dX4_isAlike_17 : decode cX4_isAlike 17 = .ok (.invokevirtual 43, 3) := by decide +kernel
theorem dX4_isAlike_20 : decode cX4_isAlike 20 = .ok (.aload_n 0, 1) := by decide +kernel
theorem dX4_isAlike_21 : decode cX4_isAlike 21 = .ok (.iload_n 2, 1) := by decide +kernel
theorem dX4_isAlike_22 : decode cX4_isAlike 22 = .ok (.iload_n 3, 1) := by decide +kernel
theorem dX4_isAlike_23 : decode cX4_isAlike 23 = .ok (.iconst 1, 1) := by decide +kernel
theorem dX4_isAlike_24 : decode cX4_isAlike 24 = .ok (.invokevirtual 33, 3) := by decide +kernel
theorem dX4_isAlike_27 : decode cX4_isAlike 27 = .ok (.if_icmp .ne 37, 3) := by decide +kernel
theorem dX4_isAlike_30 : decode cX4_isAlike 30 = .ok (.aload_n 1, 1) := by decide +kernel
theorem dX4_isAlike_31 : decode cX4_isAlike 31 = .ok (.iload_n 3, 1) := by decide +kernel
theorem dX4_isAlike_32 : decode cX4_isAlike 32 = .ok (.invokevirtual 46, 3) := by decide +kernel
theorem dX4_isAlike_35 : decode cX4_isAlike 35 = .ok (.aload_n 0, 1) := by decide +kernel
theorem dX4_isAlike_36 : decode cX4_isAlike 36 = .ok (.iload_n 2, 1) := by decide +kernel
theorem dX4_isAlike_37 : decode cX4_isAlike 37 = .ok (.iload_n 3, 1) := by decide +kernel
theorem dX4_isAlike_38 : decode cX4_isAlike 38 = .ok (.iconst 2, 1) := by decide +kernel
theorem dX4_isAlike_39 : decode cX4_isAlike 39 = .ok (.invokevirtual 33, 3) := by decide +kernel
theorem dX4_isAlike_42 : decode cX4_isAlike 42 = .ok (.if_icmp .ne 22, 3) := by decide +kernel
theorem dX4_isAlike_45 : decode cX4_isAlike 45 = .ok (.aload_n 1, 1) := by decide +kernel
theorem dX4_isAlike_46 : decode cX4_isAlike 46 = .ok (.iload_n 3, 1) := by decide +kernel
theorem dX4_isAlike_47 : decode cX4_isAlike 47 = .ok (.invokevirtual 49, 3) := by decide +kernel
theorem dX4_isAlike_50 : decode cX4_isAlike 50 = .ok (.aload_n 0, 1) := by decide +kernel
theorem dX4_isAlike_51 : decode cX4_isAlike 51 = .ok (.iload_n 2, 1) := by decide +kernel
theorem dX4_isAlike_52 : decode cX4_isAlike 52 = .ok (.iload_n 3, 1) := by decide +kernel
theorem dX4_isAlike_53 : decode cX4_isAlike 53 = .ok (.iconst 3, 1) := by decide +kernel
theorem dX4_isAlike_54 : decode cX4_isAlike 54 = .ok (.invokevirtual 33, 3) := by decide +kernel
theorem dX4_isAlike_57 : decode cX4_isAlike 57 = .ok (.if_icmp .ne 7, 3) := by decide +kernel
theorem dX4_isAlike_60 : decode cX4_isAlike 60 = .ok (.iconst 1, 1) := by decide +kernel
theorem dX4_isAlike_61 : decode cX4_isAlike 61 = .ok (.goto 4, 3) := by decide +kernel
theorem dX4_isAlike_64 : decode cX4_isAlike 64 = .ok (.iconst 0, 1) := by decide +kernel
theorem dX4_isAlike_65 : decode cX4_isAlike 65 = .ok (.ireturn, 1) := by decide +kernel
theorem dX4_unlike_0 : decode cX4_unlike 0 = .ok (.iconst 0, 1) := by decide +kernel
theorem dX4_unlike_1 : decode cX4_unlike 1 = .ok (.istore_n 3, 1) := by decide +kernel
theorem dX4_unlike_2 : decode cX4_unlike 2 = .ok (.iconst 0, 1) := by decide +kernel
theorem dX4_unlike_3 : decode cX4_unlike 3 = .ok (.istore 4, 2) := by decide +kernel
theorem dX4_unlike_5 : decode cX4_unlike 5 = .ok (.iload 4, 2) := by decide +kernel
theorem dX4_unlike_7 : decode cX4_unlike 7 = .ok (.bipush 8, 2) := by decide +kernel
theorem dX4_unlike_9 : decode cX4_unlike 9 = .ok (.if_icmp .ge 42, 3) := by decide +kernel
theorem dX4_unlike_12 : decode cX4_unlike 12 = .ok (.aload_n 1, 1) := by decide +kernel
theorem dX4_unlike_13 : decode cX4_unlike 13 = .ok (.iload 4, 2) := by decide +kernel
theorem dX4_unlike_15 : decode cX4_unlike 15 = .ok (.invokevirtual 63, 3) := by decide +kernel
theorem dX4_unlike_18 : decode cX4_unlike 18 = .ok (.ifCond .ne 13, 3) := by decide +kernel
theorem dX4_unlike_21 : decode cX4_unlike 21 = .ok (.aload_n 0, 1) := by decide +kernel
theorem dX4_unlike_22 : decode cX4_unlike 22 = .ok (.iload_n 2, 1) := by decide +kernel
theorem dX4_unlike_23 : decode cX4_unlike 23 = .ok (.iload 4, 2) := by decide +kernel
theorem dX4_unlike_25 : decode cX4_unlike 25 = .ok (.invokevirtual 67, 3) := by decide +kernel
theorem dX4_unlike_28 : decode cX4_unlike 28 = .ok (.ifCond .eq 17, 3) := by decide +kernel
theorem dX4_unlike_31 : decode cX4_unlike 31 = .ok (.aload_n 0, 1) := by decide +kernel
theorem dX4_unlike_32 : decode cX4_unlike 32 = .ok (.aload_n 1, 1) := by decide +kernel
theorem dX4_unlike_33 : decode cX4_unlike 33 = .ok (.iload_n 2, 1) := by decide +kernel
theorem dX4_unlike_34 : decode cX4_unlike 34 = .ok (.iload 4, 2) := by decide +kernel
theorem dX4_unlike_36 : decode cX4_unlike 36 = .ok (.invokevirtual 70, 3) := by decide +kernel
theorem dX4_unlike_39 : decode cX4_unlike 39 = .ok (.ifCond .ne 6, 3) := by decide +kernel
theorem dX4_unlike_42 : decode cX4_unlike 42 = .ok (.iinc 3 1, 3) := by decide +kernel
theorem dX4_unlike_45 : decode cX4_unlike 45 = .ok (.iinc 4 1, 3) := by decide +kernel
theorem dX4_unlike_48 : decode cX4_unlike 48 = .ok (.goto (-43), 3) := by decide +kernel
theorem dX4_unlike_51 : decode cX4_unlike 51 = .ok (.iload_n 3, 1) := by decide +kernel
theorem dX4_unlike_52 : decode cX4_unlike 52 = .ok (.ireturn, 1) := by decide +kernel
theorem dX4_far_0 : decode cX4_far 0 = .ok (.iconst 0, 1) := by decide +kernel
theorem dX4_far_1 : decode cX4_far 1 = .ok (.istore_n 3, 1) := by decide +kernel
theorem dX4_far_2 : decode cX4_far 2 = .ok (.iconst 0, 1) := by decide +kernel
theorem dX4_far_3 : decode cX4_far 3 = .ok (.istore 4, 2) := by decide +kernel
theorem dX4_far_5 : decode cX4_far 5 = .ok (.iload 4, 2) := by decide +kernel
theorem dX4_far_7 : decode cX4_far 7 = .ok (.bipush 8, 2) := by decide +kernel
theorem dX4_far_9 : decode cX4_far 9 = .ok (.if_icmp .ge 66, 3) := by decide +kernel
theorem dX4_far_12 : decode cX4_far 12 = .ok (.aload_n 1, 1) := by decide +kernel
theorem dX4_far_13 : decode cX4_far 13 = .ok (.iload 4, 2) := by decide +kernel
theorem dX4_far_15 : decode cX4_far 15 = .ok (.invokevirtual 63, 3) := by decide +kernel
theorem dX4_far_18 : decode cX4_far 18 = .ok (.ifCond .eq 51, 3) := by decide +kernel
theorem dX4_far_21 : decode cX4_far 21 = .ok (.aload_n 0, 1) := by decide +kernel
theorem dX4_far_22 : decode cX4_far 22 = .ok (.iload_n 2, 1) := by decide +kernel
theorem dX4_far_23 : decode cX4_far 23 = .ok (.iload 4, 2) := by decide +kernel
theorem dX4_far_25 : decode cX4_far 25 = .ok (.invokevirtual 67, 3) := by decide +kernel
theorem dX4_far_28 : decode cX4_far 28 = .ok (.ifCond .eq 41, 3) := by decide +kernel
theorem dX4_far_31 : decode cX4_far 31 = .ok (.iload_n 3, 1) := by decide +kernel
theorem dX4_far_32 : decode cX4_far 32 = .ok (.aload_n 1, 1) := by decide +kernel
theorem dX4_far_33 : decode cX4_far 33 = .ok (.iload 4, 2) := by decide +kernel
theorem dX4_far_35 : decode cX4_far 35 = .ok (.invokevirtual 37, 3) := by decide +kernel
theorem dX4_far_38 : decode cX4_far 38 = .ok (.aload_n 0, 1) := by decide +kernel
theorem dX4_far_39 : decode cX4_far 39 = .ok (.iload_n 2, 1) := by decide +kernel
theorem dX4_far_40 : decode cX4_far 40 = .ok (.iload 4, 2) := by decide +kernel
theorem dX4_far_42 : decode cX4_far 42 = .ok (.iconst 0, 1) := by decide +kernel
theorem dX4_far_43 : decode cX4_far 43 = .ok (.invokevirtual 33, 3) := by decide +kernel
theorem dX4_far_46 : decode cX4_far 46 = .ok (.invokestatic 74, 3) := by decide +kernel
theorem dX4_far_49 : decode cX4_far 49 = .ok (.aload_n 1, 1) := by decide +kernel
theorem dX4_far_50 : decode cX4_far 50 = .ok (.iload 4, 2) := by decide +kernel
theorem dX4_far_52 : decode cX4_far 52 = .ok (.invokevirtual 43, 3) := by decide +kernel
theorem dX4_far_55 : decode cX4_far 55 = .ok (.aload_n 0, 1) := by decide +kernel
theorem dX4_far_56 : decode cX4_far 56 = .ok (.iload_n 2, 1) := by decide +kernel
theorem dX4_far_57 : decode cX4_far 57 = .ok (.iload 4, 2) := by decide +kernel
theorem dX4_far_59 : decode cX4_far 59 = .ok (.iconst 1, 1) := by decide +kernel
theorem dX4_far_60 : decode cX4_far 60 = .ok (.invokevirtual 33, 3) := by decide +kernel
theorem dX4_far_63 : decode cX4_far 63 = .ok (.invokestatic 74, 3) := by decide +kernel
theorem dX4_far_66 : decode cX4_far 66 = .ok (.iadd, 1) := by decide +kernel
theorem dX4_far_67 : decode cX4_far 67 = .ok (.iadd, 1) := by decide +kernel
theorem dX4_far_68 : decode cX4_far 68 = .ok (.istore_n 3, 1) := by decide +kernel
theorem dX4_far_69 : decode cX4_far 69 = .ok (.iinc 4 1, 3) := by decide +kernel
theorem dX4_far_72 : decode cX4_far 72 = .ok (.goto (-67), 3) := by decide +kernel
theorem dX4_far_75 : decode cX4_far 75 = .ok (.iload_n 3, 1) := by decide +kernel
theorem dX4_far_76 : decode cX4_far 76 = .ok (.ireturn, 1) := by decide +kernel
theorem dX5_init_0 : decode cX5_init 0 = .ok (.aload_n 0, 1) := by decide +kernel
theorem dX5_init_1 : decode cX5_init 1 = .ok (.invokespecial 3, 3) := by decide +kernel
theorem dX5_init_4 : decode cX5_init 4 = .ok (.aload_n 0, 1) := by decide +kernel
theorem dX5_init_5 : decode cX5_init 5 = .ok (.iconst 5, 1) := by decide +kernel
theorem dX5_init_6 : decode cX5_init 6 = .ok (.anewarray 9, 3) := by decide +kernel
theorem dX5_init_9 : decode cX5_init 9 = .ok (.putfield 11, 3) := by decide +kernel
theorem dX5_init_12 : decode cX5_init 12 = .ok (.iconst 0, 1) := by decide +kernel
theorem dX5_init_13 : decode cX5_init 13 = .ok (.istore_n 1, 1) := by decide +kernel
theorem dX5_init_14 : decode cX5_init 14 = .ok (.iload_n 1, 1) := by decide +kernel
theorem dX5_init_15 : decode cX5_init 15 = .ok (.iconst 5, 1) := by decide +kernel
theorem dX5_init_16 : decode cX5_init 16 = .ok (.if_icmp .ge 22, 3) := by decide +kernel
theorem dX5_init_19 : decode cX5_init 19 = .ok (.aload_n 0, 1) := by decide +kernel
theorem dX5_init_20 : decode cX5_init 20 = .ok (.getfield 11, 3) := by decide +kernel
theorem dX5_init_23 : decode cX5_init 23 = .ok (.iload_n 1, 1) := by decide +kernel
theorem dX5_init_24 : decode cX5_init 24 = .ok (.new 9, 3) := by decide +kernel
theorem dX5_init_27 : decode cX5_init 27 = .ok (.dup, 1) := by decide +kernel
theorem dX5_init_28 : decode cX5_init 28 = .ok (.invokespecial 17, 3) := by decide +kernel
theorem dX5_init_31 : decode cX5_init 31 = .ok (.aastore, 1) := by decide +kernel
theorem dX5_init_32 : decode cX5_init 32 = .ok (.iinc 1 1, 3) := by decide +kernel
theorem dX5_init_35 : decode cX5_init 35 = .ok (.goto (-21), 3) := by decide +kernel
theorem dX5_init_38 : decode cX5_init 38 = .ok (.return_, 1) := by decide +kernel
theorem dX5_push_0 : decode cX5_push 0 = .ok (.aload_n 0, 1) := by decide +kernel
theorem dX5_push_1 : decode cX5_push 1 = .ok (.getfield 18, 3) := by decide +kernel
theorem dX5_push_4 : decode cX5_push 4 = .ok (.iconst 5, 1) := by decide +kernel
theorem dX5_push_5 : decode cX5_push 5 = .ok (.if_icmp .ne 25, 3) := by decide +kernel
theorem dX5_push_8 : decode cX5_push 8 = .ok (.aload_n 0, 1) := by decide +kernel
theorem dX5_push_9 : decode cX5_push 9 = .ok (.aload_n 0, 1) := by decide +kernel
theorem dX5_push_10 : decode cX5_push 10 = .ok (.getfield 22, 3) := by decide +kernel
theorem dX5_push_13 : decode cX5_push 13 = .ok (.iconst 1, 1) := by decide +kernel
theorem dX5_push_14 : decode cX5_push 14 = .ok (.iadd, 1) := by decide +kernel
theorem dX5_push_15 : decode cX5_push 15 = .ok (.iconst 5, 1) := by decide +kernel
theorem dX5_push_16 : decode cX5_push 16 = .ok (.irem, 1) := by decide +kernel
theorem dX5_push_17 : decode cX5_push 17 = .ok (.putfield 22, 3) := by decide +kernel
theorem dX5_push_20 : decode cX5_push 20 = .ok (.aload_n 0, 1) := by decide +kernel
theorem dX5_push_21 : decode cX5_push 21 = .ok (.dup, 1) := by decide +kernel
theorem dX5_push_22 : decode cX5_push 22 = .ok (.getfield 18, 3) := by decide +kernel
theorem dX5_push_25 : decode cX5_push 25 = .ok (.iconst 1, 1) := by decide +kernel
theorem dX5_push_26 : decode cX5_push 26 = .ok (.isub, 1) := by decide +kernel
theorem dX5_push_27 : decode cX5_push 27 = .ok (.putfield 18, 3) := by decide +kernel
theorem dX5_push_30 : decode cX5_push 30 = .ok (.aload_n 0, 1) := by decide +kernel
theorem dX5_push_31 : decode cX5_push 31 = .ok (.getfield 11, 3) := by decide +kernel
theorem dX5_push_34 : decode cX5_push 34 = .ok (.aload_n 0, 1) := by decide +kernel
theorem dX5_push_35 : decode cX5_push 35 = .ok (.getfield 22, 3) := by decide +kernel
theorem dX5_push_38 : decode cX5_push 38 = .ok (.aload_n 0, 1) := by decide +kernel
theorem dX5_push_39 : decode cX5_push 39 = .ok (.getfield 18, 3) := by decide +kernel
theorem dX5_push_42 : decode cX5_push 42 = .ok (.iadd, 1) := by decide +kernel
theorem dX5_push_43 : decode cX5_push 43 = .ok (.iconst 5, 1) := by decide +kernel
theorem dX5_push_44 : decode cX5_push 44 = .ok (.irem, 1) := by decide +kernel
theorem dX5_push_45 : decode cX5_push 45 = .ok (.aaload, 1) := by decide +kernel
theorem dX5_push_46 : decode cX5_push 46 = .ok (.astore_n 2, 1) := by decide +kernel
theorem dX5_push_47 : decode cX5_push 47 = .ok (.aload_n 2, 1) := by decide +kernel
theorem dX5_push_48 : decode cX5_push 48 = .ok (.ifnull 18, 3) := by decide +kernel
theorem dX5_push_51 : decode cX5_push 51 = .ok (.aload_n 2, 1) := by decide +kernel
theorem dX5_push_52 : decode cX5_push 52 = .ok (.aload_n 1, 1) := by decide +kernel
theorem dX5_push_53 : decode cX5_push 53 = .ok (.invokevirtual 25, 3) := by decide +kernel
theorem dX5_push_56 : decode cX5_push 56 = .ok (.aload_n 0, 1) := by decide +kernel
theorem dX5_push_57 : decode cX5_push 57 = .ok (.dup, 1) := by decide +kernel
theorem dX5_push_58 : decode cX5_push 58 = .ok (.getfield 18, 3) := by decide +kernel
theorem dX5_push_61 : decode cX5_push 61 = .ok (.iconst 1, 1) := by decide +kernel
theorem dX5_push_62 : decode cX5_push 62 = .ok (.iadd, 1) := by decide +kernel
theorem dX5_push_63 : decode cX5_push 63 = .ok (.putfield 18, 3) := by decide +kernel
theorem dX5_push_66 : decode cX5_push 66 = .ok (.return_, 1) := by decide +kernel
theorem dX5_pop_0 : decode cX5_pop 0 = .ok (.aload_n 0, 1) := by decide +kernel
theorem dX5_pop_1 : decode cX5_pop 1 = .ok (.getfield 18, 3) := by decide +kernel
theorem dX5_pop_4 : decode cX5_pop 4 = .ok (.ifCond .le 33, 3) := by decide +kernel
theorem dX5_pop_7 : decode cX5_pop 7 = .ok (.aload_n 0, 1) := by decide +kernel
theorem dX5_pop_8 : decode cX5_pop 8 = .ok (.dup, 1) := by decide +kernel
theorem dX5_pop_9 : decode cX5_pop 9 = .ok (.getfield 18, 3) := by decide +kernel
theorem dX5_pop_12 : decode cX5_pop 12 = .ok (.iconst 1, 1) := by decide +kernel
theorem dX5_pop_13 : decode cX5_pop 13 = .ok (.isub, 1) := by decide +kernel
theorem dX5_pop_14 : decode cX5_pop 14 = .ok (.putfield 18, 3) := by decide +kernel
theorem dX5_pop_17 : decode cX5_pop 17 = .ok (.aload_n 1, 1) := by decide +kernel
theorem dX5_pop_18 : decode cX5_pop 18 = .ok (.aload_n 0, 1) := by decide +kernel
theorem dX5_pop_19 : decode cX5_pop 19 = .ok (.getfield 11, 3) := by decide +kernel
theorem dX5_pop_22 : decode cX5_pop 22 = .ok (.aload_n 0, 1) := by decide +kernel
theorem dX5_pop_23 : decode cX5_pop 23 = .ok (.getfield 22, 3) := by decide +kernel
theorem dX5_pop_26 : decode cX5_pop 26 = .ok (.aload_n 0, 1) := by decide +kernel
theorem dX5_pop_27 : decode cX5_pop 27 = .ok (.getfield 18, 3) := by decide +kernel
theorem dX5_pop_30 : decode cX5_pop 30 = .ok (.iadd, 1) := by decide +kernel
theorem dX5_pop_31 : decode cX5_pop 31 = .ok (.iconst 5, 1) := by decide +kernel
theorem dX5_pop_32 : decode cX5_pop 32 = .ok (.irem, 1) := by decide +kernel
theorem dX5_pop_33 : decode cX5_pop 33 = .ok (.aaload, 1) := by decide +kernel
theorem dX5_pop_34 : decode cX5_pop 34 = .ok (.invokevirtual 25, 3) := by decide +kernel
theorem dX5_pop_37 : decode cX5_pop 37 = .ok (.aload_n 0, 1) := by decide +kernel
theorem dX5_pop_38 : decode cX5_pop 38 = .ok (.getfield 18, 3) := by decide +kernel
theorem dX5_pop_41 : decode cX5_pop 41 = .ok (.ireturn, 1) := by decide +kernel
theorem dX6_init_0 : decode cX6_init 0 = .ok (.aload_n 0, 1) := by decide +kernel
theorem dX6_init_1 : decode cX6_init 1 = .ok (.invokespecial 5, 3) := by decide +kernel
theorem dX6_init_4 : decode cX6_init 4 = .ok (.aload_n 0, 1) := by decide +kernel
theorem dX6_init_5 : decode cX6_init 5 = .ok (.bipush 120, 2) := by decide +kernel
theorem dX6_init_7 : decode cX6_init 7 = .ok (.newarray .int, 2) := by decide +kernel
theorem dX6_init_9 : decode cX6_init 9 = .ok (.putfield 11, 3) := by decide +kernel
theorem dX6_init_12 : decode cX6_init 12 = .ok (.aload_n 0, 1) := by decide +kernel
theorem dX6_init_13 : decode cX6_init 13 = .ok (.bipush 60, 2) := by decide +kernel
theorem dX6_init_15 : decode cX6_init 15 = .ok (.newarray .int, 2) := by decide +kernel
theorem dX6_init_17 : decode cX6_init 17 = .ok (.putfield 15, 3) := by decide +kernel
theorem dX6_init_20 : decode cX6_init 20 = .ok (.aload_n 0, 1) := by decide +kernel
theorem dX6_init_21 : decode cX6_init 21 = .ok (.sipush 240, 3) := by decide +kernel
theorem dX6_init_24 : decode cX6_init 24 = .ok (.newarray .int, 2) := by decide +kernel
theorem dX6_init_26 : decode cX6_init 26 = .ok (.putfield 18, 3) := by decide +kernel
theorem dX6_init_29 : decode cX6_init 29 = .ok (.return_, 1) := by decide +kernel
theorem dX6_againstByte_0 : decode cX6_againstByte 0 = .ok (.iload_n 1, 1) := by decide +kernel
theorem dX6_againstByte_1 : decode cX6_againstByte 1 = .ok (.iconst 0, 1) := by decide +kernel
theorem dX6_againstByte_2 : decode cX6_againstByte 2 = .ok (.bipush 127, 2) := by decide +kernel
theorem dX6_againstByte_4 : decode cX6_againstByte 4 = .ok (.invokestatic 21, 3) := by decide +kernel
theorem dX6_againstByte_7 : decode cX6_againstByte 7 = .ok (.ifCond .ne 6, 3) := by decide +kernel
theorem dX6_againstByte_10 : decode cX6_againstByte 10 = .ok (.bipush (-2), 2) := by decide +kernel
theorem dX6_againstByte_12 : decode cX6_againstByte 12 = .ok (.ireturn, 1) := by decide +kernel
theorem dX6_againstByte_13 : decode cX6_againstByte 13 = .ok (.aload_n 0, 1) := by decide +kernel
theorem dX6_againstByte_14 : decode cX6_againstByte 14 = .ok (.getfield 25, 3) := by decide +kernel
theorem dX6_againstByte_17 : decode cX6_againstByte 17 = .ok (.bipush 120, 2) := by decide +kernel
theorem dX6_againstByte_19 : decode cX6_againstByte 19 = .ok (.if_icmp .ge 7, 3) := by decide +kernel
theorem dX6_againstByte_22 : decode cX6_againstByte 22 = .ok (.iconst 0, 1) := by decide +kernel
theorem dX6_againstByte_23 : decode cX6_againstByte 23 = .ok (.goto 5, 3) := by decide +kernel
theorem dX6_againstByte_26 : decode cX6_againstByte 26 = .ok (.bipush (-4), 2) := by decide +kernel
theorem dX6_againstByte_28 : decode cX6_againstByte 28 = .ok (.ireturn, 1) := by decide +kernel
theorem dX6_append_0 : decode cX6_append 0 = .ok (.aload_n 0, 1) := by decide +kernel
theorem dX6_append_1 : decode cX6_append 1 = .ok (.getfield 25, 3) := by decide +kernel
theorem dX6_append_4 : decode cX6_append 4 = .ok (.ifCond .lt 32, 3) := by decide +kernel
theorem dX6_append_7 : decode cX6_append 7 = .ok (.aload_n 0, 1) := by decide +kernel
theorem dX6_append_8 : decode cX6_append 8 = .ok (.getfield 25, 3) := by decide +kernel
theorem dX6_append_11 : decode cX6_append 11 = .ok (.bipush 120, 2) := by decide +kernel
theorem dX6_append_13 : decode cX6_append 13 = .ok (.if_icmp .ge 23, 3) := by decide +kernel
theorem dX6_append_16 : decode cX6_append 16 = .ok (.aload_n 0, 1) := by decide +kernel
theorem dX6_append_17 : decode cX6_append 17 = .ok (.getfield 11, 3) := by decide +kernel
theorem dX6_append_20 : decode cX6_append 20 = .ok (.aload_n 0, 1) := by decide +kernel
theorem dX6_append_21 : decode cX6_append 21 = .ok (.getfield 25, 3) := by decide +kernel
theorem dX6_append_24 : decode cX6_append 24 = .ok (.iload_n 1, 1) := by decide +kernel
theorem dX6_append_25 : decode cX6_append 25 = .ok (.iastore, 1) := by decide +kernel
theorem dX6_append_26 : decode cX6_append 26 = .ok (.aload_n 0, 1) := by decide +kernel
theorem dX6_append_27 : decode cX6_append 27 = .ok (.dup, 1) := by decide +kernel
theorem dX6_append_28 : decode cX6_append 28 = .ok (.getfield 25, 3) := by decide +kernel
theorem dX6_append_31 : decode cX6_append 31 = .ok (.iconst 1, 1) := by decide +kernel
theorem dX6_append_32 : decode cX6_append 32 = .ok (.iadd, 1) := by decide +kernel
theorem dX6_append_33 : decode cX6_append 33 = .ok (.putfield 25, 3) := by decide +kernel
theorem dX6_append_36 : decode cX6_append 36 = .ok (.aload_n 0, 1) := by decide +kernel
theorem dX6_append_37 : decode cX6_append 37 = .ok (.getfield 25, 3) := by decide +kernel
theorem dX6_append_40 : decode cX6_append 40 = .ok (.ireturn, 1) := by decide +kernel
theorem dX6_empty_0 : decode cX6_empty 0 = .ok (.aload_n 0, 1) := by decide +kernel
theorem dX6_empty_1 : decode cX6_empty 1 = .ok (.getfield 25, 3) := by decide +kernel
theorem dX6_empty_4 : decode cX6_empty 4 = .ok (.istore_n 1, 1) := by decide +kernel
theorem dX6_empty_5 : decode cX6_empty 5 = .ok (.aload_n 0, 1) := by decide +kernel
theorem dX6_empty_6 : decode cX6_empty 6 = .ok (.iconst 0, 1) := by decide +kernel
theorem dX6_empty_7 : decode cX6_empty 7 = .ok (.putfield 25, 3) := by decide +kernel
theorem dX6_empty_10 : decode cX6_empty 10 = .ok (.iload_n 1, 1) := by decide +kernel
theorem dX6_empty_11 : decode cX6_empty 11 = .ok (.ireturn, 1) := by decide +kernel
theorem dX6_letter_0 : decode cX6_letter 0 = .ok (.iload_n 1, 1) := by decide +kernel
theorem dX6_letter_1 : decode cX6_letter 1 = .ok (.iconst 0, 1) := by decide +kernel
theorem dX6_letter_2 : decode cX6_letter 2 = .ok (.bipush 59, 2) := by decide +kernel
theorem dX6_letter_4 : decode cX6_letter 4 = .ok (.invokestatic 21, 3) := by decide +kernel
theorem dX6_letter_7 : decode cX6_letter 7 = .ok (.ifCond .eq 12, 3) := by decide +kernel
theorem dX6_letter_10 : decode cX6_letter 10 = .ok (.aload_n 0, 1) := by decide +kernel
theorem dX6_letter_11 : decode cX6_letter 11 = .ok (.getfield 15, 3) := by decide +kernel
theorem dX6_letter_14 : decode cX6_letter 14 = .ok (.iload_n 1, 1) := by decide +kernel
theorem dX6_letter_15 : decode cX6_letter 15 = .ok (.iaload, 1) := by decide +kernel
theorem dX6_letter_16 : decode cX6_letter 16 = .ok (.goto 4, 3) := by decide +kernel
theorem dX6_letter_19 : decode cX6_letter 19 = .ok (.iconst (-1), 1) := by decide +kernel
theorem dX6_letter_20 : decode cX6_letter 20 = .ok (.ireturn, 1) := by decide +kernel
theorem dX6_number_0 : decode cX6_number 0 = .ok (.iload_n 1, 1) := by decide +kernel
theorem dX6_number_1 : decode cX6_number 1 = .ok (.iconst 0, 1) := by decide +kernel
theorem dX6_number_2 : decode cX6_number 2 = .ok (.bipush 59, 2) := by decide +kernel
theorem dX6_number_4 : decode cX6_number 4 = .ok (.invokestatic 21, 3) := by decide +kernel
theorem dX6_number_7 : decode cX6_number 7 = .ok (.ifCond .eq 16, 3) := by decide +kernel
theorem dX6_number_10 : decode cX6_number 10 = .ok (.iload_n 2, 1) := by decide +kernel
theorem dX6_number_11 : decode cX6_number 11 = .ok (.iconst 0, 1) := by decide +kernel
theorem dX6_number_12 : decode cX6_number 12 = .ok (.iconst 3, 1) := by decide +kernel
theorem dX6_number_13 : decode cX6_number 13 = .ok (.invokestatic 21, 3) := by decide +kernel
theorem dX6_number_16 : decode cX6_number 16 = .ok (.ifCond .eq 7, 3) := by decide +kernel
theorem dX6_number_19 : decode cX6_number 19 = .ok (.iconst 1, 1) := by decide +kernel
theorem dX6_number_20 : decode cX6_number 20 = .ok (.goto 4, 3) := by decide +kernel
theorem dX6_number_23 : decode cX6_number 23 = .ok (.iconst 0, 1) := by decide +kernel
theorem dX6_number_24 : decode cX6_number 24 = .ok (.istore_n 3, 1) := by decide +kernel
theorem dX6_number_25 : decode cX6_number 25 = .ok (.iload_n 3, 1) := by decide +kernel
theorem dX6_number_26 : decode cX6_number 26 = .ok (.ifCond .eq 16, 3) := by decide +kernel
theorem dX6_number_29 : decode cX6_number 29 = .ok (.aload_n 0, 1) := by decide +kernel
theorem dX6_number_30 : decode cX6_number 30 = .ok (.getfield 18, 3) := by decide +kernel
theorem dX6_number_33 : decode cX6_number 33 = .ok (.iload_n 1, 1) := by decide +kernel
theorem dX6_number_34 : decode cX6_number 34 = .ok (.iconst 4, 1) := by decide +kernel
theorem dX6_number_35 : decode cX6_number 35 = .ok (.imul, 1) := by decide +kernel
theorem dX6_number_36 : decode cX6_number 36 = .ok (.iload_n 2, 1) := by decide +kernel
theorem dX6_number_37 : decode cX6_number 37 = .ok (.iadd, 1) := by decide +kernel
theorem dX6_number_38 : decode cX6_number 38 = .ok (.iaload, 1) := by decide +kernel
theorem dX6_number_39 : decode cX6_number 39 = .ok (.goto 4, 3) := by decide +kernel
theorem dX6_number_42 : decode cX6_number 42 = .ok (.iconst (-1), 1) := by decide +kernel
theorem dX6_number_43 : decode cX6_number 43 = .ok (.ireturn, 1) := by decide +kernel
theorem dX6_settingOf_0 : decode cX6_settingOf 0 = .ok (.iload_n 0, 1) := by decide +kernel
theorem dX6_settingOf_1 : decode cX6_settingOf 1 = .ok (.lookupswitch 61 #[(98, 55), (99, 59), (103, 53), (109, 51), (114, 57)], 51) := by decide +kernel
theorem dX6_settingOf_52 : decode cX6_settingOf 52 = .ok (.iconst 0, 1) := by decide +kernel
theorem dX6_settingOf_53 : decode cX6_settingOf 53 = .ok (.ireturn, 1) := by decide +kernel
theorem dX6_settingOf_54 : decode cX6_settingOf 54 = .ok (.iconst 1, 1) := by decide +kernel
theorem dX6_settingOf_55 : decode cX6_settingOf 55 = .ok (.ireturn, 1) := by decide +kernel
theorem dX6_settingOf_56 : decode cX6_settingOf 56 = .ok (.iconst 2, 1) := by decide +kernel
theorem dX6_settingOf_57 : decode cX6_settingOf 57 = .ok (.ireturn, 1) := by decide +kernel
theorem dX6_settingOf_58 : decode cX6_settingOf 58 = .ok (.iconst 3, 1) := by decide +kernel
theorem dX6_settingOf_59 : decode cX6_settingOf 59 = .ok (.ireturn, 1) := by decide +kernel
theorem dX6_settingOf_60 : decode cX6_settingOf 60 = .ok (.iconst 4, 1) := by decide +kernel
theorem dX6_settingOf_61 : decode cX6_settingOf 61 = .ok (.ireturn, 1) := by decide +kernel
theorem dX6_settingOf_62 : decode cX6_settingOf 62 = .ok (.iconst (-1), 1) := by decide +kernel
theorem dX6_settingOf_63 : decode cX6_settingOf 63 = .ok (.ireturn, 1) := by decide +kernel
theorem dX6_numbersBehind_0 : decode cX6_numbersBehind 0 = .ok (.iload_n 0, 1) := by decide +kernel
theorem dX6_numbersBehind_1 : decode cX6_numbersBehind 1 = .ok (.lookupswitch 61 #[(97, 59), (105, 51), (111, 57), (112, 53), (119, 55)], 51) := by decide +kernel
theorem dX6_numbersBehind_52 : decode cX6_numbersBehind 52 = .ok (.iconst 4, 1) := by decide +kernel
theorem dX6_numbersBehind_53 : decode cX6_numbersBehind 53 = .ok (.ireturn, 1) := by decide +kernel
theorem dX6_numbersBehind_54 : decode cX6_numbersBehind 54 = .ok (.iconst 3, 1) := by decide +kernel
theorem dX6_numbersBehind_55 : decode cX6_numbersBehind 55 = .ok (.ireturn, 1) := by decide +kernel
theorem dX6_numbersBehind_56 : decode cX6_numbersBehind 56 = .ok (.iconst 2, 1) := by decide +kernel
theorem dX6_numbersBehind_57 : decode cX6_numbersBehind 57 = .ok (.ireturn, 1) := by decide +kernel
theorem dX6_numbersBehind_58 : decode cX6_numbersBehind 58 = .ok (.iconst 1, 1) := by decide +kernel
theorem dX6_numbersBehind_59 : decode cX6_numbersBehind 59 = .ok (.ireturn, 1) := by decide +kernel
theorem dX6_numbersBehind_60 : decode cX6_numbersBehind 60 = .ok (.iconst 0, 1) := by decide +kernel
theorem dX6_numbersBehind_61 : decode cX6_numbersBehind 61 = .ok (.ireturn, 1) := by decide +kernel
theorem dX6_numbersBehind_62 : decode cX6_numbersBehind 62 = .ok (.iload_n 0, 1) := by decide +kernel
theorem dX6_numbersBehind_63 : decode cX6_numbersBehind 63 = .ok (.invokestatic 29, 3) := by decide +kernel
theorem dX6_numbersBehind_66 : decode cX6_numbersBehind 66 = .ok (.iconst (-1), 1) := by decide +kernel
theorem dX6_numbersBehind_67 : decode cX6_numbersBehind 67 = .ok (.if_icmp .ne 7, 3) := by decide +kernel
theorem dX6_numbersBehind_70 : decode cX6_numbersBehind 70 = .ok (.iconst (-1), 1) := by decide +kernel
theorem dX6_numbersBehind_71 : decode cX6_numbersBehind 71 = .ok (.goto 4, 3) := by decide +kernel
theorem dX6_numbersBehind_74 : decode cX6_numbersBehind 74 = .ok (.iconst 1, 1) := by decide +kernel
theorem dX6_numbersBehind_75 : decode cX6_numbersBehind 75 = .ok (.ireturn, 1) := by decide +kernel
theorem dX6_findFault_0 : decode cX6_findFault 0 = .ok (.aload_n 0, 1) := by decide +kernel
theorem dX6_findFault_1 : decode cX6_findFault 1 = .ok (.iconst 0, 1) := by decide +kernel
theorem dX6_findFault_2 : decode cX6_findFault 2 = .ok (.putfield 33, 3) := by decide +kernel
theorem dX6_findFault_5 : decode cX6_findFault 5 = .ok (.aload_n 0, 1) := by decide +kernel
theorem dX6_findFault_6 : decode cX6_findFault 6 = .ok (.iconst 0, 1) := by decide +kernel
theorem dX6_findFault_7 : decode cX6_findFault 7 = .ok (.putfield 36, 3) := by decide +kernel
theorem dX6_findFault_10 : decode cX6_findFault 10 = .ok (.aload_n 0, 1) := by decide +kernel
theorem dX6_findFault_11 : decode cX6_findFault 11 = .ok (.invokevirtual 39, 3) := by decide +kernel
theorem dX6_findFault_14 : decode cX6_findFault 14 = .ok (.aload_n 0, 1) := by decide +kernel
theorem dX6_findFault_15 : decode cX6_findFault 15 = .ok (.getfield 33, 3) := by decide +kernel
theorem dX6_findFault_18 : decode cX6_findFault 18 = .ok (.aload_n 0, 1) := by decide +kernel
theorem dX6_findFault_19 : decode cX6_findFault 19 = .ok (.getfield 25, 3) := by decide +kernel
theorem dX6_findFault_22 : decode cX6_findFault 22 = .ok (.if_icmp .lt 8, 3) := by decide +kernel
theorem dX6_findFault_25 : decode cX6_findFault 25 = .ok (.aload_n 0, 1) := by decide +kernel
theorem dX6_findFault_26 : decode cX6_findFault 26 = .ok (.getfield 25, 3) := by decide +kernel
theorem dX6_findFault_29 : decode cX6_findFault 29 = .ok (.ireturn, 1) := by decide +kernel
theorem dX6_findFault_30 : decode cX6_findFault 30 = .ok (.iconst 0, 1) := by decide +kernel
theorem dX6_findFault_31 : decode cX6_findFault 31 = .ok (.istore_n 1, 1) := by decide +kernel
theorem dX6_findFault_32 : decode cX6_findFault 32 = .ok (.iload_n 1, 1) := by decide +kernel
theorem dX6_findFault_33 : decode cX6_findFault 33 = .ok (.bipush 60, 2) := by decide +kernel
theorem dX6_findFault_35 : decode cX6_findFault 35 = .ok (.if_icmp .ge 47, 3) := by decide +kernel
theorem dX6_findFault_38 : decode cX6_findFault 38 = .ok (.aload_n 0, 1) := by decide +kernel
theorem dX6_findFault_39 : decode cX6_findFault 39 = .ok (.getfield 33, 3) := by decide +kernel
theorem dX6_findFault_42 : decode cX6_findFault 42 = .ok (.aload_n 0, 1) := by decide +kernel
theorem dX6_findFault_43 : decode cX6_findFault 43 = .ok (.getfield 25, 3) := by decide +kernel
theorem dX6_findFault_46 : decode cX6_findFault 46 = .ok (.if_icmp .ge 36, 3) := by decide +kernel
theorem dX6_findFault_49 : decode cX6_findFault 49 = .ok (.aload_n 0, 1) := by decide +kernel
theorem dX6_findFault_50 : decode cX6_findFault 50 = .ok (.iload_n 1, 1) := by decide +kernel
theorem dX6_findFault_51 : decode cX6_findFault 51 = .ok (.invokevirtual 42, 3) := by decide +kernel
theorem dX6_findFault_54 : decode cX6_findFault 54 = .ok (.ifCond .ne 8, 3) := by decide +kernel
theorem dX6_findFault_57 : decode cX6_findFault 57 = .ok (.aload_n 0, 1) := by decide +kernel
theorem dX6_findFault_58 : decode cX6_findFault 58 = .ok (.getfield 33, 3) := by decide +kernel
theorem dX6_findFault_61 : decode cX6_findFault 61 = .ok (.ireturn, 1) := by decide +kernel
theorem dX6_findFault_62 : decode cX6_findFault 62 = .ok (.aload_n 0, 1) := by decide +kernel
theorem dX6_findFault_63 : decode cX6_findFault 63 = .ok (.dup, 1) := by decide +kernel
theorem dX6_findFault_64 : decode cX6_findFault 64 = .ok (.getfield 36, 3) := by decide +kernel
theorem dX6_findFault_67 : decode cX6_findFault 67 = .ok (.iconst 1, 1) := by decide +kernel
theorem dX6_findFault_68 : decode cX6_findFault 68 = .ok (.iadd, 1) := by decide +kernel
theorem dX6_findFault_69 : decode cX6_findFault 69 = .ok (.putfield 36, 3) := by decide +kernel
theorem dX6_findFault_72 : decode cX6_findFault 72 = .ok (.aload_n 0, 1) := by decide +kernel
theorem dX6_findFault_73 : decode cX6_findFault 73 = .ok (.invokevirtual 39, 3) := by decide +kernel
theorem dX6_findFault_76 : decode cX6_findFault 76 = .ok (.iinc 1 1, 3) := by decide +kernel
theorem dX6_findFault_79 : decode cX6_findFault 79 = .ok (.goto (-47), 3) := by decide +kernel
theorem dX6_findFault_82 : decode cX6_findFault 82 = .ok (.iconst (-1), 1) := by decide +kernel
theorem dX6_findFault_83 : decode cX6_findFault 83 = .ok (.ireturn, 1) := by decide +kernel
theorem dX6_here_0 : decode cX6_here 0 = .ok (.aload_n 0, 1) := by decide +kernel
theorem dX6_here_1 : decode cX6_here 1 = .ok (.getfield 33, 3) := by decide +kernel
theorem dX6_here_4 : decode cX6_here 4 = .ok (.ifCond .lt 35, 3) := by decide +kernel
theorem dX6_here_7 : decode cX6_here 7 = .ok (.aload_n 0, 1) := by decide +kernel
theorem dX6_here_8 : decode cX6_here 8 = .ok (.getfield 33, 3) := by decide +kernel
theorem dX6_here_11 : decode cX6_here 11 = .ok (.aload_n 0, 1) := by decide +kernel
theorem dX6_here_12 : decode cX6_here 12 = .ok (.getfield 25, 3) := by decide +kernel
theorem dX6_here_15 : decode cX6_here 15 = .ok (.if_icmp .ge 24, 3) := by decide +kernel
theorem dX6_here_18 : decode cX6_here 18 = .ok (.aload_n 0, 1) := by decide +kernel
theorem dX6_here_19 : decode cX6_here 19 = .ok (.getfield 33, 3) := by decide +kernel
theorem dX6_here_22 : decode cX6_here 22 = .ok (.bipush 120, 2) := by decide +kernel
theorem dX6_here_24 : decode cX6_here 24 = .ok (.if_icmp .ge 15, 3) := by decide +kernel
theorem dX6_here_27 : decode cX6_here 27 = .ok (.aload_n 0, 1) := by decide +kernel
theorem dX6_here_28 : decode cX6_here 28 = .ok (.getfield 11, 3) := by decide +kernel
theorem dX6_here_31 : decode cX6_here 31 = .ok (.aload_n 0, 1) := by decide +kernel
theorem dX6_here_32 : decode cX6_here 32 = .ok (.getfield 33, 3) := by decide +kernel
theorem dX6_here_35 : decode cX6_here 35 = .ok (.iaload, 1) := by decide +kernel
theorem dX6_here_36 : decode cX6_here 36 = .ok (.goto 4, 3) := by decide +kernel
theorem dX6_here_39 : decode cX6_here 39 = .ok (.iconst (-1), 1) := by decide +kernel
theorem dX6_here_40 : decode cX6_here 40 = .ok (.ireturn, 1) := by decide +kernel
theorem dX6_isFigureHere_0 : decode cX6_isFigureHere 0 = .ok (.aload_n 0, 1) := by decide +kernel
theorem dX6_isFigureHere_1 : decode cX6_isFigureHere 1 = .ok (.invokevirtual 46, 3) := by decide +kernel
theorem dX6_isFigureHere_4 : decode cX6_isFigureHere 4 = .ok (.bipush 48, 2) := by decide +kernel
theorem dX6_isFigureHere_6 : decode cX6_isFigureHere 6 = .ok (.bipush 57, 2) := by decide +kernel
theorem dX6_isFigureHere_8 : decode cX6_isFigureHere 8 = .ok (.invokestatic 21, 3) := by decide +kernel
theorem dX6_isFigureHere_11 : decode cX6_isFigureHere 11 = .ok (.ireturn, 1) := by decide +kernel
theorem dX6_skipBlanks_0 : decode cX6_skipBlanks 0 = .ok (.iconst 0, 1) := by decide +kernel
theorem dX6_skipBlanks_1 : decode cX6_skipBlanks 1 = .ok (.istore_n 1, 1) := by decide +kernel
theorem dX6_skipBlanks_2 : decode cX6_skipBlanks 2 = .ok (.iload_n 1, 1) := by decide +kernel
theorem dX6_skipBlanks_3 : decode cX6_skipBlanks 3 = .ok (.bipush 120, 2) := by decide +kernel
theorem dX6_skipBlanks_5 : decode cX6_skipBlanks 5 = .ok (.if_icmp .ge 28, 3) := by decide +kernel
theorem dX6_skipBlanks_8 : decode cX6_skipBlanks 8 = .ok (.aload_n 0, 1) := by decide +kernel
theorem dX6_skipBlanks_9 : decode cX6_skipBlanks 9 = .ok (.invokevirtual 46, 3) := by decide +kernel
theorem dX6_skipBlanks_12 : decode cX6_skipBlanks 12 = .ok (.bipush 32, 2) := by decide +kernel
theorem dX6_skipBlanks_14 : decode cX6_skipBlanks 14 = .ok (.if_icmp .ne 19, 3) := by decide +kernel
theorem dX6_skipBlanks_17 : decode cX6_skipBlanks 17 = .ok (.aload_n 0, 1) := by decide +kernel
theorem dX6_skipBlanks_18 : decode cX6_skipBlanks 18 = .ok (.dup, 1) := by decide +kernel
theorem dX6_skipBlanks_19 : decode cX6_skipBlanks 19 = .ok (.getfield 33, 3) := by decide +kernel
theorem dX6_skipBlanks_22 : decode cX6_skipBlanks 22 = .ok (.iconst 1, 1) := by decide +kernel
theorem dX6_skipBlanks_23 : decode cX6_skipBlanks 23 = .ok (.iadd, 1) := by decide +kernel
theorem dX6_skipBlanks_24 : decode cX6_skipBlanks 24 = .ok (.putfield 33, 3) := by decide +kernel
theorem dX6_skipBlanks_27 : decode cX6_skipBlanks 27 = .ok (.iinc 1 1, 3) := by decide +kernel
theorem dX6_skipBlanks_30 : decode cX6_skipBlanks 30 = .ok (.goto (-28), 3) := by decide +kernel
theorem dX6_skipBlanks_33 : decode cX6_skipBlanks 33 = .ok (.return_, 1) := by decide +kernel
theorem dX6_findOrder_0 : decode cX6_findOrder 0 = .ok (.aload_n 0, 1) := by decide +kernel
theorem dX6_findOrder_1 : decode cX6_findOrder 1 = .ok (.invokevirtual 46, 3) := by decide +kernel
theorem dX6_findOrder_4 : decode cX6_findOrder 4 = .ok (.istore_n 2, 1) := by decide +kernel
theorem dX6_findOrder_5 : decode cX6_findOrder 5 = .ok (.iload_n 2, 1) := by decide +kernel
theorem dX6_findOrder_6 : decode cX6_findOrder 6 = .ok (.invokestatic 50, 3) := by decide +kernel
theorem dX6_findOrder_9 : decode cX6_findOrder 9 = .ok (.istore_n 3, 1) := by decide +kernel
theorem dX6_findOrder_10 : decode cX6_findOrder 10 = .ok (.iload_n 3, 1) := by decide +kernel
theorem dX6_findOrder_11 : decode cX6_findOrder 11 = .ok (.iconst (-1), 1) := by decide +kernel
theorem dX6_findOrder_12 : decode cX6_findOrder 12 = .ok (.if_icmp .eq 13, 3) := by decide +kernel
theorem dX6_findOrder_15 : decode cX6_findOrder 15 = .ok (.iload_n 1, 1) := by decide +kernel
theorem dX6_findOrder_16 : decode cX6_findOrder 16 = .ok (.iconst 0, 1) := by decide +kernel
theorem dX6_findOrder_17 : decode cX6_findOrder 17 = .ok (.bipush 59, 2) := by decide +kernel
theorem dX6_findOrder_19 : decode cX6_findOrder 19 = .ok (.invokestatic 21, 3) := by decide +kernel
theorem dX6_findOrder_22 : decode cX6_findOrder 22 = .ok (.ifCond .ne 5, 3) := by decide +kernel
theorem dX6_findOrder_25 : decode cX6_findOrder 25 = .ok (.iconst 0, 1) := by decide +kernel
theorem dX6_findOrder_26 : decode cX6_findOrder 26 = .ok (.ireturn, 1) := by decide +kernel
theorem dX6_findOrder_27 : decode cX6_findOrder 27 = .ok (.aload_n 0, 1) := by decide +kernel
theorem dX6_findOrder_28 : decode cX6_findOrder 28 = .ok (.getfield 15, 3) := by decide +kernel
theorem dX6_findOrder_31 : decode cX6_findOrder 31 = .ok (.iload_n 1, 1) := by decide +kernel
theorem dX6_findOrder_32 : decode cX6_findOrder 32 = .ok (.iload_n 2, 1) := by decide +kernel
theorem dX6_findOrder_33 : decode cX6_findOrder 33 = .ok (.iastore, 1) := by decide +kernel
theorem dX6_findOrder_34 : decode cX6_findOrder 34 = .ok (.aload_n 0, 1) := by decide +kernel
theorem dX6_findOrder_35 : decode cX6_findOrder 35 = .ok (.dup, 1) := by decide +kernel
theorem dX6_findOrder_36 : decode cX6_findOrder 36 = .ok (.getfield 33, 3) := by decide +kernel
theorem dX6_findOrder_39 : decode cX6_findOrder 39 = .ok (.iconst 1, 1) := by decide +kernel
theorem dX6_findOrder_40 : decode cX6_findOrder 40 = .ok (.iadd, 1) := by decide +kernel
theorem dX6_findOrder_41 : decode cX6_findOrder 41 = .ok (.putfield 33, 3) := by decide +kernel
theorem dX6_findOrder_44 : decode cX6_findOrder 44 = .ok (.iconst 0, 1) := by decide +kernel
theorem dX6_findOrder_45 : decode cX6_findOrder 45 = .ok (.istore 4, 2) := by decide +kernel
theorem dX6_findOrder_47 : decode cX6_findOrder 47 = .ok (.iload 4, 2) := by decide +kernel
theorem dX6_findOrder_49 : decode cX6_findOrder 49 = .ok (.iload_n 3, 1) := by decide +kernel
theorem dX6_findOrder_50 : decode cX6_findOrder 50 = .ok (.if_icmp .ge 34, 3) := by decide +kernel
theorem dX6_findOrder_53 : decode cX6_findOrder 53 = .ok (.iload 4, 2) := by decide +kernel
theorem dX6_findOrder_55 : decode cX6_findOrder 55 = .ok (.iconst 4, 1) := by decide +kernel
theorem dX6_findOrder_56 : decode cX6_findOrder 56 = .ok (.if_icmp .ge 28, 3) := by decide +kernel
theorem dX6_findOrder_59 : decode cX6_findOrder 59 = .ok (.aload_n 0, 1) := by decide +kernel
theorem dX6_findOrder_60 : decode cX6_findOrder 60 = .ok (.invokevirtual 39, 3) := by decide +kernel
theorem dX6_findOrder_63 : decode cX6_findOrder 63 = .ok (.aload_n 0, 1) := by decide +kernel
theorem dX6_findOrder_64 : decode cX6_findOrder 64 = .ok (.iload_n 1, 1) := by decide +kernel
theorem dX6_findOrder_65 : decode cX6_findOrder 65 = .ok (.iconst 4, 1) := by decide +kernel
theorem dX6_findOrder_66 : decode cX6_findOrder 66 = .ok (.imul, 1) := by decide +kernel
theorem dX6_findOrder_67 : decode cX6_findOrder 67 = .ok (.iload 4, 2) := by decide +kernel
theorem dX6_findOrder_69 : decode cX6_findOrder 69 = .ok (.iadd, 1) := by decide +kernel
theorem dX6_findOrder_70 : decode cX6_findOrder 70 = .ok (.invokevirtual 53, 3) := by decide +kernel
theorem dX6_findOrder_73 : decode cX6_findOrder 73 = .ok (.ifCond .ne 5, 3) := by decide +kernel
theorem dX6_findOrder_76 : decode cX6_findOrder 76 = .ok (.iconst 0, 1) := by decide +kernel
theorem dX6_findOrder_77 : decode cX6_findOrder 77 = .ok (.ireturn, 1) := by decide +kernel
theorem dX6_findOrder_78 : decode cX6_findOrder 78 = .ok (.iinc 4 1, 3) := by decide +kernel
theorem dX6_findOrder_81 : decode cX6_findOrder 81 = .ok (.goto (-34), 3) := by decide +kernel
theorem dX6_findOrder_84 : decode cX6_findOrder 84 = .ok (.aload_n 0, 1) := by decide +kernel
theorem dX6_findOrder_85 : decode cX6_findOrder 85 = .ok (.invokevirtual 39, 3) := by decide +kernel
theorem dX6_findOrder_88 : decode cX6_findOrder 88 = .ok (.aload_n 0, 1) := by decide +kernel
theorem dX6_findOrder_89 : decode cX6_findOrder 89 = .ok (.invokevirtual 46, 3) := by decide +kernel
theorem dX6_findOrder_92 : decode cX6_findOrder 92 = .ok (.bipush 59, 2) := by decide +kernel
theorem dX6_findOrder_94 : decode cX6_findOrder 94 = .ok (.if_icmp .eq 5, 3) := by decide +kernel
theorem dX6_findOrder_97 : decode cX6_findOrder 97 = .ok (.iconst 0, 1) := by decide +kernel
theorem dX6_findOrder_98 : decode cX6_findOrder 98 = .ok (.ireturn, 1) := by decide +kernel
theorem dX6_findOrder_99 : decode cX6_findOrder 99 = .ok (.aload_n 0, 1) := by decide +kernel
theorem dX6_findOrder_100 : decode cX6_findOrder 100 = .ok (.dup, 1) := by decide +kernel
theorem dX6_findOrder_101 : decode cX6_findOrder 101 = .ok (.getfield 33, 3) := by decide +kernel
theorem dX6_findOrder_104 : decode cX6_findOrder 104 = .ok (.iconst 1, 1) := by decide +kernel
theorem dX6_findOrder_105 : decode cX6_findOrder 105 = .ok (.iadd, 1) := by decide +kernel
theorem dX6_findOrder_106 : decode cX6_findOrder 106 = .ok (.putfield 33, 3) := by decide +kernel
theorem dX6_findOrder_109 : decode cX6_findOrder 109 = .ok (.iconst 1, 1) := by decide +kernel
theorem dX6_findOrder_110 : decode cX6_findOrder 110 = .ok (.ireturn, 1) := by decide +kernel
theorem dX6_findNumber_0 : decode cX6_findNumber 0 = .ok (.aload_n 0, 1) := by decide +kernel
theorem dX6_findNumber_1 : decode cX6_findNumber 1 = .ok (.invokevirtual 56, 3) := by decide +kernel
theorem dX6_findNumber_4 : decode cX6_findNumber 4 = .ok (.ifCond .eq 14, 3) := by decide +kernel
theorem dX6_findNumber_7 : decode cX6_findNumber 7 = .ok (.iload_n 1, 1) := by decide +kernel
theorem dX6_findNumber_8 : decode cX6_findNumber 8 = .ok (.iconst 0, 1) := by decide +kernel
theorem dX6_findNumber_9 : decode cX6_findNumber 9 = .ok (.sipush 239, 3) := by decide +kernel
theorem dX6_findNumber_12 : decode cX6_findNumber 12 = .ok (.invokestatic 21, 3) := by decide +kernel
theorem dX6_findNumber_15 : decode cX6_findNumber 15 = .ok (.ifCond .ne 5, 3) := by decide +kernel
theorem dX6_findNumber_18 : decode cX6_findNumber 18 = .ok (.iconst 0, 1) := by decide +kernel
theorem dX6_findNumber_19 : decode cX6_findNumber 19 = .ok (.ireturn, 1) := by decide +kernel
theorem dX6_findNumber_20 : decode cX6_findNumber 20 = .ok (.aload_n 0, 1) := by decide +kernel
theorem dX6_findNumber_21 : decode cX6_findNumber 21 = .ok (.invokevirtual 46, 3) := by decide +kernel
theorem dX6_findNumber_24 : decode cX6_findNumber 24 = .ok (.bipush 48, 2) := by decide +kernel
theorem dX6_findNumber_26 : decode cX6_findNumber 26 = .ok (.isub, 1) := by decide +kernel
theorem dX6_findNumber_27 : decode cX6_findNumber 27 = .ok (.istore_n 2, 1) := by decide +kernel
theorem dX6_findNumber_28 : decode cX6_findNumber 28 = .ok (.aload_n 0, 1) := by decide +kernel
theorem dX6_findNumber_29 : decode cX6_findNumber 29 = .ok (.dup, 1) := by decide +kernel
theorem dX6_findNumber_30 : decode cX6_findNumber 30 = .ok (.getfield 33, 3) := by decide +kernel
theorem dX6_findNumber_33 : decode cX6_findNumber 33 = .ok (.iconst 1, 1) := by decide +kernel
theorem dX6_findNumber_34 : decode cX6_findNumber 34 = .ok (.iadd, 1) := by decide +kernel
theorem dX6_findNumber_35 : decode cX6_findNumber 35 = .ok (.putfield 33, 3) := by decide +kernel
theorem dX6_findNumber_38 : decode cX6_findNumber 38 = .ok (.aload_n 0, 1) := by decide +kernel
theorem dX6_findNumber_39 : decode cX6_findNumber 39 = .ok (.invokevirtual 56, 3) := by decide +kernel
theorem dX6_findNumber_42 : decode cX6_findNumber 42 = .ok (.ifCond .eq 26, 3) := by decide +kernel
theorem dX6_findNumber_45 : decode cX6_findNumber 45 = .ok (.bipush 10, 2) := by decide +kernel
theorem dX6_findNumber_47 : decode cX6_findNumber 47 = .ok (.iload_n 2, 1) := by decide +kernel
theorem dX6_findNumber_48 : decode cX6_findNumber 48 = .ok (.imul, 1) := by decide +kernel
theorem dX6_findNumber_49 : decode cX6_findNumber 49 = .ok (.aload_n 0, 1) := by decide +kernel
theorem dX6_findNumber_50 : decode cX6_findNumber 50 = .ok (.invokevirtual 46, 3) := by decide +kernel
theorem dX6_findNumber_53 : decode cX6_findNumber 53 = .ok (.iadd, 1) := by decide +kernel
theorem dX6_findNumber_54 : decode cX6_findNumber 54 = .ok (.bipush 48, 2) := by decide +kernel
theorem dX6_findNumber_56 : decode cX6_findNumber 56 = .ok (.isub, 1) := by decide +kernel
theorem dX6_findNumber_57 : decode cX6_findNumber 57 = .ok (.istore_n 2, 1) := by decide +kernel
theorem dX6_findNumber_58 : decode cX6_findNumber 58 = .ok (.aload_n 0, 1) := by decide +kernel
theorem dX6_findNumber_59 : decode cX6_findNumber 59 = .ok (.dup, 1) := by decide +kernel
theorem dX6_findNumber_60 : decode cX6_findNumber 60 = .ok (.getfield 33, 3) := by decide +kernel
theorem dX6_findNumber_63 : decode cX6_findNumber 63 = .ok (.iconst 1, 1) := by decide +kernel
theorem dX6_findNumber_64 : decode cX6_findNumber 64 = .ok (.iadd, 1) := by decide +kernel
theorem dX6_findNumber_65 : decode cX6_findNumber 65 = .ok (.putfield 33, 3) := by decide +kernel
theorem dX6_findNumber_68 : decode cX6_findNumber 68 = .ok (.aload_n 0, 1) := by decide +kernel
theorem dX6_findNumber_69 : decode cX6_findNumber 69 = .ok (.getfield 18, 3) := by decide +kernel
theorem dX6_findNumber_72 : decode cX6_findNumber 72 = .ok (.iload_n 1, 1) := by decide +kernel
theorem dX6_findNumber_73 : decode cX6_findNumber 73 = .ok (.iload_n 2, 1) := by decide +kernel
theorem dX6_findNumber_74 : decode cX6_findNumber 74 = .ok (.iastore, 1) := by decide +kernel
theorem dX6_findNumber_75 : decode cX6_findNumber 75 = .ok (.aload_n 0, 1) := by decide +kernel
theorem dX6_findNumber_76 : decode cX6_findNumber 76 = .ok (.invokevirtual 56, 3) := by decide +kernel
theorem dX6_findNumber_79 : decode cX6_findNumber 79 = .ok (.ifCond .ne 7, 3) := by decide +kernel
theorem dX6_findNumber_82 : decode cX6_findNumber 82 = .ok (.iconst 1, 1) := by decide +kernel
theorem dX6_findNumber_83 : decode cX6_findNumber 83 = .ok (.goto 4, 3) := by decide +kernel
theorem dX6_findNumber_86 : decode cX6_findNumber 86 = .ok (.iconst 0, 1) := by decide +kernel
theorem dX6_findNumber_87 : decode cX6_findNumber 87 = .ok (.ireturn, 1) := by decide +kernel
theorem dX7_init_0 : decode cX7_init 0 = .ok (.aload_n 0, 1) := by decide +kernel
theorem dX7_init_1 : decode cX7_init 1 = .ok (.invokespecial 3, 3) := by decide +kernel
theorem dX7_init_4 : decode cX7_init 4 = .ok (.aload_n 0, 1) := by decide +kernel
theorem dX7_init_5 : decode cX7_init 5 = .ok (.sipush 256, 3) := by decide +kernel
theorem dX7_init_8 : decode cX7_init 8 = .ok (.newarray .int, 2) := by decide +kernel
theorem dX7_init_10 : decode cX7_init 10 = .ok (.putfield 9, 3) := by decide +kernel
theorem dX7_init_13 : decode cX7_init 13 = .ok (.aload_n 0, 1) := by decide +kernel
theorem dX7_init_14 : decode cX7_init 14 = .ok (.sipush 256, 3) := by decide +kernel
theorem dX7_init_17 : decode cX7_init 17 = .ok (.newarray .int, 2) := by decide +kernel
theorem dX7_init_19 : decode cX7_init 19 = .ok (.putfield 15, 3) := by decide +kernel
theorem dX7_init_22 : decode cX7_init 22 = .ok (.aload_n 0, 1) := by decide +kernel
theorem dX7_init_23 : decode cX7_init 23 = .ok (.sipush 256, 3) := by decide +kernel
theorem dX7_init_26 : decode cX7_init 26 = .ok (.newarray .int, 2) := by decide +kernel
theorem dX7_init_28 : decode cX7_init 28 = .ok (.putfield 18, 3) := by decide +kernel
theorem dX7_init_31 : decode cX7_init 31 = .ok (.return_, 1) := by decide +kernel
theorem dX7_look_0 : decode cX7_look 0 = .ok (.aload_n 0, 1) := by decide +kernel
theorem dX7_look_1 : decode cX7_look 1 = .ok (.bipush 16, 2) := by decide +kernel
theorem dX7_look_3 : decode cX7_look 3 = .ok (.aload_n 1, 1) := by decide +kernel
theorem dX7_look_4 : decode cX7_look 4 = .ok (.getfield 21, 3) := by decide +kernel
theorem dX7_look_7 : decode cX7_look 7 = .ok (.invokestatic 27, 3) := by decide +kernel
theorem dX7_look_10 : decode cX7_look 10 = .ok (.putfield 33, 3) := by decide +kernel
theorem dX7_look_13 : decode cX7_look 13 = .ok (.aload_n 0, 1) := by decide +kernel
theorem dX7_look_14 : decode cX7_look 14 = .ok (.bipush 16, 2) := by decide +kernel
theorem dX7_look_16 : decode cX7_look 16 = .ok (.aload_n 1, 1) := by decide +kernel
theorem dX7_look_17 : decode cX7_look 17 = .ok (.getfield 34, 3) := by decide +kernel
theorem dX7_look_20 : decode cX7_look 20 = .ok (.invokestatic 27, 3) := by decide +kernel
theorem dX7_look_23 : decode cX7_look 23 = .ok (.putfield 37, 3) := by decide +kernel
theorem dX7_look_26 : decode cX7_look 26 = .ok (.aload_n 0, 1) := by decide +kernel
theorem dX7_look_27 : decode cX7_look 27 = .ok (.getfield 15, 3) := by decide +kernel
theorem dX7_look_30 : decode cX7_look 30 = .ok (.iconst 1, 1) := by decide +kernel
theorem dX7_look_31 : decode cX7_look 31 = .ok (.invokestatic 38, 3) := by decide +kernel
theorem dX7_look_34 : decode cX7_look 34 = .ok (.iconst 0, 1) := by decide +kernel
theorem dX7_look_35 : decode cX7_look 35 = .ok (.istore_n 2, 1) := by decide +kernel
theorem dX7_look_36 : decode cX7_look 36 = .ok (.iload_n 2, 1) := by decide +kernel
theorem dX7_look_37 : decode cX7_look 37 = .ok (.aload_n 1, 1) := by decide +kernel
theorem dX7_look_38 : decode cX7_look 38 = .ok (.getfield 44, 3) := by decide +kernel
theorem dX7_look_41 : decode cX7_look 41 = .ok (.if_icmp .ge 23, 3) := by decide +kernel
theorem dX7_look_44 : decode cX7_look 44 = .ok (.aload_n 1, 1) := by decide +kernel
theorem dX7_look_45 : decode cX7_look 45 = .ok (.iload_n 2, 1) := by decide +kernel
theorem dX7_look_46 : decode cX7_look 46 = .ok (.invokevirtual 47, 3) := by decide +kernel
theorem dX7_look_49 : decode cX7_look 49 = .ok (.ifCond .eq 9, 3) := by decide +kernel
theorem dX7_look_52 : decode cX7_look 52 = .ok (.aload_n 0, 1) := by decide +kernel
theorem dX7_look_53 : decode cX7_look 53 = .ok (.aload_n 1, 1) := by decide +kernel
theorem dX7_look_54 : decode cX7_look 54 = .ok (.iload_n 2, 1) := by decide +kernel
theorem dX7_look_55 : decode cX7_look 55 = .ok (.invokevirtual 51, 3) := by decide +kernel
theorem dX7_look_58 : decode cX7_look 58 = .ok (.iinc 2 1, 3) := by decide +kernel
theorem dX7_look_61 : decode cX7_look 61 = .ok (.goto (-25), 3) := by decide +kernel
theorem dX7_look_64 : decode cX7_look 64 = .ok (.aload_n 0, 1) := by decide +kernel
theorem dX7_look_65 : decode cX7_look 65 = .ok (.invokevirtual 55, 3) := by decide +kernel
theorem dX7_look_68 : decode cX7_look 68 = .ok (.aload_n 0, 1) := by decide +kernel
theorem dX7_look_69 : decode cX7_look 69 = .ok (.invokevirtual 58, 3) := by decide +kernel
theorem dX7_look_72 : decode cX7_look 72 = .ok (.aload_n 0, 1) := by decide +kernel
theorem dX7_look_73 : decode cX7_look 73 = .ok (.invokevirtual 61, 3) := by decide +kernel
theorem dX7_look_76 : decode cX7_look 76 = .ok (.return_, 1) := by decide +kernel
theorem dX7_tell_0 : decode cX7_tell 0 = .ok (.iload_n 1, 1) := by decide +kernel
theorem dX7_tell_1 : decode cX7_tell 1 = .ok (.tableswitch 60 0 4 #[35, 40, 45, 50, 55], 35) := by decide +kernel
theorem dX7_tell_36 : decode cX7_tell 36 = .ok (.aload_n 0, 1) := by decide +kernel
theorem dX7_tell_37 : decode cX7_tell 37 = .ok (.getfield 64, 3) := by decide +kernel
theorem dX7_tell_40 : decode cX7_tell 40 = .ok (.ireturn, 1) := by decide +kernel
theorem dX7_tell_41 : decode cX7_tell 41 = .ok (.aload_n 0, 1) := by decide +kernel
theorem dX7_tell_42 : decode cX7_tell 42 = .ok (.getfield 67, 3) := by decide +kernel
theorem dX7_tell_45 : decode cX7_tell 45 = .ok (.ireturn, 1) := by decide +kernel
theorem dX7_tell_46 : decode cX7_tell 46 = .ok (.aload_n 0, 1) := by decide +kernel
theorem dX7_tell_47 : decode cX7_tell 47 = .ok (.getfield 70, 3) := by decide +kernel
theorem dX7_tell_50 : decode cX7_tell 50 = .ok (.ireturn, 1) := by decide +kernel
theorem dX7_tell_51 : decode cX7_tell 51 = .ok (.aload_n 0, 1) := by decide +kernel
theorem dX7_tell_52 : decode cX7_tell 52 = .ok (.getfield 73, 3) := by decide +kernel
theorem dX7_tell_55 : decode cX7_tell 55 = .ok (.ireturn, 1) := by decide +kernel
theorem dX7_tell_56 : decode cX7_tell 56 = .ok (.aload_n 0, 1) := by decide +kernel
theorem dX7_tell_57 : decode cX7_tell 57 = .ok (.getfield 76, 3) := by decide +kernel
theorem dX7_tell_60 : decode cX7_tell 60 = .ok (.ireturn, 1) := by decide +kernel
theorem dX7_tell_61 : decode cX7_tell 61 = .ok (.aload_n 0, 1) := by decide +kernel
theorem dX7_tell_62 : decode cX7_tell 62 = .ok (.invokevirtual 79, 3) := by decide +kernel
theorem dX7_tell_65 : decode cX7_tell 65 = .ok (.invokestatic 83, 3) := by decide +kernel
theorem dX7_tell_68 : decode cX7_tell 68 = .ok (.ireturn, 1) := by decide +kernel
theorem dX7_share_0 : decode cX7_share 0 = .ok (.aload_n 0, 1) := by decide +kernel
theorem dX7_share_1 : decode cX7_share 1 = .ok (.getfield 33, 3) := by decide +kernel
theorem dX7_share_4 : decode cX7_share 4 = .ok (.aload_n 0, 1) := by decide +kernel
theorem dX7_share_5 : decode cX7_share 5 = .ok (.getfield 37, 3) := by decide +kernel
theorem dX7_share_8 : decode cX7_share 8 = .ok (.imul, 1) := by decide +kernel
theorem dX7_share_9 : decode cX7_share 9 = .ok (.istore_n 1, 1) := by decide +kernel
theorem dX7_share_10 : decode cX7_share 10 = .ok (.iload_n 1, 1) := by decide +kernel
theorem dX7_share_11 : decode cX7_share 11 = .ok (.ifCond .le 14, 3) := by decide +kernel
theorem dX7_share_14 : decode cX7_share 14 = .ok (.aload_n 0, 1) := by decide +kernel
theorem dX7_share_15 : decode cX7_share 15 = .ok (.getfield 64, 3) := by decide +kernel
theorem dX7_share_18 : decode cX7_share 18 = .ok (.i2f, 1) := by decide +kernel
theorem dX7_share_19 : decode cX7_share 19 = .ok (.iload_n 1, 1) := by decide +kernel
theorem dX7_share_20 : decode cX7_share 20 = .ok (.i2f, 1) := by decide +kernel
theorem dX7_share_21 : decode cX7_share 21 = .ok (.fdiv, 1) := by decide +kernel
theorem dX7_share_22 : decode cX7_share 22 = .ok (.goto 4, 3) := by decide +kernel
theorem dX7_share_25 : decode cX7_share 25 = .ok (.fconst 0, 1) := by decide +kernel
theorem dX7_share_26 : decode cX7_share 26 = .ok (.freturn, 1) := by decide +kernel
theorem dX7_cover_0 : decode cX7_cover 0 = .ok (.aload_n 0, 1) := by decide +kernel
theorem dX7_cover_1 : decode cX7_cover 1 = .ok (.getfield 33, 3) := by decide +kernel
theorem dX7_cover_4 : decode cX7_cover 4 = .ok (.aload_n 1, 1) := by decide +kernel
theorem dX7_cover_5 : decode cX7_cover 5 = .ok (.iload_n 2, 1) := by decide +kernel
theorem dX7_cover_6 : decode cX7_cover 6 = .ok (.invokevirtual 89, 3) := by decide +kernel
theorem dX7_cover_9 : decode cX7_cover 9 = .ok (.aload_n 1, 1) := by decide +kernel
theorem dX7_cover_10 : decode cX7_cover 10 = .ok (.iload_n 2, 1) := by decide +kernel
theorem dX7_cover_11 : decode cX7_cover 11 = .ok (.invokevirtual 93, 3) := by decide +kernel
theorem dX7_cover_14 : decode cX7_cover 14 = .ok (.iadd, 1) := by decide +kernel
theorem dX7_cover_15 : decode cX7_cover 15 = .ok (.invokestatic 27, 3) := by decide +kernel
theorem dX7_cover_18 : decode cX7_cover 18 = .ok (.istore_n 3, 1) := by decide +kernel
theorem dX7_cover_19 : decode cX7_cover 19 = .ok (.aload_n 0, 1) := by decide +kernel
theorem dX7_cover_20 : decode cX7_cover 20 = .ok (.getfield 37, 3) := by decide +kernel
theorem dX7_cover_23 : decode cX7_cover 23 = .ok (.aload_n 1, 1) := by decide +kernel
theorem dX7_cover_24 : decode cX7_cover 24 = .ok (.iload_n 2, 1) := by decide +kernel
theorem dX7_cover_25 : decode cX7_cover 25 = .ok (.invokevirtual 96, 3) := by decide +kernel
theorem dX7_cover_28 : decode cX7_cover 28 = .ok (.aload_n 1, 1) := by decide +kernel
theorem dX7_cover_29 : decode cX7_cover 29 = .ok (.iload_n 2, 1) := by decide +kernel
theorem dX7_cover_30 : decode cX7_cover 30 = .ok (.invokevirtual 99, 3) := by decide +kernel
theorem dX7_cover_33 : decode cX7_cover 33 = .ok (.iadd, 1) := by decide +kernel
theorem dX7_cover_34 : decode cX7_cover 34 = .ok (.invokestatic 27, 3) := by decide +kernel
theorem dX7_cover_37 : decode cX7_cover 37 = .ok (.istore 4, 2) := by decide +kernel
theorem dX7_cover_39 : decode cX7_cover 39 = .ok (.iconst 0, 1) := by decide +kernel
theorem dX7_cover_40 : decode cX7_cover 40 = .ok (.aload_n 1, 1) := by decide +kernel
theorem dX7_cover_41 : decode cX7_cover 41 = .ok (.iload_n 2, 1) := by decide +kernel
theorem dX7_cover_42 : decode cX7_cover 42 = .ok (.invokevirtual 96, 3) := by decide +kernel
theorem dX7_cover_45 : decode cX7_cover 45 = .ok (.invokestatic 102, 3) := by decide +kernel
theorem dX7_cover_48 : decode cX7_cover 48 = .ok (.istore 5, 2) := by decide +kernel
theorem dX7_cover_50 : decode cX7_cover 50 = .ok (.iload 5, 2) := by decide +kernel
theorem dX7_cover_52 : decode cX7_cover 52 = .ok (.iload 4, 2) := by decide +kernel
theorem dX7_cover_54 : decode cX7_cover 54 = .ok (.if_icmp .ge 45, 3) := by decide +kernel
theorem dX7_cover_57 : decode cX7_cover 57 = .ok (.iconst 0, 1) := by decide +kernel
theorem dX7_cover_58 : decode cX7_cover 58 = .ok (.aload_n 1, 1) := by decide +kernel
theorem dX7_cover_59 : decode cX7_cover 59 = .ok (.iload_n 2, 1) := by decide +kernel
theorem dX7_cover_60 : decode cX7_cover 60 = .ok (.invokevirtual 89, 3) := by decide +kernel
theorem dX7_cover_63 : decode cX7_cover 63 = .ok (.invokestatic 102, 3) := by decide +kernel
theorem dX7_cover_66 : decode cX7_cover 66 = .ok (.istore 6, 2) := by decide +kernel
theorem dX7_cover_68 : decode cX7_cover 68 = .ok (.iload 6, 2) := by decide +kernel
theorem dX7_cover_70 : decode cX7_cover 70 = .ok (.iload_n 3, 1) := by decide +kernel
theorem dX7_cover_71 : decode cX7_cover 71 = .ok (.if_icmp .ge 22, 3) := by decide +kernel
theorem dX7_cover_74 : decode cX7_cover 74 = .ok (.aload_n 0, 1) := by decide +kernel
theorem dX7_cover_75 : decode cX7_cover 75 = .ok (.getfield 15, 3) := by decide +kernel
theorem dX7_cover_78 : decode cX7_cover 78 = .ok (.iload 6, 2) := by decide +kernel
theorem dX7_cover_80 : decode cX7_cover 80 = .ok (.iload 5, 2) := by decide +kernel
theorem dX7_cover_82 : decode cX7_cover 82 = .ok (.invokestatic 105, 3) := by decide +kernel
theorem dX7_cover_85 : decode cX7_cover 85 = .ok (.iconst 0, 1) := by decide +kernel
theorem dX7_cover_86 : decode cX7_cover 86 = .ok (.iastore, 1) := by decide +kernel
theorem dX7_cover_87 : decode cX7_cover 87 = .ok (.iinc 6 1, 3) := by decide +kernel
theorem dX7_cover_90 : decode cX7_cover 90 = .ok (.goto (-22), 3) := by decide +kernel
theorem dX7_cover_93 : decode cX7_cover 93 = .ok (.iinc 5 1, 3) := by decide +kernel
theorem dX7_cover_96 : decode cX7_cover 96 = .ok (.goto (-46), 3) := by decide +kernel
theorem dX7_cover_99 : decode cX7_cover 99 = .ok (.return_, 1) := by decide +kernel
theorem dX7_countCells_0 : decode cX7_countCells 0 = .ok (.aload_n 0, 1) := by decide +kernel
theorem dX7_countCells_1 : decode cX7_countCells 1 = .ok (.iconst 0, 1) := by decide +kernel
theorem dX7_countCells_2 : decode cX7_countCells 2 = .ok (.putfield 64, 3) := by decide +kernel
theorem dX7_countCells_5 : decode cX7_countCells 5 = .ok (.iconst 0, 1) := by decide +kernel
theorem dX7_countCells_6 : decode cX7_countCells 6 = .ok (.istore_n 1, 1) := by decide +kernel
theorem dX7_countCells_7 : decode cX7_countCells 7 = .ok (.iload_n 1, 1) := by decide +kernel
theorem dX7_countCells_8 : decode cX7_countCells 8 = .ok (.aload_n 0, 1) := by decide +kernel
theorem dX7_countCells_9 : decode cX7_countCells 9 = .ok (.getfield 37, 3) := by decide +kernel
theorem dX7_countCells_12 : decode cX7_countCells 12 = .ok (.if_icmp .ge 78, 3) := by decide +kernel
theorem dX7_countCells_15 : decode cX7_countCells 15 = .ok (.iconst 0, 1) := by decide +kernel
theorem dX7_countCells_16 : decode cX7_countCells 16 = .ok (.istore_n 2, 1) := by decide +kernel
theorem dX7_countCells_17 : decode cX7_countCells 17 = .ok (.aload_n 0, 1) := by decide +kernel
theorem dX7_countCells_18 : decode cX7_countCells 18 = .ok (.getfield 33, 3) := by decide +kernel
theorem dX7_countCells_21 : decode cX7_countCells 21 = .ok (.iconst 1, 1) := by decide +kernel
theorem dX7_countCells_22 : decode cX7_countCells 22 = .ok (.isub, 1) := by decide +kernel
theorem dX7_countCells_23 : decode cX7_countCells 23 = .ok (.istore_n 3, 1) := by decide +kernel
theorem dX7_countCells_24 : decode cX7_countCells 24 = .ok (.iload_n 3, 1) := by decide +kernel
theorem dX7_countCells_25 : decode cX7_countCells 25 = .ok (.ifCond .lt 59, 3) := by decide +kernel
theorem dX7_countCells_28 : decode cX7_countCells 28 = .ok (.iload_n 3, 1) := by decide +kernel
theorem dX7_countCells_29 : decode cX7_countCells 29 = .ok (.iload_n 1, 1) := by decide +kernel
theorem dX7_countCells_30 : decode cX7_countCells 30 = .ok (.invokestatic 105, 3) := by decide +kernel
theorem dX7_countCells_33 : decode cX7_countCells 33 = .ok (.istore 4, 2) := by decide +kernel
theorem dX7_countCells_35 : decode cX7_countCells 35 = .ok (.aload_n 0, 1) := by decide +kernel
theorem dX7_countCells_36 : decode cX7_countCells 36 = .ok (.getfield 15, 3) := by decide +kernel
theorem dX7_countCells_39 : decode cX7_countCells 39 = .ok (.iload 4, 2) := by decide +kernel
theorem dX7_countCells_41 : decode cX7_countCells 41 = .ok (.iaload, 1) := by decide +kernel
theorem dX7_countCells_42 : decode cX7_countCells 42 = .ok (.iconst 1, 1) := by decide +kernel
theorem dX7_countCells_43 : decode cX7_countCells 43 = .ok (.if_icmp .ne 9, 3) := by decide +kernel
theorem dX7_countCells_46 : decode cX7_countCells 46 = .ok (.iload_n 2, 1) := by decide +kernel
theorem dX7_countCells_47 : decode cX7_countCells 47 = .ok (.iconst 1, 1) := by decide +kernel
theorem dX7_countCells_48 : decode cX7_countCells 48 = .ok (.iadd, 1) := by decide +kernel
theorem dX7_countCells_49 : decode cX7_countCells 49 = .ok (.goto 4, 3) := by decide +kernel
theorem dX7_countCells_52 : decode cX7_countCells 52 = .ok (.iconst 0, 1) := by decide +kernel
theorem dX7_countCells_53 : decode cX7_countCells 53 = .ok (.istore_n 2, 1) := by decide +kernel
theorem dX7_countCells_54 : decode cX7_countCells 54 = .ok (.aload_n 0, 1) := by decide +kernel
theorem dX7_countCells_55 : decode cX7_countCells 55 = .ok (.getfield 9, 3) := by decide +kernel
theorem dX7_countCells_58 : decode cX7_countCells 58 = .ok (.iload 4, 2) := by decide +kernel
theorem dX7_countCells_60 : decode cX7_countCells 60 = .ok (.iload_n 2, 1) := by decide +kernel
theorem dX7_countCells_61 : decode cX7_countCells 61 = .ok (.iastore, 1) := by decide +kernel
theorem dX7_countCells_62 : decode cX7_countCells 62 = .ok (.aload_n 0, 1) := by decide +kernel
theorem dX7_countCells_63 : decode cX7_countCells 63 = .ok (.dup, 1) := by decide +kernel
theorem dX7_countCells_64 : decode cX7_countCells 64 = .ok (.getfield 64, 3) := by decide +kernel
theorem dX7_countCells_67 : decode cX7_countCells 67 = .ok (.aload_n 0, 1) := by decide +kernel
theorem dX7_countCells_68 : decode cX7_countCells 68 = .ok (.getfield 15, 3) := by decide +kernel
theorem dX7_countCells_71 : decode cX7_countCells 71 = .ok (.iload 4, 2) := by decide +kernel
theorem dX7_countCells_73 : decode cX7_countCells 73 = .ok (.iaload, 1) := by decide +kernel
theorem dX7_countCells_74 : decode cX7_countCells 74 = .ok (.iadd, 1) := by decide +kernel
theorem dX7_countCells_75 : decode cX7_countCells 75 = .ok (.putfield 64, 3) := by decide +kernel
theorem dX7_countCells_78 : decode cX7_countCells 78 = .ok (.iinc 3 (-1), 3) := by decide +kernel
theorem dX7_countCells_81 : decode cX7_countCells 81 = .ok (.goto (-57), 3) := by decide +kernel
theorem dX7_countCells_84 : decode cX7_countCells 84 = .ok (.iinc 1 1, 3) := by decide +kernel
theorem dX7_countCells_87 : decode cX7_countCells 87 = .ok (.goto (-80), 3) := by decide +kernel
theorem dX7_countCells_90 : decode cX7_countCells 90 = .ok (.return_, 1) := by decide +kernel
theorem dX7_findBlock_0 : decode cX7_findBlock 0 = .ok (.aload_n 0, 1) := by decide +kernel
theorem dX7_findBlock_1 : decode cX7_findBlock 1 = .ok (.iconst 0, 1) := by decide +kernel
theorem dX7_findBlock_2 : decode cX7_findBlock 2 = .ok (.putfield 67, 3) := by decide +kernel
theorem dX7_findBlock_5 : decode cX7_findBlock 5 = .ok (.aload_n 0, 1) := by decide +kernel
theorem dX7_findBlock_6 : decode cX7_findBlock 6 = .ok (.iconst (-1), 1) := by decide +kernel
theorem dX7_findBlock_7 : decode cX7_findBlock 7 = .ok (.putfield 70, 3) := by decide +kernel
theorem dX7_findBlock_10 : decode cX7_findBlock 10 = .ok (.aload_n 0, 1) := by decide +kernel
theorem dX7_findBlock_11 : decode cX7_findBlock 11 = .ok (.iconst (-1), 1) := by decide +kernel
theorem dX7_findBlock_12 : decode cX7_findBlock 12 = .ok (.putfield 73, 3) := by decide +kernel
theorem dX7_findBlock_15 : decode cX7_findBlock 15 = .ok (.iconst 0, 1) := by decide +kernel
theorem dX7_findBlock_16 : decode cX7_findBlock 16 = .ok (.istore_n 1, 1) := by decide +kernel
theorem dX7_findBlock_17 : decode cX7_findBlock 17 = .ok (.iload_n 1, 1) := by decide +kernel
theorem dX7_findBlock_18 : decode cX7_findBlock 18 = .ok (.aload_n 0, 1) := by decide +kernel
theorem dX7_findBlock_19 : decode cX7_findBlock 19 = .ok (.getfield 37, 3) := by decide +kernel
theorem dX7_findBlock_22 : decode cX7_findBlock 22 = .ok (.if_icmp .ge 31, 3) := by decide +kernel
theorem dX7_findBlock_25 : decode cX7_findBlock 25 = .ok (.iconst 0, 1) := by decide +kernel
theorem dX7_findBlock_26 : decode cX7_findBlock 26 = .ok (.istore_n 2, 1) := by decide +kernel
theorem dX7_findBlock_27 : decode cX7_findBlock 27 = .ok (.iload_n 2, 1) := by decide +kernel
theorem dX7_findBlock_28 : decode cX7_findBlock 28 = .ok (.aload_n 0, 1) := by decide +kernel
theorem dX7_findBlock_29 : decode cX7_findBlock 29 = .ok (.getfield 33, 3) := by decide +kernel
theorem dX7_findBlock_32 : decode cX7_findBlock 32 = .ok (.if_icmp .ge 15, 3) := by decide +kernel
theorem dX7_findBlock_35 : decode cX7_findBlock 35 = .ok (.aload_n 0, 1) := by decide +kernel
theorem dX7_findBlock_36 : decode cX7_findBlock 36 = .ok (.iload_n 2, 1) := by decide +kernel
theorem dX7_findBlock_37 : decode cX7_findBlock 37 = .ok (.iload_n 1, 1) := by decide +kernel
theorem dX7_findBlock_38 : decode cX7_findBlock 38 = .ok (.invokevirtual 108, 3) := by decide +kernel
theorem dX7_findBlock_41 : decode cX7_findBlock 41 = .ok (.iinc 2 1, 3) := by decide +kernel
theorem dX7_findBlock_44 : decode cX7_findBlock 44 = .ok (.goto (-17), 3) := by decide +kernel
theorem dX7_findBlock_47 : decode cX7_findBlock 47 = .ok (.iinc 1 1, 3) := by decide +kernel
theorem dX7_findBlock_50 : decode cX7_findBlock 50 = .ok (.goto (-33), 3) := by decide +kernel
theorem dX7_findBlock_53 : decode cX7_findBlock 53 = .ok (.return_, 1) := by decide +kernel
theorem dX7_tryBlocks_0 : decode cX7_tryBlocks 0 = .ok (.aload_n 0, 1) := by decide +kernel
theorem dX7_tryBlocks_1 : decode cX7_tryBlocks 1 = .ok (.getfield 33, 3) := by decide +kernel
theorem dX7_tryBlocks_4 : decode cX7_tryBlocks 4 = .ok (.istore_n 3, 1) := by decide +kernel
theorem dX7_tryBlocks_5 : decode cX7_tryBlocks 5 = .ok (.iload_n 2, 1) := by decide +kernel
theorem dX7_tryBlocks_6 : decode cX7_tryBlocks 6 = .ok (.istore 4, 2) := by decide +kernel
theorem dX7_tryBlocks_8 : decode cX7_tryBlocks 8 = .ok (.iload 4, 2) := by decide +kernel
theorem dX7_tryBlocks_10 : decode cX7_tryBlocks 10 = .ok (.aload_n 0, 1) := by decide +kernel
theorem dX7_tryBlocks_11 : decode cX7_tryBlocks 11 = .ok (.getfield 37, 3) := by decide +kernel
theorem dX7_tryBlocks_14 : decode cX7_tryBlocks 14 = .ok (.if_icmp .ge 68, 3) := by decide +kernel
theorem dX7_tryBlocks_17 : decode cX7_tryBlocks 17 = .ok (.iload_n 3, 1) := by decide +kernel
theorem dX7_tryBlocks_18 : decode cX7_tryBlocks 18 = .ok (.ifCond .le 64, 3) := by decide +kernel
theorem dX7_tryBlocks_21 : decode cX7_tryBlocks 21 = .ok (.iload_n 3, 1) := by decide +kernel
theorem dX7_tryBlocks_22 : decode cX7_tryBlocks 22 = .ok (.aload_n 0, 1) := by decide +kernel
theorem dX7_tryBlocks_23 : decode cX7_tryBlocks 23 = .ok (.getfield 9, 3) := by decide +kernel
theorem dX7_tryBlocks_26 : decode cX7_tryBlocks 26 = .ok (.iload_n 1, 1) := by decide +kernel
theorem dX7_tryBlocks_27 : decode cX7_tryBlocks 27 = .ok (.iload 4, 2) := by decide +kernel
theorem dX7_tryBlocks_29 : decode cX7_tryBlocks 29 = .ok (.invokestatic 105, 3) := by decide +kernel
theorem dX7_tryBlocks_32 : decode cX7_tryBlocks 32 = .ok (.iaload, 1) := by decide +kernel
theorem dX7_tryBlocks_33 : decode cX7_tryBlocks 33 = .ok (.invokestatic 27, 3) := by decide +kernel
theorem dX7_tryBlocks_36 : decode cX7_tryBlocks 36 = .ok (.istore_n 3, 1) := by decide +kernel
theorem dX7_tryBlocks_37 : decode cX7_tryBlocks 37 = .ok (.iload_n 3, 1) := by decide +kernel
theorem dX7_tryBlocks_38 : decode cX7_tryBlocks 38 = .ok (.iload 4, 2) := by decide +kernel
theorem dX7_tryBlocks_40 : decode cX7_tryBlocks 40 = .ok (.iload_n 2, 1) := by decide +kernel
theorem dX7_tryBlocks_41 : decode cX7_tryBlocks 41 = .ok (.isub, 1) := by decide +kernel
theorem dX7_tryBlocks_42 : decode cX7_tryBlocks 42 = .ok (.iconst 1, 1) := by decide +kernel
theorem dX7_tryBlocks_43 : decode cX7_tryBlocks 43 = .ok (.iadd, 1) := by decide +kernel
theorem dX7_tryBlocks_44 : decode cX7_tryBlocks 44 = .ok (.imul, 1) := by decide +kernel
theorem dX7_tryBlocks_45 : decode cX7_tryBlocks 45 = .ok (.istore 5, 2) := by decide +kernel
theorem dX7_tryBlocks_47 : decode cX7_tryBlocks 47 = .ok (.iload 5, 2) := by decide +kernel
theorem dX7_tryBlocks_49 : decode cX7_tryBlocks 49 = .ok (.aload_n 0, 1) := by decide +kernel
theorem dX7_tryBlocks_50 : decode cX7_tryBlocks 50 = .ok (.getfield 67, 3) := by decide +kernel
theorem dX7_tryBlocks_53 : decode cX7_tryBlocks 53 = .ok (.if_icmp .le 23, 3) := by decide +kernel
theorem dX7_tryBlocks_56 : decode cX7_tryBlocks 56 = .ok (.aload_n 0, 1) := by decide +kernel
theorem dX7_tryBlocks_57 : decode cX7_tryBlocks 57 = .ok (.iload 5, 2) := by decide +kernel
theorem dX7_tryBlocks_59 : decode cX7_tryBlocks 59 = .ok (.putfield 67, 3) := by decide +kernel
theorem dX7_tryBlocks_62 : decode cX7_tryBlocks 62 = .ok (.aload_n 0, 1) := by decide +kernel
theorem dX7_tryBlocks_63 : decode cX7_tryBlocks 63 = .ok (.iload_n 1, 1) := by decide +kernel
theorem dX7_tryBlocks_64 : decode cX7_tryBlocks 64 = .ok (.iload_n 2, 1) := by decide +kernel
theorem dX7_tryBlocks_65 : decode cX7_tryBlocks 65 = .ok (.invokestatic 105, 3) := by decide +kernel
theorem dX7_tryBlocks_68 : decode cX7_tryBlocks 68 = .ok (.putfield 70, 3) := by decide +kernel
theorem dX7_tryBlocks_71 : decode cX7_tryBlocks 71 = .ok (.aload_n 0, 1) := by decide +kernel
theorem dX7_tryBlocks_72 : decode cX7_tryBlocks 72 = .ok (.iload_n 3, 1) := by decide +kernel
theorem dX7_tryBlocks_73 : decode cX7_tryBlocks 73 = .ok (.putfield 73, 3) := by decide +kernel
theorem dX7_tryBlocks_76 : decode cX7_tryBlocks 76 = .ok (.iinc 4 1, 3) := by decide +kernel
theorem dX7_tryBlocks_79 : decode cX7_tryBlocks 79 = .ok (.goto (-71), 3) := by decide +kernel
theorem dX7_tryBlocks_82 : decode cX7_tryBlocks 82 = .ok (.return_, 1) := by decide +kernel
theorem dX7_countParts_0 : decode cX7_countParts 0 = .ok (.aload_n 0, 1) := by decide +kernel
theorem dX7_countParts_1 : decode cX7_countParts 1 = .ok (.iconst 0, 1) := by decide +kernel
theorem dX7_countParts_2 : decode cX7_countParts 2 = .ok (.putfield 76, 3) := by decide +kernel
theorem dX7_countParts_5 : decode cX7_countParts 5 = .ok (.aload_n 0, 1) := by decide +kernel
theorem dX7_countParts_6 : decode cX7_countParts 6 = .ok (.iconst 0, 1) := by decide +kernel
theorem dX7_countParts_7 : decode cX7_countParts 7 = .ok (.putfield 112, 3) := by decide +kernel
theorem dX7_countParts_10 : decode cX7_countParts 10 = .ok (.iconst 0, 1) := by decide +kernel
theorem dX7_countParts_11 : decode cX7_countParts 11 = .ok (.istore_n 1, 1) := by decide +kernel
theorem dX7_countParts_12 : decode cX7_countParts 12 = .ok (.iload_n 1, 1) := by decide +kernel
theorem dX7_countParts_13 : decode cX7_countParts 13 = .ok (.aload_n 0, 1) := by decide +kernel
theorem dX7_countParts_14 : decode cX7_countParts 14 = .ok (.getfield 37, 3) := by decide +kernel
theorem dX7_countParts_17 : decode cX7_countParts 17 = .ok (.if_icmp .ge 59, 3) := by decide +kernel
theorem dX7_countParts_20 : decode cX7_countParts 20 = .ok (.iconst 0, 1) := by decide +kernel
theorem dX7_countParts_21 : decode cX7_countParts 21 = .ok (.istore_n 2, 1) := by decide +kernel
theorem dX7_countParts_22 : decode cX7_countParts 22 = .ok (.iload_n 2, 1) := by decide +kernel
theorem dX7_countParts_23 : decode cX7_countParts 23 = .ok (.aload_n 0, 1) := by decide +kernel
theorem dX7_countParts_24 : decode cX7_countParts 24 = .ok (.getfield 33, 3) := by decide +kernel
theorem dX7_countParts_27 : decode cX7_countParts 27 = .ok (.if_icmp .ge 43, 3) := by decide +kernel
theorem dX7_countParts_30 : decode cX7_countParts 30 = .ok (.aload_n 0, 1) := by decide +kernel
theorem dX7_countParts_31 : decode cX7_countParts 31 = .ok (.getfield 112, 3) := by decide +kernel
theorem dX7_countParts_34 : decode cX7_countParts 34 = .ok (.istore_n 3, 1) := by decide +kernel
theorem dX7_countParts_35 : decode cX7_countParts 35 = .ok (.aload_n 0, 1) := by decide +kernel
theorem dX7_countParts_36 : decode cX7_countParts 36 = .ok (.iload_n 2, 1) := by decide +kernel
theorem dX7_countParts_37 : decode cX7_countParts 37 = .ok (.iload_n 1, 1) := by decide +kernel
theorem dX7_countParts_38 : decode cX7_countParts 38 = .ok (.invokevirtual 115, 3) := by decide +kernel
theorem dX7_countParts_41 : decode cX7_countParts 41 = .ok (.aload_n 0, 1) := by decide +kernel
theorem dX7_countParts_42 : decode cX7_countParts 42 = .ok (.getfield 112, 3) := by decide +kernel
theorem dX7_countParts_45 : decode cX7_countParts 45 = .ok (.iload_n 3, 1) := by decide +kernel
theorem dX7_countParts_46 : decode cX7_countParts 46 = .ok (.if_icmp .le 18, 3) := by decide +kernel
theorem dX7_countParts_49 : decode cX7_countParts 49 = .ok (.aload_n 0, 1) := by decide +kernel
theorem dX7_countParts_50 : decode cX7_countParts 50 = .ok (.dup, 1) := by decide +kernel
theorem dX7_countParts_51 : decode cX7_countParts 51 = .ok (.getfield 76, 3) := by decide +kernel
theorem dX7_countParts_54 : decode cX7_countParts 54 = .ok (.iconst 1, 1) := by decide +kernel
theorem dX7_countParts_55 : decode cX7_countParts 55 = .ok (.iadd, 1) := by decide +kernel
theorem dX7_countParts_56 : decode cX7_countParts 56 = .ok (.putfield 76, 3) := by decide +kernel
theorem dX7_countParts_59 : decode cX7_countParts 59 = .ok (.aload_n 0, 1) := by decide +kernel
theorem dX7_countParts_60 : decode cX7_countParts 60 = .ok (.iload_n 3, 1) := by decide +kernel
theorem dX7_countParts_61 : decode cX7_countParts 61 = .ok (.invokevirtual 118, 3) := by decide +kernel
theorem dX7_countParts_64 : decode cX7_countParts 64 = .ok (.iinc 2 1, 3) := by decide +kernel
theorem dX7_countParts_67 : decode cX7_countParts 67 = .ok (.goto (-45), 3) := by decide +kernel
theorem dX7_countParts_70 : decode cX7_countParts 70 = .ok (.iinc 1 1, 3) := by decide +kernel
theorem dX7_countParts_73 : decode cX7_countParts 73 = .ok (.goto (-61), 3) := by decide +kernel
theorem dX7_countParts_76 : decode cX7_countParts 76 = .ok (.return_, 1) := by decide +kernel
theorem dX7_spread_0 : decode cX7_spread 0 = .ok (.iload_n 1, 1) := by decide +kernel
theorem dX7_spread_1 : decode cX7_spread 1 = .ok (.istore_n 2, 1) := by decide +kernel
theorem dX7_spread_2 : decode cX7_spread 2 = .ok (.iload_n 2, 1) := by decide +kernel
theorem dX7_spread_3 : decode cX7_spread 3 = .ok (.ifCond .lt 81, 3) := by decide +kernel
theorem dX7_spread_6 : decode cX7_spread 6 = .ok (.iload_n 2, 1) := by decide +kernel
theorem dX7_spread_7 : decode cX7_spread 7 = .ok (.aload_n 0, 1) := by decide +kernel
theorem dX7_spread_8 : decode cX7_spread 8 = .ok (.getfield 112, 3) := by decide +kernel
theorem dX7_spread_11 : decode cX7_spread 11 = .ok (.if_icmp .ge 73, 3) := by decide +kernel
theorem dX7_spread_14 : decode cX7_spread 14 = .ok (.iload_n 2, 1) := by decide +kernel
theorem dX7_spread_15 : decode cX7_spread 15 = .ok (.sipush 256, 3) := by decide +kernel
theorem dX7_spread_18 : decode cX7_spread 18 = .ok (.if_icmp .ge 66, 3) := by decide +kernel
theorem dX7_spread_21 : decode cX7_spread 21 = .ok (.aload_n 0, 1) := by decide +kernel
theorem dX7_spread_22 : decode cX7_spread 22 = .ok (.getfield 18, 3) := by decide +kernel
theorem dX7_spread_25 : decode cX7_spread 25 = .ok (.iload_n 2, 1) := by decide +kernel
theorem dX7_spread_26 : decode cX7_spread 26 = .ok (.iaload, 1) := by decide +kernel
theorem dX7_spread_27 : decode cX7_spread 27 = .ok (.bipush 16, 2) := by decide +kernel
theorem dX7_spread_29 : decode cX7_spread 29 = .ok (.irem, 1) := by decide +kernel
theorem dX7_spread_30 : decode cX7_spread 30 = .ok (.istore_n 3, 1) := by decide +kernel
theorem dX7_spread_31 : decode cX7_spread 31 = .ok (.aload_n 0, 1) := by decide +kernel
theorem dX7_spread_32 : decode cX7_spread 32 = .ok (.getfield 18, 3) := by decide +kernel
theorem dX7_spread_35 : decode cX7_spread 35 = .ok (.iload_n 2, 1) := by decide +kernel
theorem dX7_spread_36 : decode cX7_spread 36 = .ok (.iaload, 1) := by decide +kernel
theorem dX7_spread_37 : decode cX7_spread 37 = .ok (.bipush 16, 2) := by decide +kernel
theorem dX7_spread_39 : decode cX7_spread 39 = .ok (.idiv, 1) := by decide +kernel
theorem dX7_spread_40 : decode cX7_spread 40 = .ok (.istore 4, 2) := by decide +kernel
theorem dX7_spread_42 : decode cX7_spread 42 = .ok (.aload_n 0, 1) := by decide +kernel
theorem dX7_spread_43 : decode cX7_spread 43 = .ok (.iload_n 3, 1) := by decide +kernel
theorem dX7_spread_44 : decode cX7_spread 44 = .ok (.iconst 1, 1) := by decide +kernel
theorem dX7_spread_45 : decode cX7_spread 45 = .ok (.isub, 1) := by decide +kernel
theorem dX7_spread_46 : decode cX7_spread 46 = .ok (.iload 4, 2) := by decide +kernel
theorem dX7_spread_48 : decode cX7_spread 48 = .ok (.invokevirtual 115, 3) := by decide +kernel
theorem dX7_spread_51 : decode cX7_spread 51 = .ok (.aload_n 0, 1) := by decide +kernel
theorem dX7_spread_52 : decode cX7_spread 52 = .ok (.iload_n 3, 1) := by decide +kernel
theorem dX7_spread_53 : decode cX7_spread 53 = .ok (.iconst 1, 1) := by decide +kernel
theorem dX7_spread_54 : decode cX7_spread 54 = .ok (.iadd, 1) := by decide +kernel
theorem dX7_spread_55 : decode cX7_spread 55 = .ok (.iload 4, 2) := by decide +kernel
theorem dX7_spread_57 : decode cX7_spread 57 = .ok (.invokevirtual 115, 3) := by decide +kernel
theorem dX7_spread_60 : decode cX7_spread 60 = .ok (.aload_n 0, 1) := by decide +kernel
theorem dX7_spread_61 : decode cX7_spread 61 = .ok (.iload_n 3, 1) := by decide +kernel
theorem dX7_spread_62 : decode cX7_spread 62 = .ok (.iload 4, 2) := by decide +kernel
theorem dX7_spread_64 : decode cX7_spread 64 = .ok (.iconst 1, 1) := by decide +kernel
theorem dX7_spread_65 : decode cX7_spread 65 = .ok (.isub, 1) := by decide +kernel
theorem dX7_spread_66 : decode cX7_spread 66 = .ok (.invokevirtual 115, 3) := by decide +kernel
theorem dX7_spread_69 : decode cX7_spread 69 = .ok (.aload_n 0, 1) := by decide +kernel
theorem dX7_spread_70 : decode cX7_spread 70 = .ok (.iload_n 3, 1) := by decide +kernel
theorem dX7_spread_71 : decode cX7_spread 71 = .ok (.iload 4, 2) := by decide +kernel
theorem dX7_spread_73 : decode cX7_spread 73 = .ok (.iconst 1, 1) := by decide +kernel
theorem dX7_spread_74 : decode cX7_spread 74 = .ok (.iadd, 1) := by decide +kernel
theorem dX7_spread_75 : decode cX7_spread 75 = .ok (.invokevirtual 115, 3) := by decide +kernel
theorem dX7_spread_78 : decode cX7_spread 78 = .ok (.iinc 2 1, 3) := by decide +kernel
theorem dX7_spread_81 : decode cX7_spread 81 = .ok (.goto (-79), 3) := by decide +kernel
theorem dX7_spread_84 : decode cX7_spread 84 = .ok (.return_, 1) := by decide +kernel
theorem dX7_reach_0 : decode cX7_reach 0 = .ok (.iload_n 1, 1) := by decide +kernel
theorem dX7_reach_1 : decode cX7_reach 1 = .ok (.iconst 0, 1) := by decide +kernel
theorem dX7_reach_2 : decode cX7_reach 2 = .ok (.aload_n 0, 1) := by decide +kernel
theorem dX7_reach_3 : decode cX7_reach 3 = .ok (.getfield 33, 3) := by decide +kernel
theorem dX7_reach_6 : decode cX7_reach 6 = .ok (.iconst 1, 1) := by decide +kernel
theorem dX7_reach_7 : decode cX7_reach 7 = .ok (.isub, 1) := by decide +kernel
theorem dX7_reach_8 : decode cX7_reach 8 = .ok (.invokestatic 122, 3) := by decide +kernel
theorem dX7_reach_11 : decode cX7_reach 11 = .ok (.ifCond .eq 27, 3) := by decide +kernel
theorem dX7_reach_14 : decode cX7_reach 14 = .ok (.iload_n 2, 1) := by decide +kernel
theorem dX7_reach_15 : decode cX7_reach 15 = .ok (.iconst 0, 1) := by decide +kernel
theorem dX7_reach_16 : decode cX7_reach 16 = .ok (.aload_n 0, 1) := by decide +kernel
theorem dX7_reach_17 : decode cX7_reach 17 = .ok (.getfield 37, 3) := by decide +kernel
theorem dX7_reach_20 : decode cX7_reach 20 = .ok (.iconst 1, 1) := by decide +kernel
theorem dX7_reach_21 : decode cX7_reach 21 = .ok (.isub, 1) := by decide +kernel
theorem dX7_reach_22 : decode cX7_reach 22 = .ok (.invokestatic 122, 3) := by decide +kernel
theorem dX7_reach_25 : decode cX7_reach 25 = .ok (.ifCond .eq 13, 3) := by decide +kernel
theorem dX7_reach_28 : decode cX7_reach 28 = .ok (.aload_n 0, 1) := by decide +kernel
theorem dX7_reach_29 : decode cX7_reach 29 = .ok (.getfield 112, 3) := by decide +kernel
theorem dX7_reach_32 : decode cX7_reach 32 = .ok (.sipush 256, 3) := by decide +kernel
theorem dX7_reach_35 : decode cX7_reach 35 = .ok (.if_icmp .lt 4, 3) := by decide +kernel
theorem dX7_reach_38 : decode cX7_reach 38 = .ok (.return_, 1) := by decide +kernel
theorem dX7_reach_39 : decode cX7_reach 39 = .ok (.iload_n 1, 1) := by decide +kernel
theorem dX7_reach_40 : decode cX7_reach 40 = .ok (.iload_n 2, 1) := by decide +kernel
theorem dX7_reach_41 : decode cX7_reach 41 = .ok (.invokestatic 105, 3) := by decide +kernel
theorem dX7_reach_44 : decode cX7_reach 44 = .ok (.istore_n 3, 1) := by decide +kernel
theorem dX7_reach_45 : decode cX7_reach 45 = .ok (.aload_n 0, 1) := by decide +kernel
theorem dX7_reach_46 : decode cX7_reach 46 = .ok (.getfield 15, 3) := by decide +kernel
theorem dX7_reach_49 : decode cX7_reach 49 = .ok (.iload_n 3, 1) := by decide +kernel
theorem dX7_reach_50 : decode cX7_reach 50 = .ok (.iaload, 1) := by decide +kernel
theorem dX7_reach_51 : decode cX7_reach 51 = .ok (.iconst 1, 1) := by decide +kernel
theorem dX7_reach_52 : decode cX7_reach 52 = .ok (.if_icmp .ne 30, 3) := by decide +kernel
theorem dX7_reach_55 : decode cX7_reach 55 = .ok (.aload_n 0, 1) := by decide +kernel
theorem dX7_reach_56 : decode cX7_reach 56 = .ok (.getfield 15, 3) := by decide +kernel
theorem dX7_reach_59 : decode cX7_reach 59 = .ok (.iload_n 3, 1) := by decide +kernel
theorem dX7_reach_60 : decode cX7_reach 60 = .ok (.iconst 0, 1) := by decide +kernel
theorem dX7_reach_61 : decode cX7_reach 61 = .ok (.iastore, 1) := by decide +kernel
theorem dX7_reach_62 : decode cX7_reach 62 = .ok (.aload_n 0, 1) := by decide +kernel
theorem dX7_reach_63 : decode cX7_reach 63 = .ok (.getfield 18, 3) := by decide +kernel
theorem dX7_reach_66 : decode cX7_reach 66 = .ok (.aload_n 0, 1) := by decide +kernel
theorem dX7_reach_67 : decode cX7_reach 67 = .ok (.getfield 112, 3) := by decide +kernel
theorem dX7_reach_70 : decode cX7_reach 70 = .ok (.iload_n 3, 1) := by decide +kernel
theorem dX7_reach_71 : decode cX7_reach 71 = .ok (.iastore, 1) := by decide +kernel
theorem dX7_reach_72 : decode cX7_reach 72 = .ok (.aload_n 0, 1) := by decide +kernel
theorem dX7_reach_73 : decode cX7_reach 73 = .ok (.dup, 1) := by decide +kernel
theorem dX7_reach_74 : decode cX7_reach 74 = .ok (.getfield 112, 3) := by decide +kernel
theorem dX7_reach_77 : decode cX7_reach 77 = .ok (.iconst 1, 1) := by decide +kernel
theorem dX7_reach_78 : decode cX7_reach 78 = .ok (.iadd, 1) := by decide +kernel
theorem dX7_reach_79 : decode cX7_reach 79 = .ok (.putfield 112, 3) := by decide +kernel
theorem dX7_reach_82 : decode cX7_reach 82 = .ok (.return_, 1) := by decide +kernel
theorem dX8_init_0 : decode cX8_init 0 = .ok (.aload_n 0, 1) := by decide +kernel
theorem dX8_init_1 : decode cX8_init 1 = .ok (.invokespecial 3, 3) := by decide +kernel
theorem dX8_init_4 : decode cX8_init 4 = .ok (.aload_n 0, 1) := by decide +kernel
theorem dX8_init_5 : decode cX8_init 5 = .ok (.new 9, 3) := by decide +kernel
theorem dX8_init_8 : decode cX8_init 8 = .ok (.dup, 1) := by decide +kernel
theorem dX8_init_9 : decode cX8_init 9 = .ok (.invokespecial 11, 3) := by decide +kernel
theorem dX8_init_12 : decode cX8_init 12 = .ok (.putfield 12, 3) := by decide +kernel
theorem dX8_init_15 : decode cX8_init 15 = .ok (.aload_n 0, 1) := by decide +kernel
theorem dX8_init_16 : decode cX8_init 16 = .ok (.new 9, 3) := by decide +kernel
theorem dX8_init_19 : decode cX8_init 19 = .ok (.dup, 1) := by decide +kernel
theorem dX8_init_20 : decode cX8_init 20 = .ok (.invokespecial 11, 3) := by decide +kernel
theorem dX8_init_23 : decode cX8_init 23 = .ok (.putfield 16, 3) := by decide +kernel
theorem dX8_init_26 : decode cX8_init 26 = .ok (.aload_n 0, 1) := by decide +kernel
theorem dX8_init_27 : decode cX8_init 27 = .ok (.new 19, 3) := by decide +kernel
theorem dX8_init_30 : decode cX8_init 30 = .ok (.dup, 1) := by decide +kernel
theorem dX8_init_31 : decode cX8_init 31 = .ok (.invokespecial 21, 3) := by decide +kernel
theorem dX8_init_34 : decode cX8_init 34 = .ok (.putfield 22, 3) := by decide +kernel
theorem dX8_init_37 : decode cX8_init 37 = .ok (.aload_n 0, 1) := by decide +kernel
theorem dX8_init_38 : decode cX8_init 38 = .ok (.new 26, 3) := by decide +kernel
theorem dX8_init_41 : decode cX8_init 41 = .ok (.dup, 1) := by decide +kernel
theorem dX8_init_42 : decode cX8_init 42 = .ok (.invokespecial 28, 3) := by decide +kernel
theorem dX8_init_45 : decode cX8_init 45 = .ok (.putfield 29, 3) := by decide +kernel
theorem dX8_init_48 : decode cX8_init 48 = .ok (.aload_n 0, 1) := by decide +kernel
theorem dX8_init_49 : decode cX8_init 49 = .ok (.new 33, 3) := by decide +kernel
theorem dX8_init_52 : decode cX8_init 52 = .ok (.dup, 1) := by decide +kernel
theorem dX8_init_53 : decode cX8_init 53 = .ok (.invokespecial 35, 3) := by decide +kernel
theorem dX8_init_56 : decode cX8_init 56 = .ok (.putfield 36, 3) := by decide +kernel
theorem dX8_init_59 : decode cX8_init 59 = .ok (.aload_n 0, 1) := by decide +kernel
theorem dX8_init_60 : decode cX8_init 60 = .ok (.new 40, 3) := by decide +kernel
theorem dX8_init_63 : decode cX8_init 63 = .ok (.dup, 1) := by decide +kernel
theorem dX8_init_64 : decode cX8_init 64 = .ok (.invokespecial 42, 3) := by decide +kernel
theorem dX8_init_67 : decode cX8_init 67 = .ok (.putfield 43, 3) := by decide +kernel
theorem dX8_init_70 : decode cX8_init 70 = .ok (.aload_n 0, 1) := by decide +kernel
theorem dX8_init_71 : decode cX8_init 71 = .ok (.new 47, 3) := by decide +kernel
theorem dX8_init_74 : decode cX8_init 74 = .ok (.dup, 1) := by decide +kernel
theorem dX8_init_75 : decode cX8_init 75 = .ok (.invokespecial 49, 3) := by decide +kernel
theorem dX8_init_78 : decode cX8_init 78 = .ok (.putfield 50, 3) := by decide +kernel
theorem dX8_init_81 : decode cX8_init 81 = .ok (.return_, 1) := by decide +kernel
theorem dX8_sheet_0 : decode cX8_sheet 0 = .ok (.aload_n 0, 1) := by decide +kernel
theorem dX8_sheet_1 : decode cX8_sheet 1 = .ok (.getfield 12, 3) := by decide +kernel
theorem dX8_sheet_4 : decode cX8_sheet 4 = .ok (.iload_n 1, 1) := by decide +kernel
theorem dX8_sheet_5 : decode cX8_sheet 5 = .ok (.iload_n 2, 1) := by decide +kernel
theorem dX8_sheet_6 : decode cX8_sheet 6 = .ok (.invokevirtual 54, 3) := by decide +kernel
theorem dX8_sheet_9 : decode cX8_sheet 9 = .ok (.istore_n 3, 1) := by decide +kernel
theorem dX8_sheet_10 : decode cX8_sheet 10 = .ok (.aload_n 0, 1) := by decide +kernel
theorem dX8_sheet_11 : decode cX8_sheet 11 = .ok (.iload_n 3, 1) := by decide +kernel
theorem dX8_sheet_12 : decode cX8_sheet 12 = .ok (.invokevirtual 58, 3) := by decide +kernel
theorem dX8_sheet_15 : decode cX8_sheet 15 = .ok (.ifCond .eq 15, 3) := by decide +kernel
theorem dX8_sheet_18 : decode cX8_sheet 18 = .ok (.aload_n 0, 1) := by decide +kernel
theorem dX8_sheet_19 : decode cX8_sheet 19 = .ok (.getfield 12, 3) := by decide +kernel
theorem dX8_sheet_22 : decode cX8_sheet 22 = .ok (.iload_n 1, 1) := by decide +kernel
theorem dX8_sheet_23 : decode cX8_sheet 23 = .ok (.iload_n 2, 1) := by decide +kernel
theorem dX8_sheet_24 : decode cX8_sheet 24 = .ok (.invokevirtual 62, 3) := by decide +kernel
theorem dX8_sheet_27 : decode cX8_sheet 27 = .ok (.goto 4, 3) := by decide +kernel
theorem dX8_sheet_30 : decode cX8_sheet 30 = .ok (.iload_n 3, 1) := by decide +kernel
theorem dX8_sheet_31 : decode cX8_sheet 31 = .ok (.ireturn, 1) := by decide +kernel
theorem dX8_sets_0 : decode cX8_sets 0 = .ok (.aload_n 0, 1) := by decide +kernel
theorem dX8_sets_1 : decode cX8_sets 1 = .ok (.getfield 12, 3) := by decide +kernel
theorem dX8_sets_4 : decode cX8_sets 4 = .ok (.iload_n 1, 1) := by decide +kernel
theorem dX8_sets_5 : decode cX8_sets 5 = .ok (.iload_n 2, 1) := by decide +kernel
theorem dX8_sets_6 : decode cX8_sets 6 = .ok (.invokevirtual 65, 3) := by decide +kernel
theorem dX8_sets_9 : decode cX8_sets 9 = .ok (.istore_n 3, 1) := by decide +kernel
theorem dX8_sets_10 : decode cX8_sets 10 = .ok (.aload_n 0, 1) := by decide +kernel
theorem dX8_sets_11 : decode cX8_sets 11 = .ok (.iload_n 3, 1) := by decide +kernel
theorem dX8_sets_12 : decode cX8_sets 12 = .ok (.invokevirtual 58, 3) := by decide +kernel
theorem dX8_sets_15 : decode cX8_sets 15 = .ok (.ifCond .eq 15, 3) := by decide +kernel
theorem dX8_sets_18 : decode cX8_sets 18 = .ok (.aload_n 0, 1) := by decide +kernel
theorem dX8_sets_19 : decode cX8_sets 19 = .ok (.getfield 12, 3) := by decide +kernel
theorem dX8_sets_22 : decode cX8_sets 22 = .ok (.iload_n 1, 1) := by decide +kernel
theorem dX8_sets_23 : decode cX8_sets 23 = .ok (.iload_n 2, 1) := by decide +kernel
theorem dX8_sets_24 : decode cX8_sets 24 = .ok (.invokevirtual 68, 3) := by decide +kernel
theorem dX8_sets_27 : decode cX8_sets 27 = .ok (.goto 4, 3) := by decide +kernel
theorem dX8_sets_30 : decode cX8_sets 30 = .ok (.iload_n 3, 1) := by decide +kernel
theorem dX8_sets_31 : decode cX8_sets 31 = .ok (.ireturn, 1) := by decide +kernel
theorem dX8_item_0 : decode cX8_item 0 = .ok (.aload_n 0, 1) := by decide +kernel
theorem dX8_item_1 : decode cX8_item 1 = .ok (.getfield 12, 3) := by decide +kernel
theorem dX8_item_4 : decode cX8_item 4 = .ok (.iload_n 1, 1) := by decide +kernel
theorem dX8_item_5 : decode cX8_item 5 = .ok (.iload_n 2, 1) := by decide +kernel
theorem dX8_item_6 : decode cX8_item 6 = .ok (.iload_n 3, 1) := by decide +kernel
theorem dX8_item_7 : decode cX8_item 7 = .ok (.iload 4, 2) := by decide +kernel
theorem dX8_item_9 : decode cX8_item 9 = .ok (.invokevirtual 71, 3) := by decide +kernel
theorem dX8_item_12 : decode cX8_item 12 = .ok (.istore 5, 2) := by decide +kernel
theorem dX8_item_14 : decode cX8_item 14 = .ok (.aload_n 0, 1) := by decide +kernel
theorem dX8_item_15 : decode cX8_item 15 = .ok (.iload 5, 2) := by decide +kernel
theorem dX8_item_17 : decode cX8_item 17 = .ok (.invokevirtual 58, 3) := by decide +kernel
theorem dX8_item_20 : decode cX8_item 20 = .ok (.ifCond .eq 18, 3) := by decide +kernel
theorem dX8_item_23 : decode cX8_item 23 = .ok (.aload_n 0, 1) := by decide +kernel
theorem dX8_item_24 : decode cX8_item 24 = .ok (.getfield 12, 3) := by decide +kernel
theorem dX8_item_27 : decode cX8_item 27 = .ok (.iload_n 1, 1) := by decide +kernel
theorem dX8_item_28 : decode cX8_item 28 = .ok (.iload_n 2, 1) := by decide +kernel
theorem dX8_item_29 : decode cX8_item 29 = .ok (.iload_n 3, 1) := by decide +kernel
theorem dX8_item_30 : decode cX8_item 30 = .ok (.iload 4, 2) := by decide +kernel
theorem dX8_item_32 : decode cX8_item 32 = .ok (.invokevirtual 75, 3) := by decide +kernel
theorem dX8_item_35 : decode cX8_item 35 = .ok (.goto 5, 3) := by decide +kernel
theorem dX8_item_38 : decode cX8_item 38 = .ok (.iload 5, 2) := by decide +kernel
theorem dX8_item_40 : decode cX8_item 40 = .ok (.ireturn, 1) := by decide +kernel
theorem dX8_drops_0 : decode cX8_drops 0 = .ok (.aload_n 0, 1) := by decide +kernel
theorem dX8_drops_1 : decode cX8_drops 1 = .ok (.getfield 12, 3) := by decide +kernel
theorem dX8_drops_4 : decode cX8_drops 4 = .ok (.iload_n 1, 1) := by decide +kernel
theorem dX8_drops_5 : decode cX8_drops 5 = .ok (.invokevirtual 78, 3) := by decide +kernel
theorem dX8_drops_8 : decode cX8_drops 8 = .ok (.invokestatic 81, 3) := by decide +kernel
theorem dX8_drops_11 : decode cX8_drops 11 = .ok (.istore_n 2, 1) := by decide +kernel
theorem dX8_drops_12 : decode cX8_drops 12 = .ok (.aload_n 0, 1) := by decide +kernel
theorem dX8_drops_13 : decode cX8_drops 13 = .ok (.iload_n 2, 1) := by decide +kernel
theorem dX8_drops_14 : decode cX8_drops 14 = .ok (.invokevirtual 58, 3) := by decide +kernel
theorem dX8_drops_17 : decode cX8_drops 17 = .ok (.ifCond .eq 14, 3) := by decide +kernel
theorem dX8_drops_20 : decode cX8_drops 20 = .ok (.aload_n 0, 1) := by decide +kernel
theorem dX8_drops_21 : decode cX8_drops 21 = .ok (.getfield 12, 3) := by decide +kernel
theorem dX8_drops_24 : decode cX8_drops 24 = .ok (.iload_n 1, 1) := by decide +kernel
theorem dX8_drops_25 : decode cX8_drops 25 = .ok (.invokevirtual 85, 3) := by decide +kernel
theorem dX8_drops_28 : decode cX8_drops 28 = .ok (.goto 4, 3) := by decide +kernel
theorem dX8_drops_31 : decode cX8_drops 31 = .ok (.iload_n 2, 1) := by decide +kernel
theorem dX8_drops_32 : decode cX8_drops 32 = .ok (.ireturn, 1) := by decide +kernel
theorem dX8_becomes_0 : decode cX8_becomes 0 = .ok (.aload_n 0, 1) := by decide +kernel
theorem dX8_becomes_1 : decode cX8_becomes 1 = .ok (.getfield 12, 3) := by decide +kernel
theorem dX8_becomes_4 : decode cX8_becomes 4 = .ok (.iload_n 1, 1) := by decide +kernel
theorem dX8_becomes_5 : decode cX8_becomes 5 = .ok (.iload_n 2, 1) := by decide +kernel
theorem dX8_becomes_6 : decode cX8_becomes 6 = .ok (.iload_n 3, 1) := by decide +kernel
theorem dX8_becomes_7 : decode cX8_becomes 7 = .ok (.invokevirtual 89, 3) := by decide +kernel
theorem dX8_becomes_10 : decode cX8_becomes 10 = .ok (.istore 4, 2) := by decide +kernel
theorem dX8_becomes_12 : decode cX8_becomes 12 = .ok (.aload_n 0, 1) := by decide +kernel
theorem dX8_becomes_13 : decode cX8_becomes 13 = .ok (.iload 4, 2) := by decide +kernel
theorem dX8_becomes_15 : decode cX8_becomes 15 = .ok (.invokevirtual 58, 3) := by decide +kernel
theorem dX8_becomes_18 : decode cX8_becomes 18 = .ok (.ifCond .eq 16, 3) := by decide +kernel
theorem dX8_becomes_21 : decode cX8_becomes 21 = .ok (.aload_n 0, 1) := by decide +kernel
theorem dX8_becomes_22 : decode cX8_becomes 22 = .ok (.getfield 12, 3) := by decide +kernel
theorem dX8_becomes_25 : decode cX8_becomes 25 = .ok (.iload_n 1, 1) := by decide +kernel
theorem dX8_becomes_26 : decode cX8_becomes 26 = .ok (.iload_n 2, 1) := by decide +kernel
theorem dX8_becomes_27 : decode cX8_becomes 27 = .ok (.iload_n 3, 1) := by decide +kernel
theorem dX8_becomes_28 : decode cX8_becomes 28 = .ok (.invokevirtual 93, 3) := by decide +kernel
theorem dX8_becomes_31 : decode cX8_becomes 31 = .ok (.goto 5, 3) := by decide +kernel
theorem dX8_becomes_34 : decode cX8_becomes 34 = .ok (.iload 4, 2) := by decide +kernel
theorem dX8_becomes_36 : decode cX8_becomes 36 = .ok (.ireturn, 1) := by decide +kernel
theorem dX8_of_0 : decode cX8_of 0 = .ok (.aload_n 0, 1) := by decide +kernel
theorem dX8_of_1 : decode cX8_of 1 = .ok (.getfield 12, 3) := by decide +kernel
theorem dX8_of_4 : decode cX8_of 4 = .ok (.iload_n 1, 1) := by decide +kernel
theorem dX8_of_5 : decode cX8_of 5 = .ok (.invokevirtual 78, 3) := by decide +kernel
theorem dX8_of_8 : decode cX8_of 8 = .ok (.ifCond .eq 17, 3) := by decide +kernel
theorem dX8_of_11 : decode cX8_of 11 = .ok (.iload_n 2, 1) := by decide +kernel
theorem dX8_of_12 : decode cX8_of 12 = .ok (.iconst 0, 1) := by decide +kernel
theorem dX8_of_13 : decode cX8_of 13 = .ok (.bipush 9, 2) := by decide +kernel
theorem dX8_of_15 : decode cX8_of 15 = .ok (.invokestatic 96, 3) := by decide +kernel
theorem dX8_of_18 : decode cX8_of 18 = .ok (.ifCond .eq 7, 3) := by decide +kernel
theorem dX8_of_21 : decode cX8_of 21 = .ok (.iconst 1, 1) := by decide +kernel
theorem dX8_of_22 : decode cX8_of 22 = .ok (.goto 4, 3) := by decide +kernel
theorem dX8_of_25 : decode cX8_of 25 = .ok (.iconst 0, 1) := by decide +kernel
theorem dX8_of_26 : decode cX8_of 26 = .ok (.invokestatic 81, 3) := by decide +kernel
theorem dX8_of_29 : decode cX8_of 29 = .ok (.istore_n 3, 1) := by decide +kernel
theorem dX8_of_30 : decode cX8_of 30 = .ok (.aload_n 0, 1) := by decide +kernel
theorem dX8_of_31 : decode cX8_of 31 = .ok (.iload_n 3, 1) := by decide +kernel
theorem dX8_of_32 : decode cX8_of 32 = .ok (.invokevirtual 100, 3) := by decide +kernel
theorem dX8_of_35 : decode cX8_of 35 = .ok (.ifCond .eq 15, 3) := by decide +kernel
theorem dX8_of_38 : decode cX8_of 38 = .ok (.aload_n 0, 1) := by decide +kernel
theorem dX8_of_39 : decode cX8_of 39 = .ok (.getfield 12, 3) := by decide +kernel
theorem dX8_of_42 : decode cX8_of 42 = .ok (.iload_n 1, 1) := by decide +kernel
theorem dX8_of_43 : decode cX8_of 43 = .ok (.iload_n 2, 1) := by decide +kernel
theorem dX8_of_44 : decode cX8_of 44 = .ok (.invokevirtual 103, 3) := by decide +kernel
theorem dX8_of_47 : decode cX8_of 47 = .ok (.goto 4, 3) := by decide +kernel
theorem dX8_of_50 : decode cX8_of 50 = .ok (.iload_n 3, 1) := by decide +kernel
theorem dX8_of_51 : decode cX8_of 51 = .ok (.ireturn, 1) := by decide +kernel
theorem dX8_side_0 : decode cX8_side 0 = .ok (.iload_n 1, 1) := by decide +kernel
theorem dX8_side_1 : decode cX8_side 1 = .ok (.iconst 1, 1) := by decide +kernel
theorem dX8_side_2 : decode cX8_side 2 = .ok (.bipush 6, 2) := by decide +kernel
theorem dX8_side_4 : decode cX8_side 4 = .ok (.invokestatic 96, 3) := by decide +kernel
theorem dX8_side_7 : decode cX8_side 7 = .ok (.invokestatic 81, 3) := by decide +kernel
theorem dX8_side_10 : decode cX8_side 10 = .ok (.istore_n 2, 1) := by decide +kernel
theorem dX8_side_11 : decode cX8_side 11 = .ok (.aload_n 0, 1) := by decide +kernel
theorem dX8_side_12 : decode cX8_side 12 = .ok (.iload_n 2, 1) := by decide +kernel
theorem dX8_side_13 : decode cX8_side 13 = .ok (.invokevirtual 100, 3) := by decide +kernel
theorem dX8_side_16 : decode cX8_side 16 = .ok (.ifCond .eq 17, 3) := by decide +kernel
theorem dX8_side_19 : decode cX8_side 19 = .ok (.aload_n 0, 1) := by decide +kernel
theorem dX8_side_20 : decode cX8_side 20 = .ok (.getfield 12, 3) := by decide +kernel
theorem dX8_side_23 : decode cX8_side 23 = .ok (.iload_n 1, 1) := by decide +kernel
theorem dX8_side_24 : decode cX8_side 24 = .ok (.invokevirtual 106, 3) := by decide +kernel
theorem dX8_side_27 : decode cX8_side 27 = .ok (.invokestatic 110, 3) := by decide +kernel
theorem dX8_side_30 : decode cX8_side 30 = .ok (.goto 4, 3) := by decide +kernel
theorem dX8_side_33 : decode cX8_side 33 = .ok (.iload_n 2, 1) := by decide +kernel
theorem dX8_side_34 : decode cX8_side 34 = .ok (.ireturn, 1) := by decide +kernel
theorem dX8_line_0 : decode cX8_line 0 = .ok (.iload_n 1, 1) := by decide +kernel
theorem dX8_line_1 : decode cX8_line 1 = .ok (.ifCond .lt 7, 3) := by decide +kernel
theorem dX8_line_4 : decode cX8_line 4 = .ok (.iconst 1, 1) := by decide +kernel
theorem dX8_line_5 : decode cX8_line 5 = .ok (.goto 4, 3) := by decide +kernel
theorem dX8_line_8 : decode cX8_line 8 = .ok (.iconst 0, 1) := by decide +kernel
theorem dX8_line_9 : decode cX8_line 9 = .ok (.invokestatic 81, 3) := by decide +kernel
theorem dX8_line_12 : decode cX8_line 12 = .ok (.istore_n 2, 1) := by decide +kernel
theorem dX8_line_13 : decode cX8_line 13 = .ok (.aload_n 0, 1) := by decide +kernel
theorem dX8_line_14 : decode cX8_line 14 = .ok (.iload_n 2, 1) := by decide +kernel
theorem dX8_line_15 : decode cX8_line 15 = .ok (.invokevirtual 100, 3) := by decide +kernel
theorem dX8_line_18 : decode cX8_line 18 = .ok (.ifCond .eq 14, 3) := by decide +kernel
theorem dX8_line_21 : decode cX8_line 21 = .ok (.aload_n 0, 1) := by decide +kernel
theorem dX8_line_22 : decode cX8_line 22 = .ok (.getfield 12, 3) := by decide +kernel
theorem dX8_line_25 : decode cX8_line 25 = .ok (.iload_n 1, 1) := by decide +kernel
theorem dX8_line_26 : decode cX8_line 26 = .ok (.invokevirtual 116, 3) := by decide +kernel
theorem dX8_line_29 : decode cX8_line 29 = .ok (.goto 4, 3) := by decide +kernel
theorem dX8_line_32 : decode cX8_line 32 = .ok (.iload_n 2, 1) := by decide +kernel
theorem dX8_line_33 : decode cX8_line 33 = .ok (.ireturn, 1) := by decide +kernel
theorem dX8_lays_0 : decode cX8_lays 0 = .ok (.aload_n 0, 1) := by decide +kernel
theorem dX8_lays_1 : decode cX8_lays 1 = .ok (.getfield 12, 3) := by decide +kernel
theorem dX8_lays_4 : decode cX8_lays 4 = .ok (.iload_n 1, 1) := by decide +kernel
theorem dX8_lays_5 : decode cX8_lays 5 = .ok (.iload_n 2, 1) := by decide +kernel
theorem dX8_lays_6 : decode cX8_lays 6 = .ok (.iload_n 3, 1) := by decide +kernel
theorem dX8_lays_7 : decode cX8_lays 7 = .ok (.invokevirtual 119, 3) := by decide +kernel
theorem dX8_lays_10 : decode cX8_lays 10 = .ok (.istore 4, 2) := by decide +kernel
theorem dX8_lays_12 : decode cX8_lays 12 = .ok (.aload_n 0, 1) := by decide +kernel
theorem dX8_lays_13 : decode cX8_lays 13 = .ok (.iload 4, 2) := by decide +kernel
theorem dX8_lays_15 : decode cX8_lays 15 = .ok (.invokevirtual 58, 3) := by decide +kernel
theorem dX8_lays_18 : decode cX8_lays 18 = .ok (.ifCond .eq 16, 3) := by decide +kernel
theorem dX8_lays_21 : decode cX8_lays 21 = .ok (.aload_n 0, 1) := by decide +kernel
theorem dX8_lays_22 : decode cX8_lays 22 = .ok (.getfield 12, 3) := by decide +kernel
theorem dX8_lays_25 : decode cX8_lays 25 = .ok (.iload_n 1, 1) := by decide +kernel
theorem dX8_lays_26 : decode cX8_lays 26 = .ok (.iload_n 2, 1) := by decide +kernel
theorem dX8_lays_27 : decode cX8_lays 27 = .ok (.iload_n 3, 1) := by decide +kernel
theorem dX8_lays_28 : decode cX8_lays 28 = .ok (.invokevirtual 122, 3) := by decide +kernel
theorem dX8_lays_31 : decode cX8_lays 31 = .ok (.goto 5, 3) := by decide +kernel
theorem dX8_lays_34 : decode cX8_lays 34 = .ok (.iload 4, 2) := by decide +kernel
theorem dX8_lays_36 : decode cX8_lays 36 = .ok (.ireturn, 1) := by decide +kernel
theorem dX8_off_0 : decode cX8_off 0 = .ok (.aload_n 0, 1) := by decide +kernel
theorem dX8_off_1 : decode cX8_off 1 = .ok (.getfield 12, 3) := by decide +kernel
theorem dX8_off_4 : decode cX8_off 4 = .ok (.iload_n 1, 1) := by decide +kernel
theorem dX8_off_5 : decode cX8_off 5 = .ok (.invokevirtual 125, 3) := by decide +kernel
theorem dX8_off_8 : decode cX8_off 8 = .ok (.istore_n 2, 1) := by decide +kernel
theorem dX8_off_9 : decode cX8_off 9 = .ok (.aload_n 0, 1) := by decide +kernel
theorem dX8_off_10 : decode cX8_off 10 = .ok (.iload_n 2, 1) := by decide +kernel
theorem dX8_off_11 : decode cX8_off 11 = .ok (.invokevirtual 58, 3) := by decide +kernel
theorem dX8_off_14 : decode cX8_off 14 = .ok (.ifCond .eq 14, 3) := by decide +kernel
theorem dX8_off_17 : decode cX8_off 17 = .ok (.aload_n 0, 1) := by decide +kernel
theorem dX8_off_18 : decode cX8_off 18 = .ok (.getfield 12, 3) := by decide +kernel
theorem dX8_off_21 : decode cX8_off 21 = .ok (.iload_n 1, 1) := by decide +kernel
theorem dX8_off_22 : decode cX8_off 22 = .ok (.invokevirtual 128, 3) := by decide +kernel
theorem dX8_off_25 : decode cX8_off 25 = .ok (.goto 4, 3) := by decide +kernel
theorem dX8_off_28 : decode cX8_off 28 = .ok (.iload_n 2, 1) := by decide +kernel
theorem dX8_off_29 : decode cX8_off 29 = .ok (.ireturn, 1) := by decide +kernel
theorem dX8_swaps_0 : decode cX8_swaps 0 = .ok (.aload_n 0, 1) := by decide +kernel
theorem dX8_swaps_1 : decode cX8_swaps 1 = .ok (.getfield 12, 3) := by decide +kernel
theorem dX8_swaps_4 : decode cX8_swaps 4 = .ok (.iload_n 1, 1) := by decide +kernel
theorem dX8_swaps_5 : decode cX8_swaps 5 = .ok (.iload_n 2, 1) := by decide +kernel
theorem dX8_swaps_6 : decode cX8_swaps 6 = .ok (.invokevirtual 131, 3) := by decide +kernel
theorem dX8_swaps_9 : decode cX8_swaps 9 = .ok (.istore_n 3, 1) := by decide +kernel
theorem dX8_swaps_10 : decode cX8_swaps 10 = .ok (.aload_n 0, 1) := by decide +kernel
theorem dX8_swaps_11 : decode cX8_swaps 11 = .ok (.iload_n 3, 1) := by decide +kernel
theorem dX8_swaps_12 : decode cX8_swaps 12 = .ok (.invokevirtual 58, 3) := by decide +kernel
theorem dX8_swaps_15 : decode cX8_swaps 15 = .ok (.ifCond .eq 15, 3) := by decide +kernel
theorem dX8_swaps_18 : decode cX8_swaps 18 = .ok (.aload_n 0, 1) := by decide +kernel
theorem dX8_swaps_19 : decode cX8_swaps 19 = .ok (.getfield 12, 3) := by decide +kernel
theorem dX8_swaps_22 : decode cX8_swaps 22 = .ok (.iload_n 1, 1) := by decide +kernel
theorem dX8_swaps_23 : decode cX8_swaps 23 = .ok (.iload_n 2, 1) := by decide +kernel
theorem dX8_swaps_24 : decode cX8_swaps 24 = .ok (.invokevirtual 134, 3) := by decide +kernel
theorem dX8_swaps_27 : decode cX8_swaps 27 = .ok (.goto 4, 3) := by decide +kernel
theorem dX8_swaps_30 : decode cX8_swaps 30 = .ok (.iload_n 3, 1) := by decide +kernel
theorem dX8_swaps_31 : decode cX8_swaps 31 = .ok (.ireturn, 1) := by decide +kernel
theorem dX8_fits_0 : decode cX8_fits 0 = .ok (.aload_n 0, 1) := by decide +kernel
theorem dX8_fits_1 : decode cX8_fits 1 = .ok (.getfield 12, 3) := by decide +kernel
theorem dX8_fits_4 : decode cX8_fits 4 = .ok (.iload_n 1, 1) := by decide +kernel
theorem dX8_fits_5 : decode cX8_fits 5 = .ok (.invokevirtual 78, 3) := by decide +kernel
theorem dX8_fits_8 : decode cX8_fits 8 = .ok (.ifCond .eq 15, 3) := by decide +kernel
theorem dX8_fits_11 : decode cX8_fits 11 = .ok (.iload_n 2, 1) := by decide +kernel
theorem dX8_fits_12 : decode cX8_fits 12 = .ok (.iload_n 3, 1) := by decide +kernel
theorem dX8_fits_13 : decode cX8_fits 13 = .ok (.invokestatic 137, 3) := by decide +kernel
theorem dX8_fits_16 : decode cX8_fits 16 = .ok (.ifCond .eq 7, 3) := by decide +kernel
theorem dX8_fits_19 : decode cX8_fits 19 = .ok (.iconst 1, 1) := by decide +kernel
theorem dX8_fits_20 : decode cX8_fits 20 = .ok (.goto 4, 3) := by decide +kernel
theorem dX8_fits_23 : decode cX8_fits 23 = .ok (.iconst 0, 1) := by decide +kernel
theorem dX8_fits_24 : decode cX8_fits 24 = .ok (.invokestatic 81, 3) := by decide +kernel
theorem dX8_fits_27 : decode cX8_fits 27 = .ok (.istore 4, 2) := by decide +kernel
theorem dX8_fits_29 : decode cX8_fits 29 = .ok (.aload_n 0, 1) := by decide +kernel
theorem dX8_fits_30 : decode cX8_fits 30 = .ok (.iload 4, 2) := by decide +kernel
theorem dX8_fits_32 : decode cX8_fits 32 = .ok (.invokevirtual 100, 3) := by decide +kernel
theorem dX8_fits_35 : decode cX8_fits 35 = .ok (.ifCond .ne 6, 3) := by decide +kernel
theorem dX8_fits_38 : decode cX8_fits 38 = .ok (.iload 4, 2) := by decide +kernel
theorem dX8_fits_40 : decode cX8_fits 40 = .ok (.ireturn, 1) := by decide +kernel
theorem dX8_fits_41 : decode cX8_fits 41 = .ok (.aload_n 0, 1) := by decide +kernel
theorem dX8_fits_42 : decode cX8_fits 42 = .ok (.getfield 12, 3) := by decide +kernel
theorem dX8_fits_45 : decode cX8_fits 45 = .ok (.iload_n 1, 1) := by decide +kernel
theorem dX8_fits_46 : decode cX8_fits 46 = .ok (.iload_n 2, 1) := by decide +kernel
theorem dX8_fits_47 : decode cX8_fits 47 = .ok (.iload_n 3, 1) := by decide +kernel
theorem dX8_fits_48 : decode cX8_fits 48 = .ok (.invokevirtual 141, 3) := by decide +kernel
theorem dX8_fits_51 : decode cX8_fits 51 = .ok (.ifCond .eq 7, 3) := by decide +kernel
theorem dX8_fits_54 : decode cX8_fits 54 = .ok (.iconst 1, 1) := by decide +kernel
theorem dX8_fits_55 : decode cX8_fits 55 = .ok (.goto 4, 3) := by decide +kernel
theorem dX8_fits_58 : decode cX8_fits 58 = .ok (.iconst 0, 1) := by decide +kernel
theorem dX8_fits_59 : decode cX8_fits 59 = .ok (.ireturn, 1) := by decide +kernel
theorem dX8_free_0 : decode cX8_free 0 = .ok (.aload_n 0, 1) := by decide +kernel
theorem dX8_free_1 : decode cX8_free 1 = .ok (.getfield 12, 3) := by decide +kernel
theorem dX8_free_4 : decode cX8_free 4 = .ok (.iload_n 1, 1) := by decide +kernel
theorem dX8_free_5 : decode cX8_free 5 = .ok (.invokevirtual 78, 3) := by decide +kernel
theorem dX8_free_8 : decode cX8_free 8 = .ok (.ifCond .eq 16, 3) := by decide +kernel
theorem dX8_free_11 : decode cX8_free 11 = .ok (.iload_n 2, 1) := by decide +kernel
theorem dX8_free_12 : decode cX8_free 12 = .ok (.iconst 0, 1) := by decide +kernel
theorem dX8_free_13 : decode cX8_free 13 = .ok (.iconst 3, 1) := by decide +kernel
theorem dX8_free_14 : decode cX8_free 14 = .ok (.invokestatic 96, 3) := by decide +kernel
theorem dX8_free_17 : decode cX8_free 17 = .ok (.ifCond .eq 7, 3) := by decide +kernel
theorem dX8_free_20 : decode cX8_free 20 = .ok (.iconst 1, 1) := by decide +kernel
theorem dX8_free_21 : decode cX8_free 21 = .ok (.goto 4, 3) := by decide +kernel
theorem dX8_free_24 : decode cX8_free 24 = .ok (.iconst 0, 1) := by decide +kernel
theorem dX8_free_25 : decode cX8_free 25 = .ok (.invokestatic 81, 3) := by decide +kernel
theorem dX8_free_28 : decode cX8_free 28 = .ok (.istore_n 3, 1) := by decide +kernel
theorem dX8_free_29 : decode cX8_free 29 = .ok (.aload_n 0, 1) := by decide +kernel
theorem dX8_free_30 : decode cX8_free 30 = .ok (.iload_n 3, 1) := by decide +kernel
theorem dX8_free_31 : decode cX8_free 31 = .ok (.invokevirtual 100, 3) := by decide +kernel
theorem dX8_free_34 : decode cX8_free 34 = .ok (.ifCond .ne 5, 3) := by decide +kernel
theorem dX8_free_37 : decode cX8_free 37 = .ok (.iload_n 3, 1) := by decide +kernel
theorem dX8_free_38 : decode cX8_free 38 = .ok (.ireturn, 1) := by decide +kernel
theorem dX8_free_39 : decode cX8_free 39 = .ok (.iload_n 2, 1) := by decide +kernel
theorem dX8_free_40 : decode cX8_free 40 = .ok (.iconst 1, 1) := by decide +kernel
theorem dX8_free_41 : decode cX8_free 41 = .ok (.if_icmp .ne 22, 3) := by decide +kernel
theorem dX8_free_44 : decode cX8_free 44 = .ok (.aload_n 0, 1) := by decide +kernel
theorem dX8_free_45 : decode cX8_free 45 = .ok (.getfield 36, 3) := by decide +kernel
theorem dX8_free_48 : decode cX8_free 48 = .ok (.aload_n 0, 1) := by decide +kernel
theorem dX8_free_49 : decode cX8_free 49 = .ok (.getfield 12, 3) := by decide +kernel
theorem dX8_free_52 : decode cX8_free 52 = .ok (.aload_n 0, 1) := by decide +kernel
theorem dX8_free_53 : decode cX8_free 53 = .ok (.getfield 29, 3) := by decide +kernel
theorem dX8_free_56 : decode cX8_free 56 = .ok (.iload_n 1, 1) := by decide +kernel
theorem dX8_free_57 : decode cX8_free 57 = .ok (.invokevirtual 144, 3) := by decide +kernel
theorem dX8_free_60 : decode cX8_free 60 = .ok (.goto 16, 3) := by decide +kernel
theorem dX8_free_63 : decode cX8_free 63 = .ok (.aload_n 0, 1) := by decide +kernel
theorem dX8_free_64 : decode cX8_free 64 = .ok (.getfield 36, 3) := by decide +kernel
theorem dX8_free_67 : decode cX8_free 67 = .ok (.aload_n 0, 1) := by decide +kernel
theorem dX8_free_68 : decode cX8_free 68 = .ok (.getfield 12, 3) := by decide +kernel
theorem dX8_free_71 : decode cX8_free 71 = .ok (.iload_n 1, 1) := by decide +kernel
theorem dX8_free_72 : decode cX8_free 72 = .ok (.iload_n 2, 1) := by decide +kernel
theorem dX8_free_73 : decode cX8_free 73 = .ok (.invokevirtual 148, 3) := by decide +kernel
theorem dX8_free_76 : decode cX8_free 76 = .ok (.ireturn, 1) := by decide +kernel
theorem dX8_packs_0 : decode cX8_packs 0 = .ok (.aload_n 0, 1) := by decide +kernel
theorem dX8_packs_1 : decode cX8_packs 1 = .ok (.getfield 22, 3) := by decide +kernel
theorem dX8_packs_4 : decode cX8_packs 4 = .ok (.aload_n 0, 1) := by decide +kernel
theorem dX8_packs_5 : decode cX8_packs 5 = .ok (.getfield 12, 3) := by decide +kernel
theorem dX8_packs_8 : decode cX8_packs 8 = .ok (.invokevirtual 152, 3) := by decide +kernel
theorem dX8_packs_11 : decode cX8_packs 11 = .ok (.aload_n 0, 1) := by decide +kernel
theorem dX8_packs_12 : decode cX8_packs 12 = .ok (.getfield 36, 3) := by decide +kernel
theorem dX8_packs_15 : decode cX8_packs 15 = .ok (.aload_n 0, 1) := by decide +kernel
theorem dX8_packs_16 : decode cX8_packs 16 = .ok (.getfield 12, 3) := by decide +kernel
theorem dX8_packs_19 : decode cX8_packs 19 = .ok (.invokevirtual 156, 3) := by decide +kernel
theorem dX8_packs_22 : decode cX8_packs 22 = .ok (.ireturn, 1) := by decide +kernel
theorem dX8_tidies_0 : decode cX8_tidies 0 = .ok (.aload_n 0, 1) := by decide +kernel
theorem dX8_tidies_1 : decode cX8_tidies 1 = .ok (.getfield 22, 3) := by decide +kernel
theorem dX8_tidies_4 : decode cX8_tidies 4 = .ok (.aload_n 0, 1) := by decide +kernel
theorem dX8_tidies_5 : decode cX8_tidies 5 = .ok (.getfield 12, 3) := by decide +kernel
theorem dX8_tidies_8 : decode cX8_tidies 8 = .ok (.invokevirtual 152, 3) := by decide +kernel
theorem dX8_tidies_11 : decode cX8_tidies 11 = .ok (.aload_n 0, 1) := by decide +kernel
theorem dX8_tidies_12 : decode cX8_tidies 12 = .ok (.getfield 36, 3) := by decide +kernel
theorem dX8_tidies_15 : decode cX8_tidies 15 = .ok (.aload_n 0, 1) := by decide +kernel
theorem dX8_tidies_16 : decode cX8_tidies 16 = .ok (.getfield 12, 3) := by decide +kernel
theorem dX8_tidies_19 : decode cX8_tidies 19 = .ok (.invokevirtual 160, 3) := by decide +kernel
theorem dX8_tidies_22 : decode cX8_tidies 22 = .ok (.ireturn, 1) := by decide +kernel
theorem dX8_stays_0 : decode cX8_stays 0 = .ok (.aload_n 0, 1) := by decide +kernel
theorem dX8_stays_1 : decode cX8_stays 1 = .ok (.getfield 36, 3) := by decide +kernel
theorem dX8_stays_4 : decode cX8_stays 4 = .ok (.aload_n 0, 1) := by decide +kernel
theorem dX8_stays_5 : decode cX8_stays 5 = .ok (.getfield 12, 3) := by decide +kernel
theorem dX8_stays_8 : decode cX8_stays 8 = .ok (.invokevirtual 163, 3) := by decide +kernel
theorem dX8_stays_11 : decode cX8_stays 11 = .ok (.ireturn, 1) := by decide +kernel
theorem dX8_at_0 : decode cX8_at 0 = .ok (.iload_n 1, 1) := by decide +kernel
theorem dX8_at_1 : decode cX8_at 1 = .ok (.iconst 0, 1) := by decide +kernel
theorem dX8_at_2 : decode cX8_at 2 = .ok (.aload_n 0, 1) := by decide +kernel
theorem dX8_at_3 : decode cX8_at 3 = .ok (.getfield 12, 3) := by decide +kernel
theorem dX8_at_6 : decode cX8_at 6 = .ok (.getfield 166, 3) := by decide +kernel
theorem dX8_at_9 : decode cX8_at 9 = .ok (.iconst 1, 1) := by decide +kernel
theorem dX8_at_10 : decode cX8_at 10 = .ok (.isub, 1) := by decide +kernel
theorem dX8_at_11 : decode cX8_at 11 = .ok (.invokestatic 96, 3) := by decide +kernel
theorem dX8_at_14 : decode cX8_at 14 = .ok (.ifCond .eq 24, 3) := by decide +kernel
theorem dX8_at_17 : decode cX8_at 17 = .ok (.iload_n 2, 1) := by decide +kernel
theorem dX8_at_18 : decode cX8_at 18 = .ok (.iconst 0, 1) := by decide +kernel
theorem dX8_at_19 : decode cX8_at 19 = .ok (.aload_n 0, 1) := by decide +kernel
theorem dX8_at_20 : decode cX8_at 20 = .ok (.getfield 12, 3) := by decide +kernel
theorem dX8_at_23 : decode cX8_at 23 = .ok (.getfield 170, 3) := by decide +kernel
theorem dX8_at_26 : decode cX8_at 26 = .ok (.iconst 1, 1) := by decide +kernel
theorem dX8_at_27 : decode cX8_at 27 = .ok (.isub, 1) := by decide +kernel
theorem dX8_at_28 : decode cX8_at 28 = .ok (.invokestatic 96, 3) := by decide +kernel
theorem dX8_at_31 : decode cX8_at 31 = .ok (.ifCond .eq 7, 3) := by decide +kernel
theorem dX8_at_34 : decode cX8_at 34 = .ok (.iconst 1, 1) := by decide +kernel
theorem dX8_at_35 : decode cX8_at 35 = .ok (.goto 4, 3) := by decide +kernel
theorem dX8_at_38 : decode cX8_at 38 = .ok (.iconst 0, 1) := by decide +kernel
theorem dX8_at_39 : decode cX8_at 39 = .ok (.invokestatic 81, 3) := by decide +kernel
theorem dX8_at_42 : decode cX8_at 42 = .ok (.istore_n 3, 1) := by decide +kernel
theorem dX8_at_43 : decode cX8_at 43 = .ok (.aload_n 0, 1) := by decide +kernel
theorem dX8_at_44 : decode cX8_at 44 = .ok (.iload_n 3, 1) := by decide +kernel
theorem dX8_at_45 : decode cX8_at 45 = .ok (.invokevirtual 100, 3) := by decide +kernel
theorem dX8_at_48 : decode cX8_at 48 = .ok (.ifCond .eq 15, 3) := by decide +kernel
theorem dX8_at_51 : decode cX8_at 51 = .ok (.aload_n 0, 1) := by decide +kernel
theorem dX8_at_52 : decode cX8_at 52 = .ok (.getfield 12, 3) := by decide +kernel
theorem dX8_at_55 : decode cX8_at 55 = .ok (.iload_n 1, 1) := by decide +kernel
theorem dX8_at_56 : decode cX8_at 56 = .ok (.iload_n 2, 1) := by decide +kernel
theorem dX8_at_57 : decode cX8_at 57 = .ok (.invokevirtual 173, 3) := by decide +kernel
theorem dX8_at_60 : decode cX8_at 60 = .ok (.goto 4, 3) := by decide +kernel
theorem dX8_at_63 : decode cX8_at 63 = .ok (.iload_n 3, 1) := by decide +kernel
theorem dX8_at_64 : decode cX8_at 64 = .ok (.ireturn, 1) := by decide +kernel
theorem dX8_white_0 : decode cX8_white 0 = .ok (.iload_n 1, 1) := by decide +kernel
theorem dX8_white_1 : decode cX8_white 1 = .ok (.iconst 0, 1) := by decide +kernel
theorem dX8_white_2 : decode cX8_white 2 = .ok (.iconst 5, 1) := by decide +kernel
theorem dX8_white_3 : decode cX8_white 3 = .ok (.invokestatic 96, 3) := by decide +kernel
theorem dX8_white_6 : decode cX8_white 6 = .ok (.invokestatic 81, 3) := by decide +kernel
theorem dX8_white_9 : decode cX8_white 9 = .ok (.istore_n 2, 1) := by decide +kernel
theorem dX8_white_10 : decode cX8_white 10 = .ok (.aload_n 0, 1) := by decide +kernel
theorem dX8_white_11 : decode cX8_white 11 = .ok (.iload_n 2, 1) := by decide +kernel
theorem dX8_white_12 : decode cX8_white 12 = .ok (.invokevirtual 100, 3) := by decide +kernel
theorem dX8_white_15 : decode cX8_white 15 = .ok (.ifCond .ne 5, 3) := by decide +kernel
theorem dX8_white_18 : decode cX8_white 18 = .ok (.iload_n 2, 1) := by decide +kernel
theorem dX8_white_19 : decode cX8_white 19 = .ok (.ireturn, 1) := by decide +kernel
theorem dX8_white_20 : decode cX8_white 20 = .ok (.aload_n 0, 1) := by decide +kernel
theorem dX8_white_21 : decode cX8_white 21 = .ok (.getfield 43, 3) := by decide +kernel
theorem dX8_white_24 : decode cX8_white 24 = .ok (.aload_n 0, 1) := by decide +kernel
theorem dX8_white_25 : decode cX8_white 25 = .ok (.getfield 12, 3) := by decide +kernel
theorem dX8_white_28 : decode cX8_white 28 = .ok (.invokevirtual 176, 3) := by decide +kernel
theorem dX8_white_31 : decode cX8_white 31 = .ok (.aload_n 0, 1) := by decide +kernel
theorem dX8_white_32 : decode cX8_white 32 = .ok (.getfield 43, 3) := by decide +kernel
theorem dX8_white_35 : decode cX8_white 35 = .ok (.iload_n 1, 1) := by decide +kernel
theorem dX8_white_36 : decode cX8_white 36 = .ok (.invokevirtual 179, 3) := by decide +kernel
theorem dX8_white_39 : decode cX8_white 39 = .ok (.ireturn, 1) := by decide +kernel
theorem dX8_centre_0 : decode cX8_centre 0 = .ok (.iload_n 1, 1) := by decide +kernel
theorem dX8_centre_1 : decode cX8_centre 1 = .ok (.iconst 0, 1) := by decide +kernel
theorem dX8_centre_2 : decode cX8_centre 2 = .ok (.iconst 2, 1) := by decide +kernel
theorem dX8_centre_3 : decode cX8_centre 3 = .ok (.invokestatic 96, 3) := by decide +kernel
theorem dX8_centre_6 : decode cX8_centre 6 = .ok (.invokestatic 81, 3) := by decide +kernel
theorem dX8_centre_9 : decode cX8_centre 9 = .ok (.istore_n 2, 1) := by decide +kernel
theorem dX8_centre_10 : decode cX8_centre 10 = .ok (.aload_n 0, 1) := by decide +kernel
theorem dX8_centre_11 : decode cX8_centre 11 = .ok (.iload_n 2, 1) := by decide +kernel
theorem dX8_centre_12 : decode cX8_centre 12 = .ok (.invokevirtual 100, 3) := by decide +kernel
theorem dX8_centre_15 : decode cX8_centre 15 = .ok (.ifCond .ne 6, 3) := by decide +kernel
theorem dX8_centre_18 : decode cX8_centre 18 = .ok (.iload_n 2, 1) := by decide +kernel
theorem dX8_centre_19 : decode cX8_centre 19 = .ok (.i2l, 1) := by decide +kernel
theorem dX8_centre_20 : decode cX8_centre 20 = .ok (.lreturn, 1) := by decide +kernel
theorem dX8_centre_21 : decode cX8_centre 21 = .ok (.aload_n 0, 1) := by decide +kernel
theorem dX8_centre_22 : decode cX8_centre 22 = .ok (.getfield 29, 3) := by decide +kernel
theorem dX8_centre_25 : decode cX8_centre 25 = .ok (.aload_n 0, 1) := by decide +kernel
theorem dX8_centre_26 : decode cX8_centre 26 = .ok (.getfield 12, 3) := by decide +kernel
theorem dX8_centre_29 : decode cX8_centre 29 = .ok (.iconst (-1), 1) := by decide +kernel
theorem dX8_centre_30 : decode cX8_centre 30 = .ok (.invokevirtual 181, 3) := by decide +kernel
theorem dX8_centre_33 : decode cX8_centre 33 = .ok (.aload_n 0, 1) := by decide +kernel
theorem dX8_centre_34 : decode cX8_centre 34 = .ok (.getfield 29, 3) := by decide +kernel
theorem dX8_centre_37 : decode cX8_centre 37 = .ok (.aload_n 0, 1) := by decide +kernel
theorem dX8_centre_38 : decode cX8_centre 38 = .ok (.getfield 12, 3) := by decide +kernel
theorem dX8_centre_41 : decode cX8_centre 41 = .ok (.iload_n 1, 1) := by decide +kernel
theorem dX8_centre_42 : decode cX8_centre 42 = .ok (.invokevirtual 185, 3) := by decide +kernel
theorem dX8_centre_45 : decode cX8_centre 45 = .ok (.invokestatic 188, 3) := by decide +kernel
theorem dX8_centre_48 : decode cX8_centre 48 = .ok (.lreturn, 1) := by decide +kernel
theorem dX8_all_0 : decode cX8_all 0 = .ok (.iload_n 1, 1) := by decide +kernel
theorem dX8_all_1 : decode cX8_all 1 = .ok (.iconst 0, 1) := by decide +kernel
theorem dX8_all_2 : decode cX8_all 2 = .ok (.iconst 3, 1) := by decide +kernel
theorem dX8_all_3 : decode cX8_all 3 = .ok (.invokestatic 96, 3) := by decide +kernel
theorem dX8_all_6 : decode cX8_all 6 = .ok (.invokestatic 81, 3) := by decide +kernel
theorem dX8_all_9 : decode cX8_all 9 = .ok (.istore_n 2, 1) := by decide +kernel
theorem dX8_all_10 : decode cX8_all 10 = .ok (.aload_n 0, 1) := by decide +kernel
theorem dX8_all_11 : decode cX8_all 11 = .ok (.iload_n 2, 1) := by decide +kernel
theorem dX8_all_12 : decode cX8_all 12 = .ok (.invokevirtual 100, 3) := by decide +kernel
theorem dX8_all_15 : decode cX8_all 15 = .ok (.ifCond .eq 14, 3) := by decide +kernel
theorem dX8_all_18 : decode cX8_all 18 = .ok (.aload_n 0, 1) := by decide +kernel
theorem dX8_all_19 : decode cX8_all 19 = .ok (.getfield 12, 3) := by decide +kernel
theorem dX8_all_22 : decode cX8_all 22 = .ok (.iload_n 1, 1) := by decide +kernel
theorem dX8_all_23 : decode cX8_all 23 = .ok (.invokevirtual 192, 3) := by decide +kernel
theorem dX8_all_26 : decode cX8_all 26 = .ok (.goto 4, 3) := by decide +kernel
theorem dX8_all_29 : decode cX8_all 29 = .ok (.iload_n 2, 1) := by decide +kernel
theorem dX8_all_30 : decode cX8_all 30 = .ok (.ireturn, 1) := by decide +kernel
theorem dX8_sorted_0 : decode cX8_sorted 0 = .ok (.iload_n 1, 1) := by decide +kernel
theorem dX8_sorted_1 : decode cX8_sorted 1 = .ok (.getstatic 195, 3) := by decide +kernel
theorem dX8_sorted_4 : decode cX8_sorted 4 = .ok (.iconst 0, 1) := by decide +kernel
theorem dX8_sorted_5 : decode cX8_sorted 5 = .ok (.iaload, 1) := by decide +kernel
theorem dX8_sorted_6 : decode cX8_sorted 6 = .ok (.getstatic 199, 3) := by decide +kernel
theorem dX8_sorted_9 : decode cX8_sorted 9 = .ok (.iconst 0, 1) := by decide +kernel
theorem dX8_sorted_10 : decode cX8_sorted 10 = .ok (.iaload, 1) := by decide +kernel
theorem dX8_sorted_11 : decode cX8_sorted 11 = .ok (.invokestatic 96, 3) := by decide +kernel
theorem dX8_sorted_14 : decode cX8_sorted 14 = .ok (.ifCond .eq 11, 3) := by decide +kernel
theorem dX8_sorted_17 : decode cX8_sorted 17 = .ok (.iload_n 2, 1) := by decide +kernel
theorem dX8_sorted_18 : decode cX8_sorted 18 = .ok (.ifCond .lt 7, 3) := by decide +kernel
theorem dX8_sorted_21 : decode cX8_sorted 21 = .ok (.iconst 1, 1) := by decide +kernel
theorem dX8_sorted_22 : decode cX8_sorted 22 = .ok (.goto 4, 3) := by decide +kernel
theorem dX8_sorted_25 : decode cX8_sorted 25 = .ok (.iconst 0, 1) := by decide +kernel
theorem dX8_sorted_26 : decode cX8_sorted 26 = .ok (.invokestatic 81, 3) := by decide +kernel
theorem dX8_sorted_29 : decode cX8_sorted 29 = .ok (.istore_n 3, 1) := by decide +kernel
theorem dX8_sorted_30 : decode cX8_sorted 30 = .ok (.aload_n 0, 1) := by decide +kernel
theorem dX8_sorted_31 : decode cX8_sorted 31 = .ok (.iload_n 3, 1) := by decide +kernel
theorem dX8_sorted_32 : decode cX8_sorted 32 = .ok (.invokevirtual 100, 3) := by decide +kernel
theorem dX8_sorted_35 : decode cX8_sorted 35 = .ok (.ifCond .eq 15, 3) := by decide +kernel
theorem dX8_sorted_38 : decode cX8_sorted 38 = .ok (.aload_n 0, 1) := by decide +kernel
theorem dX8_sorted_39 : decode cX8_sorted 39 = .ok (.getfield 12, 3) := by decide +kernel
theorem dX8_sorted_42 : decode cX8_sorted 42 = .ok (.iload_n 1, 1) := by decide +kernel
theorem dX8_sorted_43 : decode cX8_sorted 43 = .ok (.iload_n 2, 1) := by decide +kernel
theorem dX8_sorted_44 : decode cX8_sorted 44 = .ok (.invokevirtual 202, 3) := by decide +kernel
theorem dX8_sorted_47 : decode cX8_sorted 47 = .ok (.goto 4, 3) := by decide +kernel
theorem dX8_sorted_50 : decode cX8_sorted 50 = .ok (.iload_n 3, 1) := by decide +kernel
theorem dX8_sorted_51 : decode cX8_sorted 51 = .ok (.ireturn, 1) := by decide +kernel
theorem dX8_keeps_0 : decode cX8_keeps 0 = .ok (.iload_n 1, 1) := by decide +kernel
theorem dX8_keeps_1 : decode cX8_keeps 1 = .ok (.iconst 0, 1) := by decide +kernel
theorem dX8_keeps_2 : decode cX8_keeps 2 = .ok (.iconst 2, 1) := by decide +kernel
theorem dX8_keeps_3 : decode cX8_keeps 3 = .ok (.invokestatic 96, 3) := by decide +kernel
theorem dX8_keeps_6 : decode cX8_keeps 6 = .ok (.invokestatic 81, 3) := by decide +kernel
theorem dX8_keeps_9 : decode cX8_keeps 9 = .ok (.istore_n 2, 1) := by decide +kernel
theorem dX8_keeps_10 : decode cX8_keeps 10 = .ok (.aload_n 0, 1) := by decide +kernel
theorem dX8_keeps_11 : decode cX8_keeps 11 = .ok (.iload_n 2, 1) := by decide +kernel
theorem dX8_keeps_12 : decode cX8_keeps 12 = .ok (.invokevirtual 58, 3) := by decide +kernel
theorem dX8_keeps_15 : decode cX8_keeps 15 = .ok (.ifCond .eq 21, 3) := by decide +kernel
theorem dX8_keeps_18 : decode cX8_keeps 18 = .ok (.aload_n 0, 1) := by decide +kernel
theorem dX8_keeps_19 : decode cX8_keeps 19 = .ok (.getfield 12, 3) := by decide +kernel
theorem dX8_keeps_22 : decode cX8_keeps 22 = .ok (.getfield 205, 3) := by decide +kernel
theorem dX8_keeps_25 : decode cX8_keeps 25 = .ok (.aload_n 0, 1) := by decide +kernel
theorem dX8_keeps_26 : decode cX8_keeps 26 = .ok (.getfield 12, 3) := by decide +kernel
theorem dX8_keeps_29 : decode cX8_keeps 29 = .ok (.iload_n 1, 1) := by decide +kernel
theorem dX8_keeps_30 : decode cX8_keeps 30 = .ok (.invokevirtual 209, 3) := by decide +kernel
theorem dX8_keeps_33 : decode cX8_keeps 33 = .ok (.goto 4, 3) := by decide +kernel
theorem dX8_keeps_36 : decode cX8_keeps 36 = .ok (.iload_n 2, 1) := by decide +kernel
theorem dX8_keeps_37 : decode cX8_keeps 37 = .ok (.ireturn, 1) := by decide +kernel
theorem dX8_takes_0 : decode cX8_takes 0 = .ok (.aload_n 0, 1) := by decide +kernel
theorem dX8_takes_1 : decode cX8_takes 1 = .ok (.getfield 12, 3) := by decide +kernel
theorem dX8_takes_4 : decode cX8_takes 4 = .ok (.getfield 205, 3) := by decide +kernel
theorem dX8_takes_7 : decode cX8_takes 7 = .ok (.iload_n 1, 1) := by decide +kernel
theorem dX8_takes_8 : decode cX8_takes 8 = .ok (.invokevirtual 215, 3) := by decide +kernel
theorem dX8_takes_11 : decode cX8_takes 11 = .ok (.istore_n 2, 1) := by decide +kernel
theorem dX8_takes_12 : decode cX8_takes 12 = .ok (.aload_n 0, 1) := by decide +kernel
theorem dX8_takes_13 : decode cX8_takes 13 = .ok (.iload_n 2, 1) := by decide +kernel
theorem dX8_takes_14 : decode cX8_takes 14 = .ok (.invokevirtual 58, 3) := by decide +kernel
theorem dX8_takes_17 : decode cX8_takes 17 = .ok (.ifCond .eq 21, 3) := by decide +kernel
theorem dX8_takes_20 : decode cX8_takes 20 = .ok (.aload_n 0, 1) := by decide +kernel
theorem dX8_takes_21 : decode cX8_takes 21 = .ok (.getfield 12, 3) := by decide +kernel
theorem dX8_takes_24 : decode cX8_takes 24 = .ok (.getfield 205, 3) := by decide +kernel
theorem dX8_takes_27 : decode cX8_takes 27 = .ok (.aload_n 0, 1) := by decide +kernel
theorem dX8_takes_28 : decode cX8_takes 28 = .ok (.getfield 12, 3) := by decide +kernel
theorem dX8_takes_31 : decode cX8_takes 31 = .ok (.iload_n 1, 1) := by decide +kernel
theorem dX8_takes_32 : decode cX8_takes 32 = .ok (.invokevirtual 218, 3) := by decide +kernel
theorem dX8_takes_35 : decode cX8_takes 35 = .ok (.goto 4, 3) := by decide +kernel
theorem dX8_takes_38 : decode cX8_takes 38 = .ok (.iload_n 2, 1) := by decide +kernel
theorem dX8_takes_39 : decode cX8_takes 39 = .ok (.ireturn, 1) := by decide +kernel
theorem dX8_otherwise_0 : decode cX8_otherwise 0 = .ok (.iload_n 2, 1) := by decide +kernel
theorem dX8_otherwise_1 : decode cX8_otherwise 1 = .ok (.iconst 0, 1) := by decide +kernel
theorem dX8_otherwise_2 : decode cX8_otherwise 2 = .ok (.iconst 1, 1) := by decide +kernel
theorem dX8_otherwise_3 : decode cX8_otherwise 3 = .ok (.invokestatic 96, 3) := by decide +kernel
theorem dX8_otherwise_6 : decode cX8_otherwise 6 = .ok (.ifCond .eq 17, 3) := by decide +kernel
theorem dX8_otherwise_9 : decode cX8_otherwise 9 = .ok (.aload_n 0, 1) := by decide +kernel
theorem dX8_otherwise_10 : decode cX8_otherwise 10 = .ok (.getfield 12, 3) := by decide +kernel
theorem dX8_otherwise_13 : decode cX8_otherwise 13 = .ok (.getfield 205, 3) := by decide +kernel
theorem dX8_otherwise_16 : decode cX8_otherwise 16 = .ok (.iload_n 1, 1) := by decide +kernel
theorem dX8_otherwise_17 : decode cX8_otherwise 17 = .ok (.invokevirtual 215, 3) := by decide +kernel
theorem dX8_otherwise_20 : decode cX8_otherwise 20 = .ok (.goto 5, 3) := by decide +kernel
theorem dX8_otherwise_23 : decode cX8_otherwise 23 = .ok (.bipush (-2), 2) := by decide +kernel
theorem dX8_otherwise_25 : decode cX8_otherwise 25 = .ok (.istore_n 3, 1) := by decide +kernel
theorem dX8_otherwise_26 : decode cX8_otherwise 26 = .ok (.aload_n 0, 1) := by decide +kernel
theorem dX8_otherwise_27 : decode cX8_otherwise 27 = .ok (.iload_n 3, 1) := by decide +kernel
theorem dX8_otherwise_28 : decode cX8_otherwise 28 = .ok (.invokevirtual 100, 3) := by decide +kernel
theorem dX8_otherwise_31 : decode cX8_otherwise 31 = .ok (.ifCond .ne 5, 3) := by decide +kernel
theorem dX8_otherwise_34 : decode cX8_otherwise 34 = .ok (.iload_n 3, 1) := by decide +kernel
theorem dX8_otherwise_35 : decode cX8_otherwise 35 = .ok (.ireturn, 1) := by decide +kernel
theorem dX8_otherwise_36 : decode cX8_otherwise 36 = .ok (.iload_n 2, 1) := by decide +kernel
theorem dX8_otherwise_37 : decode cX8_otherwise 37 = .ok (.ifCond .ne 21, 3) := by decide +kernel
theorem dX8_otherwise_40 : decode cX8_otherwise 40 = .ok (.aload_n 0, 1) := by decide +kernel
theorem dX8_otherwise_41 : decode cX8_otherwise 41 = .ok (.getfield 12, 3) := by decide +kernel
theorem dX8_otherwise_44 : decode cX8_otherwise 44 = .ok (.getfield 205, 3) := by decide +kernel
theorem dX8_otherwise_47 : decode cX8_otherwise 47 = .ok (.aload_n 0, 1) := by decide +kernel
theorem dX8_otherwise_48 : decode cX8_otherwise 48 = .ok (.getfield 12, 3) := by decide +kernel
theorem dX8_otherwise_51 : decode cX8_otherwise 51 = .ok (.iload_n 1, 1) := by decide +kernel
theorem dX8_otherwise_52 : decode cX8_otherwise 52 = .ok (.invokevirtual 221, 3) := by decide +kernel
theorem dX8_otherwise_55 : decode cX8_otherwise 55 = .ok (.goto 18, 3) := by decide +kernel
theorem dX8_otherwise_58 : decode cX8_otherwise 58 = .ok (.aload_n 0, 1) := by decide +kernel
theorem dX8_otherwise_59 : decode cX8_otherwise 59 = .ok (.getfield 12, 3) := by decide +kernel
theorem dX8_otherwise_62 : decode cX8_otherwise 62 = .ok (.getfield 205, 3) := by decide +kernel
theorem dX8_otherwise_65 : decode cX8_otherwise 65 = .ok (.aload_n 0, 1) := by decide +kernel
theorem dX8_otherwise_66 : decode cX8_otherwise 66 = .ok (.getfield 12, 3) := by decide +kernel
theorem dX8_otherwise_69 : decode cX8_otherwise 69 = .ok (.iload_n 1, 1) := by decide +kernel
theorem dX8_otherwise_70 : decode cX8_otherwise 70 = .ok (.invokevirtual 224, 3) := by decide +kernel
theorem dX8_otherwise_73 : decode cX8_otherwise 73 = .ok (.ireturn, 1) := by decide +kernel
theorem dX8_type_0 : decode cX8_type 0 = .ok (.aload_n 0, 1) := by decide +kernel
theorem dX8_type_1 : decode cX8_type 1 = .ok (.getfield 50, 3) := by decide +kernel
theorem dX8_type_4 : decode cX8_type 4 = .ok (.iload_n 1, 1) := by decide +kernel
theorem dX8_type_5 : decode cX8_type 5 = .ok (.invokevirtual 227, 3) := by decide +kernel
theorem dX8_type_8 : decode cX8_type 8 = .ok (.istore_n 2, 1) := by decide +kernel
theorem dX8_type_9 : decode cX8_type 9 = .ok (.aload_n 0, 1) := by decide +kernel
theorem dX8_type_10 : decode cX8_type 10 = .ok (.iload_n 2, 1) := by decide +kernel
theorem dX8_type_11 : decode cX8_type 11 = .ok (.invokevirtual 100, 3) := by decide +kernel
theorem dX8_type_14 : decode cX8_type 14 = .ok (.ifCond .eq 14, 3) := by decide +kernel
theorem dX8_type_17 : decode cX8_type 17 = .ok (.aload_n 0, 1) := by decide +kernel
theorem dX8_type_18 : decode cX8_type 18 = .ok (.getfield 50, 3) := by decide +kernel
theorem dX8_type_21 : decode cX8_type 21 = .ok (.iload_n 1, 1) := by decide +kernel
theorem dX8_type_22 : decode cX8_type 22 = .ok (.invokevirtual 230, 3) := by decide +kernel
theorem dX8_type_25 : decode cX8_type 25 = .ok (.goto 4, 3) := by decide +kernel
theorem dX8_type_28 : decode cX8_type 28 = .ok (.iload_n 2, 1) := by decide +kernel
theorem dX8_type_29 : decode cX8_type 29 = .ok (.ireturn, 1) := by decide +kernel
theorem dX8_clear_0 : decode cX8_clear 0 = .ok (.aload_n 0, 1) := by decide +kernel
theorem dX8_clear_1 : decode cX8_clear 1 = .ok (.getfield 50, 3) := by decide +kernel
theorem dX8_clear_4 : decode cX8_clear 4 = .ok (.invokevirtual 233, 3) := by decide +kernel
theorem dX8_clear_7 : decode cX8_clear 7 = .ok (.ireturn, 1) := by decide +kernel
theorem dX8_reads_0 : decode cX8_reads 0 = .ok (.aload_n 0, 1) := by decide +kernel
theorem dX8_reads_1 : decode cX8_reads 1 = .ok (.getfield 50, 3) := by decide +kernel
theorem dX8_reads_4 : decode cX8_reads 4 = .ok (.invokevirtual 237, 3) := by decide +kernel
theorem dX8_reads_7 : decode cX8_reads 7 = .ok (.istore_n 1, 1) := by decide +kernel
theorem dX8_reads_8 : decode cX8_reads 8 = .ok (.iload_n 1, 1) := by decide +kernel
theorem dX8_reads_9 : decode cX8_reads 9 = .ok (.iconst (-1), 1) := by decide +kernel
theorem dX8_reads_10 : decode cX8_reads 10 = .ok (.if_icmp .eq 8, 3) := by decide +kernel
theorem dX8_reads_13 : decode cX8_reads 13 = .ok (.bipush (-10), 2) := by decide +kernel
theorem dX8_reads_15 : decode cX8_reads 15 = .ok (.iload_n 1, 1) := by decide +kernel
theorem dX8_reads_16 : decode cX8_reads 16 = .ok (.isub, 1) := by decide +kernel
theorem dX8_reads_17 : decode cX8_reads 17 = .ok (.ireturn, 1) := by decide +kernel
theorem dX8_reads_18 : decode cX8_reads 18 = .ok (.aload_n 0, 1) := by decide +kernel
theorem dX8_reads_19 : decode cX8_reads 19 = .ok (.getfield 16, 3) := by decide +kernel
theorem dX8_reads_22 : decode cX8_reads 22 = .ok (.aload_n 0, 1) := by decide +kernel
theorem dX8_reads_23 : decode cX8_reads 23 = .ok (.getfield 12, 3) := by decide +kernel
theorem dX8_reads_26 : decode cX8_reads 26 = .ok (.invokevirtual 240, 3) := by decide +kernel
theorem dX8_reads_29 : decode cX8_reads 29 = .ok (.aload_n 0, 1) := by decide +kernel
theorem dX8_reads_30 : decode cX8_reads 30 = .ok (.getfield 50, 3) := by decide +kernel
theorem dX8_reads_33 : decode cX8_reads 33 = .ok (.getfield 243, 3) := by decide +kernel
theorem dX8_reads_36 : decode cX8_reads 36 = .ok (.istore_n 2, 1) := by decide +kernel
theorem dX8_reads_37 : decode cX8_reads 37 = .ok (.iconst 0, 1) := by decide +kernel
theorem dX8_reads_38 : decode cX8_reads 38 = .ok (.istore_n 3, 1) := by decide +kernel
theorem dX8_reads_39 : decode cX8_reads 39 = .ok (.iload_n 3, 1) := by decide +kernel
theorem dX8_reads_40 : decode cX8_reads 40 = .ok (.iload_n 2, 1) := by decide +kernel
theorem dX8_reads_41 : decode cX8_reads 41 = .ok (.if_icmp .ge 23, 3) := by decide +kernel
theorem dX8_reads_44 : decode cX8_reads 44 = .ok (.aload_n 0, 1) := by decide +kernel
theorem dX8_reads_45 : decode cX8_reads 45 = .ok (.iload_n 3, 1) := by decide +kernel
theorem dX8_reads_46 : decode cX8_reads 46 = .ok (.invokevirtual 246, 3) := by decide +kernel
theorem dX8_reads_49 : decode cX8_reads 49 = .ok (.ifCond .ne 9, 3) := by decide +kernel
theorem dX8_reads_52 : decode cX8_reads 52 = .ok (.sipush (-1000), 3) := by decide +kernel
theorem dX8_reads_55 : decode cX8_reads 55 = .ok (.iload_n 3, 1) := by decide +kernel
theorem dX8_reads_56 : decode cX8_reads 56 = .ok (.isub, 1) := by decide +kernel
theorem dX8_reads_57 : decode cX8_reads 57 = .ok (.ireturn, 1) := by decide +kernel
theorem dX8_reads_58 : decode cX8_reads 58 = .ok (.iinc 3 1, 3) := by decide +kernel
theorem dX8_reads_61 : decode cX8_reads 61 = .ok (.goto (-22), 3) := by decide +kernel
theorem dX8_reads_64 : decode cX8_reads 64 = .ok (.aload_n 0, 1) := by decide +kernel
theorem dX8_reads_65 : decode cX8_reads 65 = .ok (.getfield 22, 3) := by decide +kernel
theorem dX8_reads_68 : decode cX8_reads 68 = .ok (.aload_n 0, 1) := by decide +kernel
theorem dX8_reads_69 : decode cX8_reads 69 = .ok (.getfield 12, 3) := by decide +kernel
theorem dX8_reads_72 : decode cX8_reads 72 = .ok (.invokevirtual 152, 3) := by decide +kernel
theorem dX8_reads_75 : decode cX8_reads 75 = .ok (.aload_n 0, 1) := by decide +kernel
theorem dX8_reads_76 : decode cX8_reads 76 = .ok (.getfield 12, 3) := by decide +kernel
theorem dX8_reads_79 : decode cX8_reads 79 = .ok (.aload_n 0, 1) := by decide +kernel
theorem dX8_reads_80 : decode cX8_reads 80 = .ok (.getfield 16, 3) := by decide +kernel
theorem dX8_reads_83 : decode cX8_reads 83 = .ok (.invokevirtual 240, 3) := by decide +kernel
theorem dX8_reads_86 : decode cX8_reads 86 = .ok (.iload_n 2, 1) := by decide +kernel
theorem dX8_reads_87 : decode cX8_reads 87 = .ok (.ireturn, 1) := by decide +kernel
theorem dX8_back_0 : decode cX8_back 0 = .ok (.aload_n 0, 1) := by decide +kernel
theorem dX8_back_1 : decode cX8_back 1 = .ok (.getfield 22, 3) := by decide +kernel
theorem dX8_back_4 : decode cX8_back 4 = .ok (.getfield 249, 3) := by decide +kernel
theorem dX8_back_7 : decode cX8_back 7 = .ok (.ifCond .le 7, 3) := by decide +kernel
theorem dX8_back_10 : decode cX8_back 10 = .ok (.iconst 0, 1) := by decide +kernel
theorem dX8_back_11 : decode cX8_back 11 = .ok (.goto 5, 3) := by decide +kernel
theorem dX8_back_14 : decode cX8_back 14 = .ok (.bipush (-3), 2) := by decide +kernel
theorem dX8_back_16 : decode cX8_back 16 = .ok (.istore_n 1, 1) := by decide +kernel
theorem dX8_back_17 : decode cX8_back 17 = .ok (.aload_n 0, 1) := by decide +kernel
theorem dX8_back_18 : decode cX8_back 18 = .ok (.iload_n 1, 1) := by decide +kernel
theorem dX8_back_19 : decode cX8_back 19 = .ok (.invokevirtual 100, 3) := by decide +kernel
theorem dX8_back_22 : decode cX8_back 22 = .ok (.ifCond .eq 17, 3) := by decide +kernel
theorem dX8_back_25 : decode cX8_back 25 = .ok (.aload_n 0, 1) := by decide +kernel
theorem dX8_back_26 : decode cX8_back 26 = .ok (.getfield 22, 3) := by decide +kernel
theorem dX8_back_29 : decode cX8_back 29 = .ok (.aload_n 0, 1) := by decide +kernel
theorem dX8_back_30 : decode cX8_back 30 = .ok (.getfield 12, 3) := by decide +kernel
theorem dX8_back_33 : decode cX8_back 33 = .ok (.invokevirtual 252, 3) := by decide +kernel
theorem dX8_back_36 : decode cX8_back 36 = .ok (.goto 4, 3) := by decide +kernel
theorem dX8_back_39 : decode cX8_back 39 = .ok (.iload_n 1, 1) := by decide +kernel
theorem dX8_back_40 : decode cX8_back 40 = .ok (.ireturn, 1) := by decide +kernel
theorem dX8_told_0 : decode cX8_told 0 = .ok (.iload_n 1, 1) := by decide +kernel
theorem dX8_told_1 : decode cX8_told 1 = .ok (.iconst 0, 1) := by decide +kernel
theorem dX8_told_2 : decode cX8_told 2 = .ok (.bipush 13, 2) := by decide +kernel
theorem dX8_told_4 : decode cX8_told 4 = .ok (.invokestatic 96, 3) := by decide +kernel
theorem dX8_told_7 : decode cX8_told 7 = .ok (.invokestatic 81, 3) := by decide +kernel
theorem dX8_told_10 : decode cX8_told 10 = .ok (.istore_n 2, 1) := by decide +kernel
theorem dX8_told_11 : decode cX8_told 11 = .ok (.aload_n 0, 1) := by decide +kernel
theorem dX8_told_12 : decode cX8_told 12 = .ok (.iload_n 2, 1) := by decide +kernel
theorem dX8_told_13 : decode cX8_told 13 = .ok (.invokevirtual 100, 3) := by decide +kernel
theorem dX8_told_16 : decode cX8_told 16 = .ok (.ifCond .ne 5, 3) := by decide +kernel
theorem dX8_told_19 : decode cX8_told 19 = .ok (.iload_n 2, 1) := by decide +kernel
theorem dX8_told_20 : decode cX8_told 20 = .ok (.ireturn, 1) := by decide +kernel
theorem dX8_told_21 : decode cX8_told 21 = .ok (.iload_n 1, 1) := by decide +kernel
theorem dX8_told_22 : decode cX8_told 22 = .ok (.tableswitch 136 0 13 #[70, 75, 80, 85, 93, 101, 109, 136, 136, 136, 136, 136, 117, 128], 70) := by decide +kernel
theorem dX8_told_92 : decode cX8_told 92 = .ok (.aload_n 0, 1) := by decide +kernel
theorem dX8_told_93 : decode cX8_told 93 = .ok (.getfield 255, 3) := by decide +kernel
theorem dX8_told_96 : decode cX8_told 96 = .ok (.ireturn, 1) := by decide +kernel
theorem dX8_told_97 : decode cX8_told 97 = .ok (.aload_n 0, 1) := by decide +kernel
theorem dX8_told_98 : decode cX8_told 98 = .ok (.getfield 258, 3) := by decide +kernel
theorem dX8_told_101 : decode cX8_told 101 = .ok (.ireturn, 1) := by decide +kernel
theorem dX8_told_102 : decode cX8_told 102 = .ok (.aload_n 0, 1) := by decide +kernel
theorem dX8_told_103 : decode cX8_told 103 = .ok (.getfield 261, 3) := by decide +kernel
theorem dX8_told_106 : decode cX8_told 106 = .ok (.ireturn, 1) := by decide +kernel
theorem dX8_told_107 : decode cX8_told 107 = .ok (.aload_n 0, 1) := by decide +kernel
theorem dX8_told_108 : decode cX8_told 108 = .ok (.getfield 50, 3) := by decide +kernel
theorem dX8_told_111 : decode cX8_told 111 = .ok (.getfield 264, 3) := by decide +kernel
theorem dX8_told_114 : decode cX8_told 114 = .ok (.ireturn, 1) := by decide +kernel
theorem dX8_told_115 : decode cX8_told 115 = .ok (.aload_n 0, 1) := by decide +kernel
theorem dX8_told_116 : decode cX8_told 116 = .ok (.getfield 12, 3) := by decide +kernel
theorem dX8_told_119 : decode cX8_told 119 = .ok (.getfield 267, 3) := by decide +kernel
theorem dX8_told_122 : decode cX8_told 122 = .ok (.ireturn, 1) := by decide +kernel
theorem dX8_told_123 : decode cX8_told 123 = .ok (.aload_n 0, 1) := by decide +kernel
theorem dX8_told_124 : decode cX8_told 124 = .ok (.getfield 12, 3) := by decide +kernel
theorem dX8_told_127 : decode cX8_told 127 = .ok (.getfield 166, 3) := by decide +kernel
theorem dX8_told_130 : decode cX8_told 130 = .ok (.ireturn, 1) := by decide +kernel
theorem dX8_told_131 : decode cX8_told 131 = .ok (.aload_n 0, 1) := by decide +kernel
theorem dX8_told_132 : decode cX8_told 132 = .ok (.getfield 12, 3) := by decide +kernel
theorem dX8_told_135 : decode cX8_told 135 = .ok (.getfield 170, 3) := by decide +kernel
theorem dX8_told_138 : decode cX8_told 138 = .ok (.ireturn, 1) := by decide +kernel
theorem dX8_told_139 : decode cX8_told 139 = .ok (.aload_n 0, 1) := by decide +kernel
theorem dX8_told_140 : decode cX8_told 140 = .ok (.getfield 12, 3) := by decide +kernel
theorem dX8_told_143 : decode cX8_told 143 = .ok (.getfield 205, 3) := by decide +kernel
theorem dX8_told_146 : decode cX8_told 146 = .ok (.getfield 268, 3) := by decide +kernel
theorem dX8_told_149 : decode cX8_told 149 = .ok (.ireturn, 1) := by decide +kernel
theorem dX8_told_150 : decode cX8_told 150 = .ok (.aload_n 0, 1) := by decide +kernel
theorem dX8_told_151 : decode cX8_told 151 = .ok (.getfield 22, 3) := by decide +kernel
theorem dX8_told_154 : decode cX8_told 154 = .ok (.getfield 249, 3) := by decide +kernel
theorem dX8_told_157 : decode cX8_told 157 = .ok (.ireturn, 1) := by decide +kernel
theorem dX8_told_158 : decode cX8_told 158 = .ok (.aload_n 0, 1) := by decide +kernel
theorem dX8_told_159 : decode cX8_told 159 = .ok (.getfield 12, 3) := by decide +kernel
theorem dX8_told_162 : decode cX8_told 162 = .ok (.iload_n 1, 1) := by decide +kernel
theorem dX8_told_163 : decode cX8_told 163 = .ok (.bipush 7, 2) := by decide +kernel
theorem dX8_told_165 : decode cX8_told 165 = .ok (.isub, 1) := by decide +kernel
theorem dX8_told_166 : decode cX8_told 166 = .ok (.invokevirtual 271, 3) := by decide +kernel
theorem dX8_told_169 : decode cX8_told 169 = .ok (.ireturn, 1) := by decide +kernel
theorem dX8_digest_0 : decode cX8_digest 0 = .ok (.ldc2_w 274, 3) := by decide +kernel
theorem dX8_digest_3 : decode cX8_digest 3 = .ok (.lstore_n 1, 1) := by decide +kernel
theorem dX8_digest_4 : decode cX8_digest 4 = .ok (.iconst 0, 1) := by decide +kernel
theorem dX8_digest_5 : decode cX8_digest 5 = .ok (.istore_n 3, 1) := by decide +kernel
theorem dX8_digest_6 : decode cX8_digest 6 = .ok (.iload_n 3, 1) := by decide +kernel
theorem dX8_digest_7 : decode cX8_digest 7 = .ok (.bipush 13, 2) := by decide +kernel
theorem dX8_digest_9 : decode cX8_digest 9 = .ok (.if_icmp .gt 22, 3) := by decide +kernel
theorem dX8_digest_12 : decode cX8_digest 12 = .ok (.ldc2_w 276, 3) := by decide +kernel
theorem dX8_digest_15 : decode cX8_digest 15 = .ok (.lload_n 1, 1) := by decide +kernel
theorem dX8_digest_16 : decode cX8_digest 16 = .ok (.lmul, 1) := by decide +kernel
theorem dX8_digest_17 : decode cX8_digest 17 = .ok (.aload_n 0, 1) := by decide +kernel
theorem dX8_digest_18 : decode cX8_digest 18 = .ok (.iload_n 3, 1) := by decide +kernel
theorem dX8_digest_19 : decode cX8_digest 19 = .ok (.invokevirtual 278, 3) := by decide +kernel
theorem dX8_digest_22 : decode cX8_digest 22 = .ok (.i2l, 1) := by decide +kernel
theorem dX8_digest_23 : decode cX8_digest 23 = .ok (.ladd, 1) := by decide +kernel
theorem dX8_digest_24 : decode cX8_digest 24 = .ok (.lstore_n 1, 1) := by decide +kernel
theorem dX8_digest_25 : decode cX8_digest 25 = .ok (.iinc 3 1, 3) := by decide +kernel
theorem dX8_digest_28 : decode cX8_digest 28 = .ok (.goto (-22), 3) := by decide +kernel
theorem dX8_digest_31 : decode cX8_digest 31 = .ok (.iconst 0, 1) := by decide +kernel
theorem dX8_digest_32 : decode cX8_digest 32 = .ok (.istore_n 3, 1) := by decide +kernel
theorem dX8_digest_33 : decode cX8_digest 33 = .ok (.iload_n 3, 1) := by decide +kernel
theorem dX8_digest_34 : decode cX8_digest 34 = .ok (.aload_n 0, 1) := by decide +kernel
theorem dX8_digest_35 : decode cX8_digest 35 = .ok (.getfield 12, 3) := by decide +kernel
theorem dX8_digest_38 : decode cX8_digest 38 = .ok (.getfield 267, 3) := by decide +kernel
theorem dX8_digest_41 : decode cX8_digest 41 = .ok (.if_icmp .ge 43, 3) := by decide +kernel
theorem dX8_digest_44 : decode cX8_digest 44 = .ok (.iconst 0, 1) := by decide +kernel
theorem dX8_digest_45 : decode cX8_digest 45 = .ok (.istore 4, 2) := by decide +kernel
theorem dX8_digest_47 : decode cX8_digest 47 = .ok (.iload 4, 2) := by decide +kernel
theorem dX8_digest_49 : decode cX8_digest 49 = .ok (.bipush 9, 2) := by decide +kernel
theorem dX8_digest_51 : decode cX8_digest 51 = .ok (.if_icmp .gt 27, 3) := by decide +kernel
theorem dX8_digest_54 : decode cX8_digest 54 = .ok (.ldc2_w 276, 3) := by decide +kernel
theorem dX8_digest_57 : decode cX8_digest 57 = .ok (.lload_n 1, 1) := by decide +kernel
theorem dX8_digest_58 : decode cX8_digest 58 = .ok (.lmul, 1) := by decide +kernel
theorem dX8_digest_59 : decode cX8_digest 59 = .ok (.aload_n 0, 1) := by decide +kernel
theorem dX8_digest_60 : decode cX8_digest 60 = .ok (.getfield 12, 3) := by decide +kernel
theorem dX8_digest_63 : decode cX8_digest 63 = .ok (.iload_n 3, 1) := by decide +kernel
theorem dX8_digest_64 : decode cX8_digest 64 = .ok (.iload 4, 2) := by decide +kernel
theorem dX8_digest_66 : decode cX8_digest 66 = .ok (.invokevirtual 103, 3) := by decide +kernel
theorem dX8_digest_69 : decode cX8_digest 69 = .ok (.i2l, 1) := by decide +kernel
theorem dX8_digest_70 : decode cX8_digest 70 = .ok (.ladd, 1) := by decide +kernel
theorem dX8_digest_71 : decode cX8_digest 71 = .ok (.lstore_n 1, 1) := by decide +kernel
theorem dX8_digest_72 : decode cX8_digest 72 = .ok (.iinc 4 1, 3) := by decide +kernel
theorem dX8_digest_75 : decode cX8_digest 75 = .ok (.goto (-28), 3) := by decide +kernel
theorem dX8_digest_78 : decode cX8_digest 78 = .ok (.iinc 3 1, 3) := by decide +kernel
theorem dX8_digest_81 : decode cX8_digest 81 = .ok (.goto (-48), 3) := by decide +kernel
theorem dX8_digest_84 : decode cX8_digest 84 = .ok (.iconst 1, 1) := by decide +kernel
theorem dX8_digest_85 : decode cX8_digest 85 = .ok (.istore_n 3, 1) := by decide +kernel
theorem dX8_digest_86 : decode cX8_digest 86 = .ok (.iload_n 3, 1) := by decide +kernel
theorem dX8_digest_87 : decode cX8_digest 87 = .ok (.bipush 6, 2) := by decide +kernel
theorem dX8_digest_89 : decode cX8_digest 89 = .ok (.if_icmp .gt 22, 3) := by decide +kernel
theorem dX8_digest_92 : decode cX8_digest 92 = .ok (.ldc2_w 276, 3) := by decide +kernel
theorem dX8_digest_95 : decode cX8_digest 95 = .ok (.lload_n 1, 1) := by decide +kernel
theorem dX8_digest_96 : decode cX8_digest 96 = .ok (.lmul, 1) := by decide +kernel
theorem dX8_digest_97 : decode cX8_digest 97 = .ok (.aload_n 0, 1) := by decide +kernel
theorem dX8_digest_98 : decode cX8_digest 98 = .ok (.iload_n 3, 1) := by decide +kernel
theorem dX8_digest_99 : decode cX8_digest 99 = .ok (.invokevirtual 281, 3) := by decide +kernel
theorem dX8_digest_102 : decode cX8_digest 102 = .ok (.i2l, 1) := by decide +kernel
theorem dX8_digest_103 : decode cX8_digest 103 = .ok (.ladd, 1) := by decide +kernel
theorem dX8_digest_104 : decode cX8_digest 104 = .ok (.lstore_n 1, 1) := by decide +kernel
theorem dX8_digest_105 : decode cX8_digest 105 = .ok (.iinc 3 1, 3) := by decide +kernel
theorem dX8_digest_108 : decode cX8_digest 108 = .ok (.goto (-22), 3) := by decide +kernel
theorem dX8_digest_111 : decode cX8_digest 111 = .ok (.aload_n 0, 1) := by decide +kernel
theorem dX8_digest_112 : decode cX8_digest 112 = .ok (.getfield 43, 3) := by decide +kernel
theorem dX8_digest_115 : decode cX8_digest 115 = .ok (.aload_n 0, 1) := by decide +kernel
theorem dX8_digest_116 : decode cX8_digest 116 = .ok (.getfield 12, 3) := by decide +kernel
theorem dX8_digest_119 : decode cX8_digest 119 = .ok (.invokevirtual 176, 3) := by decide +kernel
theorem dX8_digest_122 : decode cX8_digest 122 = .ok (.ldc2_w 276, 3) := by decide +kernel
theorem dX8_digest_125 : decode cX8_digest 125 = .ok (.lload_n 1, 1) := by decide +kernel
theorem dX8_digest_126 : decode cX8_digest 126 = .ok (.lmul, 1) := by decide +kernel
theorem dX8_digest_127 : decode cX8_digest 127 = .ok (.aload_n 0, 1) := by decide +kernel
theorem dX8_digest_128 : decode cX8_digest 128 = .ok (.getfield 43, 3) := by decide +kernel
theorem dX8_digest_131 : decode cX8_digest 131 = .ok (.iconst 0, 1) := by decide +kernel
theorem dX8_digest_132 : decode cX8_digest 132 = .ok (.invokevirtual 179, 3) := by decide +kernel
theorem dX8_digest_135 : decode cX8_digest 135 = .ok (.i2l, 1) := by decide +kernel
theorem dX8_digest_136 : decode cX8_digest 136 = .ok (.ladd, 1) := by decide +kernel
theorem dX8_digest_137 : decode cX8_digest 137 = .ok (.lstore_n 1, 1) := by decide +kernel
theorem dX8_digest_138 : decode cX8_digest 138 = .ok (.ldc2_w 276, 3) := by decide +kernel
theorem dX8_digest_141 : decode cX8_digest 141 = .ok (.lload_n 1, 1) := by decide +kernel
theorem dX8_digest_142 : decode cX8_digest 142 = .ok (.lmul, 1) := by decide +kernel
theorem dX8_digest_143 : decode cX8_digest 143 = .ok (.aload_n 0, 1) := by decide +kernel
theorem dX8_digest_144 : decode cX8_digest 144 = .ok (.getfield 43, 3) := by decide +kernel
theorem dX8_digest_147 : decode cX8_digest 147 = .ok (.iconst 1, 1) := by decide +kernel
theorem dX8_digest_148 : decode cX8_digest 148 = .ok (.invokevirtual 179, 3) := by decide +kernel
theorem dX8_digest_151 : decode cX8_digest 151 = .ok (.i2l, 1) := by decide +kernel
theorem dX8_digest_152 : decode cX8_digest 152 = .ok (.ladd, 1) := by decide +kernel
theorem dX8_digest_153 : decode cX8_digest 153 = .ok (.lstore_n 1, 1) := by decide +kernel
theorem dX8_digest_154 : decode cX8_digest 154 = .ok (.ldc2_w 276, 3) := by decide +kernel
theorem dX8_digest_157 : decode cX8_digest 157 = .ok (.lload_n 1, 1) := by decide +kernel
theorem dX8_digest_158 : decode cX8_digest 158 = .ok (.lmul, 1) := by decide +kernel
theorem dX8_digest_159 : decode cX8_digest 159 = .ok (.aload_n 0, 1) := by decide +kernel
theorem dX8_digest_160 : decode cX8_digest 160 = .ok (.getfield 43, 3) := by decide +kernel
theorem dX8_digest_163 : decode cX8_digest 163 = .ok (.iconst 4, 1) := by decide +kernel
theorem dX8_digest_164 : decode cX8_digest 164 = .ok (.invokevirtual 179, 3) := by decide +kernel
theorem dX8_digest_167 : decode cX8_digest 167 = .ok (.i2l, 1) := by decide +kernel
theorem dX8_digest_168 : decode cX8_digest 168 = .ok (.ladd, 1) := by decide +kernel
theorem dX8_digest_169 : decode cX8_digest 169 = .ok (.lstore_n 1, 1) := by decide +kernel
theorem dX8_digest_170 : decode cX8_digest 170 = .ok (.iconst 0, 1) := by decide +kernel
theorem dX8_digest_171 : decode cX8_digest 171 = .ok (.istore_n 3, 1) := by decide +kernel
theorem dX8_digest_172 : decode cX8_digest 172 = .ok (.iload_n 3, 1) := by decide +kernel
theorem dX8_digest_173 : decode cX8_digest 173 = .ok (.iconst 2, 1) := by decide +kernel
theorem dX8_digest_174 : decode cX8_digest 174 = .ok (.if_icmp .gt 21, 3) := by decide +kernel
theorem dX8_digest_177 : decode cX8_digest 177 = .ok (.ldc2_w 276, 3) := by decide +kernel
theorem dX8_digest_180 : decode cX8_digest 180 = .ok (.lload_n 1, 1) := by decide +kernel
theorem dX8_digest_181 : decode cX8_digest 181 = .ok (.lmul, 1) := by decide +kernel
theorem dX8_digest_182 : decode cX8_digest 182 = .ok (.aload_n 0, 1) := by decide +kernel
theorem dX8_digest_183 : decode cX8_digest 183 = .ok (.iload_n 3, 1) := by decide +kernel
theorem dX8_digest_184 : decode cX8_digest 184 = .ok (.invokevirtual 284, 3) := by decide +kernel
theorem dX8_digest_187 : decode cX8_digest 187 = .ok (.ladd, 1) := by decide +kernel
theorem dX8_digest_188 : decode cX8_digest 188 = .ok (.lstore_n 1, 1) := by decide +kernel
theorem dX8_digest_189 : decode cX8_digest 189 = .ok (.iinc 3 1, 3) := by decide +kernel
theorem dX8_digest_192 : decode cX8_digest 192 = .ok (.goto (-20), 3) := by decide +kernel
theorem dX8_digest_195 : decode cX8_digest 195 = .ok (.ldc2_w 276, 3) := by decide +kernel
theorem dX8_digest_198 : decode cX8_digest 198 = .ok (.lload_n 1, 1) := by decide +kernel
theorem dX8_digest_199 : decode cX8_digest 199 = .ok (.lmul, 1) := by decide +kernel
theorem dX8_digest_200 : decode cX8_digest 200 = .ok (.aload_n 0, 1) := by decide +kernel
theorem dX8_digest_201 : decode cX8_digest 201 = .ok (.invokevirtual 288, 3) := by decide +kernel
theorem dX8_digest_204 : decode cX8_digest 204 = .ok (.i2l, 1) := by decide +kernel
theorem dX8_digest_205 : decode cX8_digest 205 = .ok (.ladd, 1) := by decide +kernel
theorem dX8_digest_206 : decode cX8_digest 206 = .ok (.lreturn, 1) := by decide +kernel
theorem dX8_within_0 : decode cX8_within 0 = .ok (.iload_n 0, 1) := by decide +kernel
theorem dX8_within_1 : decode cX8_within 1 = .ok (.iload_n 1, 1) := by decide +kernel
theorem dX8_within_2 : decode cX8_within 2 = .ok (.if_icmp .lt 12, 3) := by decide +kernel
theorem dX8_within_5 : decode cX8_within 5 = .ok (.iload_n 0, 1) := by decide +kernel
theorem dX8_within_6 : decode cX8_within 6 = .ok (.iload_n 2, 1) := by decide +kernel
theorem dX8_within_7 : decode cX8_within 7 = .ok (.if_icmp .gt 7, 3) := by decide +kernel
theorem dX8_within_10 : decode cX8_within 10 = .ok (.iconst 1, 1) := by decide +kernel
theorem dX8_within_11 : decode cX8_within 11 = .ok (.goto 4, 3) := by decide +kernel
theorem dX8_within_14 : decode cX8_within 14 = .ok (.iconst 0, 1) := by decide +kernel
theorem dX8_within_15 : decode cX8_within 15 = .ok (.ireturn, 1) := by decide +kernel
theorem dX8_isPlace_0 : decode cX8_isPlace 0 = .ok (.iload_n 0, 1) := by decide +kernel
theorem dX8_isPlace_1 : decode cX8_isPlace 1 = .ok (.iconst 0, 1) := by decide +kernel
theorem dX8_isPlace_2 : decode cX8_isPlace 2 = .ok (.bipush 15, 2) := by decide +kernel
theorem dX8_isPlace_4 : decode cX8_isPlace 4 = .ok (.invokestatic 96, 3) := by decide +kernel
theorem dX8_isPlace_7 : decode cX8_isPlace 7 = .ok (.ifCond .eq 17, 3) := by decide +kernel
theorem dX8_isPlace_10 : decode cX8_isPlace 10 = .ok (.iload_n 1, 1) := by decide +kernel
theorem dX8_isPlace_11 : decode cX8_isPlace 11 = .ok (.iconst 0, 1) := by decide +kernel
theorem dX8_isPlace_12 : decode cX8_isPlace 12 = .ok (.bipush 15, 2) := by decide +kernel
theorem dX8_isPlace_14 : decode cX8_isPlace 14 = .ok (.invokestatic 96, 3) := by decide +kernel
theorem dX8_isPlace_17 : decode cX8_isPlace 17 = .ok (.ifCond .eq 7, 3) := by decide +kernel
theorem dX8_isPlace_20 : decode cX8_isPlace 20 = .ok (.iconst 1, 1) := by decide +kernel
theorem dX8_isPlace_21 : decode cX8_isPlace 21 = .ok (.goto 4, 3) := by decide +kernel
theorem dX8_isPlace_24 : decode cX8_isPlace 24 = .ok (.iconst 0, 1) := by decide +kernel
theorem dX8_isPlace_25 : decode cX8_isPlace 25 = .ok (.ireturn, 1) := by decide +kernel
theorem dX8_goodIf_0 : decode cX8_goodIf 0 = .ok (.iload_n 0, 1) := by decide +kernel
theorem dX8_goodIf_1 : decode cX8_goodIf 1 = .ok (.ifCond .eq 7, 3) := by decide +kernel
theorem dX8_goodIf_4 : decode cX8_goodIf 4 = .ok (.iconst 0, 1) := by decide +kernel
theorem dX8_goodIf_5 : decode cX8_goodIf 5 = .ok (.goto 5, 3) := by decide +kernel
theorem dX8_goodIf_8 : decode cX8_goodIf 8 = .ok (.bipush (-2), 2) := by decide +kernel
theorem dX8_goodIf_10 : decode cX8_goodIf 10 = .ok (.ireturn, 1) := by decide +kernel
theorem dX8_placeOf_0 : decode cX8_placeOf 0 = .ok (.bipush 16, 2) := by decide +kernel
theorem dX8_placeOf_2 : decode cX8_placeOf 2 = .ok (.iload_n 1, 1) := by decide +kernel
theorem dX8_placeOf_3 : decode cX8_placeOf 3 = .ok (.imul, 1) := by decide +kernel
theorem dX8_placeOf_4 : decode cX8_placeOf 4 = .ok (.iload_n 0, 1) := by decide +kernel
theorem dX8_placeOf_5 : decode cX8_placeOf 5 = .ok (.iadd, 1) := by decide +kernel
theorem dX8_placeOf_6 : decode cX8_placeOf 6 = .ok (.ireturn, 1) := by decide +kernel
theorem dX8_distance_0 : decode cX8_distance 0 = .ok (.iload_n 0, 1) := by decide +kernel
theorem dX8_distance_1 : decode cX8_distance 1 = .ok (.iload_n 1, 1) := by decide +kernel
theorem dX8_distance_2 : decode cX8_distance 2 = .ok (.if_icmp .ge 9, 3) := by decide +kernel
theorem dX8_distance_5 : decode cX8_distance 5 = .ok (.iload_n 1, 1) := by decide +kernel
theorem dX8_distance_6 : decode cX8_distance 6 = .ok (.iload_n 0, 1) := by decide +kernel
theorem dX8_distance_7 : decode cX8_distance 7 = .ok (.isub, 1) := by decide +kernel
theorem dX8_distance_8 : decode cX8_distance 8 = .ok (.goto 6, 3) := by decide +kernel
theorem dX8_distance_11 : decode cX8_distance 11 = .ok (.iload_n 0, 1) := by decide +kernel
theorem dX8_distance_12 : decode cX8_distance 12 = .ok (.iload_n 1, 1) := by decide +kernel
theorem dX8_distance_13 : decode cX8_distance 13 = .ok (.isub, 1) := by decide +kernel
theorem dX8_distance_14 : decode cX8_distance 14 = .ok (.ireturn, 1) := by decide +kernel
theorem dX8_mayAnswer_0 : decode cX8_mayAnswer 0 = .ok (.iload_n 1, 1) := by decide +kernel
theorem dX8_mayAnswer_1 : decode cX8_mayAnswer 1 = .ok (.tableswitch 66 (-4) (-2) #[53, 40, 27], 27) := by decide +kernel
theorem dX8_mayAnswer_28 : decode cX8_mayAnswer 28 = .ok (.aload_n 0, 1) := by decide +kernel
theorem dX8_mayAnswer_29 : decode cX8_mayAnswer 29 = .ok (.dup, 1) := by decide +kernel
theorem dX8_mayAnswer_30 : decode cX8_mayAnswer 30 = .ok (.getfield 255, 3) := by decide +kernel
theorem dX8_mayAnswer_33 : decode cX8_mayAnswer 33 = .ok (.iconst 1, 1) := by decide +kernel
theorem dX8_mayAnswer_34 : decode cX8_mayAnswer 34 = .ok (.iadd, 1) := by decide +kernel
theorem dX8_mayAnswer_35 : decode cX8_mayAnswer 35 = .ok (.putfield 255, 3) := by decide +kernel
theorem dX8_mayAnswer_38 : decode cX8_mayAnswer 38 = .ok (.goto 29, 3) := by decide +kernel
theorem dX8_mayAnswer_41 : decode cX8_mayAnswer 41 = .ok (.aload_n 0, 1) := by decide +kernel
theorem dX8_mayAnswer_42 : decode cX8_mayAnswer 42 = .ok (.dup, 1) := by decide +kernel
theorem dX8_mayAnswer_43 : decode cX8_mayAnswer 43 = .ok (.getfield 258, 3) := by decide +kernel
theorem dX8_mayAnswer_46 : decode cX8_mayAnswer 46 = .ok (.iconst 1, 1) := by decide +kernel
theorem dX8_mayAnswer_47 : decode cX8_mayAnswer 47 = .ok (.iadd, 1) := by decide +kernel
theorem dX8_mayAnswer_48 : decode cX8_mayAnswer 48 = .ok (.putfield 258, 3) := by decide +kernel
theorem dX8_mayAnswer_51 : decode cX8_mayAnswer 51 = .ok (.goto 16, 3) := by decide +kernel
theorem dX8_mayAnswer_54 : decode cX8_mayAnswer 54 = .ok (.aload_n 0, 1) := by decide +kernel
theorem dX8_mayAnswer_55 : decode cX8_mayAnswer 55 = .ok (.dup, 1) := by decide +kernel
theorem dX8_mayAnswer_56 : decode cX8_mayAnswer 56 = .ok (.getfield 261, 3) := by decide +kernel
theorem dX8_mayAnswer_59 : decode cX8_mayAnswer 59 = .ok (.iconst 1, 1) := by decide +kernel
theorem dX8_mayAnswer_60 : decode cX8_mayAnswer 60 = .ok (.iadd, 1) := by decide +kernel
theorem dX8_mayAnswer_61 : decode cX8_mayAnswer 61 = .ok (.putfield 261, 3) := by decide +kernel
theorem dX8_mayAnswer_64 : decode cX8_mayAnswer 64 = .ok (.goto 3, 3) := by decide +kernel
theorem dX8_mayAnswer_67 : decode cX8_mayAnswer 67 = .ok (.iload_n 1, 1) := by decide +kernel
theorem dX8_mayAnswer_68 : decode cX8_mayAnswer 68 = .ok (.ifCond .ne 7, 3) := by decide +kernel
theorem dX8_mayAnswer_71 : decode cX8_mayAnswer 71 = .ok (.iconst 1, 1) := by decide +kernel
theorem dX8_mayAnswer_72 : decode cX8_mayAnswer 72 = .ok (.goto 4, 3) := by decide +kernel
theorem dX8_mayAnswer_75 : decode cX8_mayAnswer 75 = .ok (.iconst 0, 1) := by decide +kernel
theorem dX8_mayAnswer_76 : decode cX8_mayAnswer 76 = .ok (.ireturn, 1) := by decide +kernel
theorem dX8_mayChange_0 : decode cX8_mayChange 0 = .ok (.aload_n 0, 1) := by decide +kernel
theorem dX8_mayChange_1 : decode cX8_mayChange 1 = .ok (.iload_n 1, 1) := by decide +kernel
theorem dX8_mayChange_2 : decode cX8_mayChange 2 = .ok (.invokevirtual 100, 3) := by decide +kernel
theorem dX8_mayChange_5 : decode cX8_mayChange 5 = .ok (.istore_n 2, 1) := by decide +kernel
theorem dX8_mayChange_6 : decode cX8_mayChange 6 = .ok (.iload_n 2, 1) := by decide +kernel
theorem dX8_mayChange_7 : decode cX8_mayChange 7 = .ok (.ifCond .eq 14, 3) := by decide +kernel
theorem dX8_mayChange_10 : decode cX8_mayChange 10 = .ok (.aload_n 0, 1) := by decide +kernel
theorem dX8_mayChange_11 : decode cX8_mayChange 11 = .ok (.getfield 22, 3) := by decide +kernel
theorem dX8_mayChange_14 : decode cX8_mayChange 14 = .ok (.aload_n 0, 1) := by decide +kernel
theorem dX8_mayChange_15 : decode cX8_mayChange 15 = .ok (.getfield 12, 3) := by decide +kernel
theorem dX8_mayChange_18 : decode cX8_mayChange 18 = .ok (.invokevirtual 152, 3) := by decide +kernel
theorem dX8_mayChange_21 : decode cX8_mayChange 21 = .ok (.iload_n 2, 1) := by decide +kernel
theorem dX8_mayChange_22 : decode cX8_mayChange 22 = .ok (.ireturn, 1) := by decide +kernel
theorem dX8_obeys_0 : decode cX8_obeys 0 = .ok (.aload_n 0, 1) := by decide +kernel
theorem dX8_obeys_1 : decode cX8_obeys 1 = .ok (.getfield 50, 3) := by decide +kernel
theorem dX8_obeys_4 : decode cX8_obeys 4 = .ok (.iload_n 1, 1) := by decide +kernel
theorem dX8_obeys_5 : decode cX8_obeys 5 = .ok (.iconst 0, 1) := by decide +kernel
theorem dX8_obeys_6 : decode cX8_obeys 6 = .ok (.invokevirtual 291, 3) := by decide +kernel
theorem dX8_obeys_9 : decode cX8_obeys 9 = .ok (.istore_n 2, 1) := by decide +kernel
theorem dX8_obeys_10 : decode cX8_obeys 10 = .ok (.aload_n 0, 1) := by decide +kernel
theorem dX8_obeys_11 : decode cX8_obeys 11 = .ok (.getfield 50, 3) := by decide +kernel
theorem dX8_obeys_14 : decode cX8_obeys 14 = .ok (.iload_n 1, 1) := by decide +kernel
theorem dX8_obeys_15 : decode cX8_obeys 15 = .ok (.iconst 1, 1) := by decide +kernel
theorem dX8_obeys_16 : decode cX8_obeys 16 = .ok (.invokevirtual 291, 3) := by decide +kernel
theorem dX8_obeys_19 : decode cX8_obeys 19 = .ok (.istore_n 3, 1) := by decide +kernel
theorem dX8_obeys_20 : decode cX8_obeys 20 = .ok (.aload_n 0, 1) := by decide +kernel
theorem dX8_obeys_21 : decode cX8_obeys 21 = .ok (.getfield 50, 3) := by decide +kernel
theorem dX8_obeys_24 : decode cX8_obeys 24 = .ok (.iload_n 1, 1) := by decide +kernel
theorem dX8_obeys_25 : decode cX8_obeys 25 = .ok (.iconst 2, 1) := by decide +kernel
theorem dX8_obeys_26 : decode cX8_obeys 26 = .ok (.invokevirtual 291, 3) := by decide +kernel
theorem dX8_obeys_29 : decode cX8_obeys 29 = .ok (.istore 4, 2) := by decide +kernel
theorem dX8_obeys_31 : decode cX8_obeys 31 = .ok (.aload_n 0, 1) := by decide +kernel
theorem dX8_obeys_32 : decode cX8_obeys 32 = .ok (.getfield 50, 3) := by decide +kernel
theorem dX8_obeys_35 : decode cX8_obeys 35 = .ok (.iload_n 1, 1) := by decide +kernel
theorem dX8_obeys_36 : decode cX8_obeys 36 = .ok (.iconst 3, 1) := by decide +kernel
theorem dX8_obeys_37 : decode cX8_obeys 37 = .ok (.invokevirtual 291, 3) := by decide +kernel
theorem dX8_obeys_40 : decode cX8_obeys 40 = .ok (.istore 5, 2) := by decide +kernel
theorem dX8_obeys_42 : decode cX8_obeys 42 = .ok (.aload_n 0, 1) := by decide +kernel
theorem dX8_obeys_43 : decode cX8_obeys 43 = .ok (.getfield 50, 3) := by decide +kernel
theorem dX8_obeys_46 : decode cX8_obeys 46 = .ok (.iload_n 1, 1) := by decide +kernel
theorem dX8_obeys_47 : decode cX8_obeys 47 = .ok (.invokevirtual 294, 3) := by decide +kernel
theorem dX8_obeys_50 : decode cX8_obeys 50 = .ok (.istore 6, 2) := by decide +kernel
theorem dX8_obeys_52 : decode cX8_obeys 52 = .ok (.iload 6, 2) := by decide +kernel
theorem dX8_obeys_54 : decode cX8_obeys 54 = .ok (.lookupswitch 200 #[(97, 180), (105, 50), (111, 152), (112, 118), (119, 88)], 50) := by decide +kernel
theorem dX8_obeys_104 : decode cX8_obeys 104 = .ok (.aload_n 0, 1) := by decide +kernel
theorem dX8_obeys_105 : decode cX8_obeys 105 = .ok (.getfield 16, 3) := by decide +kernel
theorem dX8_obeys_108 : decode cX8_obeys 108 = .ok (.iload_n 2, 1) := by decide +kernel
theorem dX8_obeys_109 : decode cX8_obeys 109 = .ok (.iload_n 3, 1) := by decide +kernel
theorem dX8_obeys_110 : decode cX8_obeys 110 = .ok (.iload 4, 2) := by decide +kernel
theorem dX8_obeys_112 : decode cX8_obeys 112 = .ok (.iload 5, 2) := by decide +kernel
theorem dX8_obeys_114 : decode cX8_obeys 114 = .ok (.invokevirtual 71, 3) := by decide +kernel
theorem dX8_obeys_117 : decode cX8_obeys 117 = .ok (.ifCond .ne 23, 3) := by decide +kernel
theorem dX8_obeys_120 : decode cX8_obeys 120 = .ok (.aload_n 0, 1) := by decide +kernel
theorem dX8_obeys_121 : decode cX8_obeys 121 = .ok (.getfield 16, 3) := by decide +kernel
theorem dX8_obeys_124 : decode cX8_obeys 124 = .ok (.iload_n 2, 1) := by decide +kernel
theorem dX8_obeys_125 : decode cX8_obeys 125 = .ok (.iload_n 3, 1) := by decide +kernel
theorem dX8_obeys_126 : decode cX8_obeys 126 = .ok (.iload 4, 2) := by decide +kernel
theorem dX8_obeys_128 : decode cX8_obeys 128 = .ok (.iload 5, 2) := by decide +kernel
theorem dX8_obeys_130 : decode cX8_obeys 130 = .ok (.invokevirtual 75, 3) := by decide +kernel
theorem dX8_obeys_133 : decode cX8_obeys 133 = .ok (.ifCond .lt 7, 3) := by decide +kernel
theorem dX8_obeys_136 : decode cX8_obeys 136 = .ok (.iconst 1, 1) := by decide +kernel
theorem dX8_obeys_137 : decode cX8_obeys 137 = .ok (.goto 4, 3) := by decide +kernel
theorem dX8_obeys_140 : decode cX8_obeys 140 = .ok (.iconst 0, 1) := by decide +kernel
theorem dX8_obeys_141 : decode cX8_obeys 141 = .ok (.ireturn, 1) := by decide +kernel
theorem dX8_obeys_142 : decode cX8_obeys 142 = .ok (.aload_n 0, 1) := by decide +kernel
theorem dX8_obeys_143 : decode cX8_obeys 143 = .ok (.getfield 16, 3) := by decide +kernel
theorem dX8_obeys_146 : decode cX8_obeys 146 = .ok (.iload_n 2, 1) := by decide +kernel
theorem dX8_obeys_147 : decode cX8_obeys 147 = .ok (.iload_n 3, 1) := by decide +kernel
theorem dX8_obeys_148 : decode cX8_obeys 148 = .ok (.invokevirtual 54, 3) := by decide +kernel
theorem dX8_obeys_151 : decode cX8_obeys 151 = .ok (.ifCond .ne 19, 3) := by decide +kernel
theorem dX8_obeys_154 : decode cX8_obeys 154 = .ok (.aload_n 0, 1) := by decide +kernel
theorem dX8_obeys_155 : decode cX8_obeys 155 = .ok (.getfield 16, 3) := by decide +kernel
theorem dX8_obeys_158 : decode cX8_obeys 158 = .ok (.iload_n 2, 1) := by decide +kernel
theorem dX8_obeys_159 : decode cX8_obeys 159 = .ok (.iload_n 3, 1) := by decide +kernel
theorem dX8_obeys_160 : decode cX8_obeys 160 = .ok (.invokevirtual 62, 3) := by decide +kernel
theorem dX8_obeys_163 : decode cX8_obeys 163 = .ok (.ifCond .lt 7, 3) := by decide +kernel
theorem dX8_obeys_166 : decode cX8_obeys 166 = .ok (.iconst 1, 1) := by decide +kernel
theorem dX8_obeys_167 : decode cX8_obeys 167 = .ok (.goto 4, 3) := by decide +kernel
theorem dX8_obeys_170 : decode cX8_obeys 170 = .ok (.iconst 0, 1) := by decide +kernel
theorem dX8_obeys_171 : decode cX8_obeys 171 = .ok (.ireturn, 1) := by decide +kernel
theorem dX8_obeys_172 : decode cX8_obeys 172 = .ok (.aload_n 0, 1) := by decide +kernel
theorem dX8_obeys_173 : decode cX8_obeys 173 = .ok (.getfield 16, 3) := by decide +kernel
theorem dX8_obeys_176 : decode cX8_obeys 176 = .ok (.iload_n 2, 1) := by decide +kernel
theorem dX8_obeys_177 : decode cX8_obeys 177 = .ok (.iload_n 3, 1) := by decide +kernel
theorem dX8_obeys_178 : decode cX8_obeys 178 = .ok (.iload 4, 2) := by decide +kernel
theorem dX8_obeys_180 : decode cX8_obeys 180 = .ok (.invokevirtual 119, 3) := by decide +kernel
theorem dX8_obeys_183 : decode cX8_obeys 183 = .ok (.ifCond .ne 21, 3) := by decide +kernel
theorem dX8_obeys_186 : decode cX8_obeys 186 = .ok (.aload_n 0, 1) := by decide +kernel
theorem dX8_obeys_187 : decode cX8_obeys 187 = .ok (.getfield 16, 3) := by decide +kernel
theorem dX8_obeys_190 : decode cX8_obeys 190 = .ok (.iload_n 2, 1) := by decide +kernel
theorem dX8_obeys_191 : decode cX8_obeys 191 = .ok (.iload_n 3, 1) := by decide +kernel
theorem dX8_obeys_192 : decode cX8_obeys 192 = .ok (.iload 4, 2) := by decide +kernel
theorem dX8_obeys_194 : decode cX8_obeys 194 = .ok (.invokevirtual 122, 3) := by decide +kernel
theorem dX8_obeys_197 : decode cX8_obeys 197 = .ok (.ifCond .lt 7, 3) := by decide +kernel
theorem dX8_obeys_200 : decode cX8_obeys 200 = .ok (.iconst 1, 1) := by decide +kernel
theorem dX8_obeys_201 : decode cX8_obeys 201 = .ok (.goto 4, 3) := by decide +kernel
theorem dX8_obeys_204 : decode cX8_obeys 204 = .ok (.iconst 0, 1) := by decide +kernel
theorem dX8_obeys_205 : decode cX8_obeys 205 = .ok (.ireturn, 1) := by decide +kernel
theorem dX8_obeys_206 : decode cX8_obeys 206 = .ok (.aload_n 0, 1) := by decide +kernel
theorem dX8_obeys_207 : decode cX8_obeys 207 = .ok (.getfield 16, 3) := by decide +kernel
theorem dX8_obeys_210 : decode cX8_obeys 210 = .ok (.iload_n 2, 1) := by decide +kernel
theorem dX8_obeys_211 : decode cX8_obeys 211 = .ok (.invokevirtual 125, 3) := by decide +kernel
theorem dX8_obeys_214 : decode cX8_obeys 214 = .ok (.ifCond .ne 18, 3) := by decide +kernel
theorem dX8_obeys_217 : decode cX8_obeys 217 = .ok (.aload_n 0, 1) := by decide +kernel
theorem dX8_obeys_218 : decode cX8_obeys 218 = .ok (.getfield 16, 3) := by decide +kernel
theorem dX8_obeys_221 : decode cX8_obeys 221 = .ok (.iload_n 2, 1) := by decide +kernel
theorem dX8_obeys_222 : decode cX8_obeys 222 = .ok (.invokevirtual 128, 3) := by decide +kernel
theorem dX8_obeys_225 : decode cX8_obeys 225 = .ok (.ifCond .lt 7, 3) := by decide +kernel
theorem dX8_obeys_228 : decode cX8_obeys 228 = .ok (.iconst 1, 1) := by decide +kernel
theorem dX8_obeys_229 : decode cX8_obeys 229 = .ok (.goto 4, 3) := by decide +kernel
theorem dX8_obeys_232 : decode cX8_obeys 232 = .ok (.iconst 0, 1) := by decide +kernel
theorem dX8_obeys_233 : decode cX8_obeys 233 = .ok (.ireturn, 1) := by decide +kernel
theorem dX8_obeys_234 : decode cX8_obeys 234 = .ok (.aload_n 0, 1) := by decide +kernel
theorem dX8_obeys_235 : decode cX8_obeys 235 = .ok (.getfield 36, 3) := by decide +kernel
theorem dX8_obeys_238 : decode cX8_obeys 238 = .ok (.aload_n 0, 1) := by decide +kernel
theorem dX8_obeys_239 : decode cX8_obeys 239 = .ok (.getfield 16, 3) := by decide +kernel
theorem dX8_obeys_242 : decode cX8_obeys 242 = .ok (.invokevirtual 156, 3) := by decide +kernel
theorem dX8_obeys_245 : decode cX8_obeys 245 = .ok (.ifCond .lt 7, 3) := by decide +kernel
theorem dX8_obeys_248 : decode cX8_obeys 248 = .ok (.iconst 1, 1) := by decide +kernel
theorem dX8_obeys_249 : decode cX8_obeys 249 = .ok (.goto 4, 3) := by decide +kernel
theorem dX8_obeys_252 : decode cX8_obeys 252 = .ok (.iconst 0, 1) := by decide +kernel
theorem dX8_obeys_253 : decode cX8_obeys 253 = .ok (.ireturn, 1) := by decide +kernel
theorem dX8_obeys_254 : decode cX8_obeys 254 = .ok (.iload 6, 2) := by decide +kernel
theorem dX8_obeys_256 : decode cX8_obeys 256 = .ok (.invokestatic 297, 3) := by decide +kernel
theorem dX8_obeys_259 : decode cX8_obeys 259 = .ok (.istore 7, 2) := by decide +kernel
theorem dX8_obeys_261 : decode cX8_obeys 261 = .ok (.aload_n 0, 1) := by decide +kernel
theorem dX8_obeys_262 : decode cX8_obeys 262 = .ok (.getfield 16, 3) := by decide +kernel
theorem dX8_obeys_265 : decode cX8_obeys 265 = .ok (.iload 7, 2) := by decide +kernel
theorem dX8_obeys_267 : decode cX8_obeys 267 = .ok (.iload_n 2, 1) := by decide +kernel
theorem dX8_obeys_268 : decode cX8_obeys 268 = .ok (.invokevirtual 65, 3) := by decide +kernel
theorem dX8_obeys_271 : decode cX8_obeys 271 = .ok (.ifCond .ne 20, 3) := by decide +kernel
theorem dX8_obeys_274 : decode cX8_obeys 274 = .ok (.aload_n 0, 1) := by decide +kernel
theorem dX8_obeys_275 : decode cX8_obeys 275 = .ok (.getfield 16, 3) := by decide +kernel
theorem dX8_obeys_278 : decode cX8_obeys 278 = .ok (.iload 7, 2) := by decide +kernel
theorem dX8_obeys_280 : decode cX8_obeys 280 = .ok (.iload_n 2, 1) := by decide +kernel
theorem dX8_obeys_281 : decode cX8_obeys 281 = .ok (.invokevirtual 68, 3) := by decide +kernel
theorem dX8_obeys_284 : decode cX8_obeys 284 = .ok (.ifCond .lt 7, 3) := by decide +kernel
theorem dX8_obeys_287 : decode cX8_obeys 287 = .ok (.iconst 1, 1) := by decide +kernel
theorem dX8_obeys_288 : decode cX8_obeys 288 = .ok (.goto 4, 3) := by decide +kernel
theorem dX8_obeys_291 : decode cX8_obeys 291 = .ok (.iconst 0, 1) := by decide +kernel
theorem dX8_obeys_292 : decode cX8_obeys 292 = .ok (.ireturn, 1) := by decide +kernel
theorem dX9_init_0 : decode cX9_init 0 = .ok (.aload_n 0, 1) := by decide +kernel
theorem dX9_init_1 : decode cX9_init 1 = .ok (.invokespecial 1, 3) := by decide +kernel
theorem dX9_init_4 : decode cX9_init 4 = .ok (.aload_n 0, 1) := by decide +kernel
theorem dX9_init_5 : decode cX9_init 5 = .ok (.sipush 155, 3) := by decide +kernel
theorem dX9_init_8 : decode cX9_init 8 = .ok (.newarray .int, 2) := by decide +kernel
theorem dX9_init_10 : decode cX9_init 10 = .ok (.putfield 7, 3) := by decide +kernel
theorem dX9_init_13 : decode cX9_init 13 = .ok (.aload_n 0, 1) := by decide +kernel
theorem dX9_init_14 : decode cX9_init 14 = .ok (.sipush 775, 3) := by decide +kernel
theorem dX9_init_17 : decode cX9_init 17 = .ok (.newarray .int, 2) := by decide +kernel
theorem dX9_init_19 : decode cX9_init 19 = .ok (.putfield 13, 3) := by decide +kernel
theorem dX9_init_22 : decode cX9_init 22 = .ok (.aload_n 0, 1) := by decide +kernel
theorem dX9_init_23 : decode cX9_init 23 = .ok (.sipush 155, 3) := by decide +kernel
theorem dX9_init_26 : decode cX9_init 26 = .ok (.newarray .int, 2) := by decide +kernel
theorem dX9_init_28 : decode cX9_init 28 = .ok (.putfield 16, 3) := by decide +kernel
theorem dX9_init_31 : decode cX9_init 31 = .ok (.aload_n 0, 1) := by decide +kernel
theorem dX9_init_32 : decode cX9_init 32 = .ok (.iconst 3, 1) := by decide +kernel
theorem dX9_init_33 : decode cX9_init 33 = .ok (.newarray .int, 2) := by decide +kernel
theorem dX9_init_35 : decode cX9_init 35 = .ok (.putfield 19, 3) := by decide +kernel
theorem dX9_init_38 : decode cX9_init 38 = .ok (.aload_n 0, 1) := by decide +kernel
theorem dX9_init_39 : decode cX9_init 39 = .ok (.bipush 8, 2) := by decide +kernel
theorem dX9_init_41 : decode cX9_init 41 = .ok (.newarray .int, 2) := by decide +kernel
theorem dX9_init_43 : decode cX9_init 43 = .ok (.putfield 22, 3) := by decide +kernel
theorem dX9_init_46 : decode cX9_init 46 = .ok (.aload_n 0, 1) := by decide +kernel
theorem dX9_init_47 : decode cX9_init 47 = .ok (.sipush 256, 3) := by decide +kernel
theorem dX9_init_50 : decode cX9_init 50 = .ok (.newarray .boolean, 2) := by decide +kernel
theorem dX9_init_52 : decode cX9_init 52 = .ok (.putfield 25, 3) := by decide +kernel
theorem dX9_init_55 : decode cX9_init 55 = .ok (.aload_n 0, 1) := by decide +kernel
theorem dX9_init_56 : decode cX9_init 56 = .ok (.sipush 256, 3) := by decide +kernel
theorem dX9_init_59 : decode cX9_init 59 = .ok (.newarray .int, 2) := by decide +kernel
theorem dX9_init_61 : decode cX9_init 61 = .ok (.putfield 29, 3) := by decide +kernel
theorem dX9_init_64 : decode cX9_init 64 = .ok (.aload_n 0, 1) := by decide +kernel
theorem dX9_init_65 : decode cX9_init 65 = .ok (.bipush 120, 2) := by decide +kernel
theorem dX9_init_67 : decode cX9_init 67 = .ok (.newarray .int, 2) := by decide +kernel
theorem dX9_init_69 : decode cX9_init 69 = .ok (.putfield 32, 3) := by decide +kernel
theorem dX9_init_72 : decode cX9_init 72 = .ok (.aload_n 0, 1) := by decide +kernel
theorem dX9_init_73 : decode cX9_init 73 = .ok (.iconst 4, 1) := by decide +kernel
theorem dX9_init_74 : decode cX9_init 74 = .ok (.newarray .int, 2) := by decide +kernel
theorem dX9_init_76 : decode cX9_init 76 = .ok (.putfield 35, 3) := by decide +kernel
theorem dX9_init_79 : decode cX9_init 79 = .ok (.aload_n 0, 1) := by decide +kernel
theorem dX9_init_80 : decode cX9_init 80 = .ok (.getfield 7, 3) := by decide +kernel
theorem dX9_init_83 : decode cX9_init 83 = .ok (.iconst 0, 1) := by decide +kernel
theorem dX9_init_84 : decode cX9_init 84 = .ok (.bipush 12, 2) := by decide +kernel
theorem dX9_init_86 : decode cX9_init 86 = .ok (.iastore, 1) := by decide +kernel
theorem dX9_init_87 : decode cX9_init 87 = .ok (.aload_n 0, 1) := by decide +kernel
end
section
theorem dX9_init_88 : decode cX9_init 88 = .ok (.getfield 7, 3) := by decide +kernel
theorem dX9_init_91 : decode cX9_init 91 = .ok (.iconst 1, 1) := by decide +kernel
theorem dX9_init_92 : decode cX9_init 92 = .ok (.bipush 12, 2) := by decide +kernel
theorem dX9_init_94 : decode cX9_init 94 = .ok (.iastore, 1) := by decide +kernel
theorem dX9_init_95 : decode cX9_init 95 = .ok (.aload_n 0, 1) := by decide +kernel
theorem dX9_init_96 : decode cX9_init 96 = .ok (.getfield 7, 3) := by decide +kernel
theorem dX9_init_99 : decode cX9_init 99 = .ok (.iconst 2, 1) := by decide +kernel
theorem dX9_init_100 : decode cX9_init 100 = .ok (.iconst 1, 1) := by decide +kernel
theorem dX9_init_101 : decode cX9_init 101 = .ok (.iastore, 1) := by decide +kernel
theorem dX9_init_102 : decode cX9_init 102 = .ok (.aload_n 0, 1) := by decide +kernel
theorem dX9_init_103 : decode cX9_init 103 = .ok (.getfield 7, 3) := by decide +kernel
theorem dX9_init_106 : decode cX9_init 106 = .ok (.iconst 4, 1) := by decide +kernel
theorem dX9_init_107 : decode cX9_init 107 = .ok (.bipush 40, 2) := by decide +kernel
theorem dX9_init_109 : decode cX9_init 109 = .ok (.iastore, 1) := by decide +kernel
theorem dX9_init_110 : decode cX9_init 110 = .ok (.aload_n 0, 1) := by decide +kernel
theorem dX9_init_111 : decode cX9_init 111 = .ok (.getfield 7, 3) := by decide +kernel
theorem dX9_init_114 : decode cX9_init 114 = .ok (.iconst 5, 1) := by decide +kernel
theorem dX9_init_115 : decode cX9_init 115 = .ok (.bipush 15, 2) := by decide +kernel
theorem dX9_init_117 : decode cX9_init 117 = .ok (.iastore, 1) := by decide +kernel
theorem dX9_init_118 : decode cX9_init 118 = .ok (.return_, 1) := by decide +kernel
theorem dX9_in_0 : decode cX9_in 0 = .ok (.lload_n 0, 1) := by decide +kernel
theorem dX9_in_1 : decode cX9_in 1 = .ok (.lload_n 2, 1) := by decide +kernel
theorem dX9_in_2 : decode cX9_in 2 = .ok (.lcmp, 1) := by decide +kernel
theorem dX9_in_3 : decode cX9_in 3 = .ok (.ifCond .lt 14, 3) := by decide +kernel
theorem dX9_in_6 : decode cX9_in 6 = .ok (.lload_n 0, 1) := by decide +kernel
theorem dX9_in_7 : decode cX9_in 7 = .ok (.lload 4, 2) := by decide +kernel
theorem dX9_in_9 : decode cX9_in 9 = .ok (.lcmp, 1) := by decide +kernel
theorem dX9_in_10 : decode cX9_in 10 = .ok (.ifCond .gt 7, 3) := by decide +kernel
theorem dX9_in_13 : decode cX9_in 13 = .ok (.iconst 1, 1) := by decide +kernel
theorem dX9_in_14 : decode cX9_in 14 = .ok (.goto 4, 3) := by decide +kernel
theorem dX9_in_17 : decode cX9_in 17 = .ok (.iconst 0, 1) := by decide +kernel
theorem dX9_in_18 : decode cX9_in 18 = .ok (.ireturn, 1) := by decide +kernel
theorem dX9_refuses_0 : decode cX9_refuses 0 = .ok (.aload_n 0, 1) := by decide +kernel
theorem dX9_refuses_1 : decode cX9_refuses 1 = .ok (.getfield 19, 3) := by decide +kernel
theorem dX9_refuses_4 : decode cX9_refuses 4 = .ok (.bipush (-2), 2) := by decide +kernel
theorem dX9_refuses_6 : decode cX9_refuses 6 = .ok (.iload_n 1, 1) := by decide +kernel
theorem dX9_refuses_7 : decode cX9_refuses 7 = .ok (.isub, 1) := by decide +kernel
theorem dX9_refuses_8 : decode cX9_refuses 8 = .ok (.dup2, 1) := by decide +kernel
theorem dX9_refuses_9 : decode cX9_refuses 9 = .ok (.iaload, 1) := by decide +kernel
theorem dX9_refuses_10 : decode cX9_refuses 10 = .ok (.iconst 1, 1) := by decide +kernel
theorem dX9_refuses_11 : decode cX9_refuses 11 = .ok (.iadd, 1) := by decide +kernel
theorem dX9_refuses_12 : decode cX9_refuses 12 = .ok (.iastore, 1) := by decide +kernel
theorem dX9_refuses_13 : decode cX9_refuses 13 = .ok (.iload_n 1, 1) := by decide +kernel
theorem dX9_refuses_14 : decode cX9_refuses 14 = .ok (.ireturn, 1) := by decide +kernel
theorem dX9_keep_0 : decode cX9_keep 0 = .ok (.aload_n 0, 1) := by decide +kernel
theorem dX9_keep_1 : decode cX9_keep 1 = .ok (.getfield 38, 3) := by decide +kernel
theorem dX9_keep_4 : decode cX9_keep 4 = .ok (.iconst 5, 1) := by decide +kernel
theorem dX9_keep_5 : decode cX9_keep 5 = .ok (.if_icmp .ne 44, 3) := by decide +kernel
theorem dX9_keep_8 : decode cX9_keep 8 = .ok (.iconst 0, 1) := by decide +kernel
theorem dX9_keep_9 : decode cX9_keep 9 = .ok (.istore_n 1, 1) := by decide +kernel
theorem dX9_keep_10 : decode cX9_keep 10 = .ok (.iload_n 1, 1) := by decide +kernel
theorem dX9_keep_11 : decode cX9_keep 11 = .ok (.sipush 620, 3) := by decide +kernel
theorem dX9_keep_14 : decode cX9_keep 14 = .ok (.if_icmp .ge 25, 3) := by decide +kernel
theorem dX9_keep_17 : decode cX9_keep 17 = .ok (.aload_n 0, 1) := by decide +kernel
theorem dX9_keep_18 : decode cX9_keep 18 = .ok (.getfield 13, 3) := by decide +kernel
theorem dX9_keep_21 : decode cX9_keep 21 = .ok (.iload_n 1, 1) := by decide +kernel
theorem dX9_keep_22 : decode cX9_keep 22 = .ok (.aload_n 0, 1) := by decide +kernel
theorem dX9_keep_23 : decode cX9_keep 23 = .ok (.getfield 13, 3) := by decide +kernel
theorem dX9_keep_26 : decode cX9_keep 26 = .ok (.iload_n 1, 1) := by decide +kernel
theorem dX9_keep_27 : decode cX9_keep 27 = .ok (.sipush 155, 3) := by decide +kernel
theorem dX9_keep_30 : decode cX9_keep 30 = .ok (.iadd, 1) := by decide +kernel
theorem dX9_keep_31 : decode cX9_keep 31 = .ok (.iaload, 1) := by decide +kernel
theorem dX9_keep_32 : decode cX9_keep 32 = .ok (.iastore, 1) := by decide +kernel
theorem dX9_keep_33 : decode cX9_keep 33 = .ok (.iinc 1 1, 3) := by decide +kernel
theorem dX9_keep_36 : decode cX9_keep 36 = .ok (.goto (-26), 3) := by decide +kernel
theorem dX9_keep_39 : decode cX9_keep 39 = .ok (.aload_n 0, 1) := by decide +kernel
theorem dX9_keep_40 : decode cX9_keep 40 = .ok (.dup, 1) := by decide +kernel
theorem dX9_keep_41 : decode cX9_keep 41 = .ok (.getfield 38, 3) := by decide +kernel
theorem dX9_keep_44 : decode cX9_keep 44 = .ok (.iconst 1, 1) := by decide +kernel
theorem dX9_keep_45 : decode cX9_keep 45 = .ok (.isub, 1) := by decide +kernel
theorem dX9_keep_46 : decode cX9_keep 46 = .ok (.putfield 38, 3) := by decide +kernel
theorem dX9_keep_49 : decode cX9_keep 49 = .ok (.iconst 0, 1) := by decide +kernel
theorem dX9_keep_50 : decode cX9_keep 50 = .ok (.istore_n 1, 1) := by decide +kernel
theorem dX9_keep_51 : decode cX9_keep 51 = .ok (.iload_n 1, 1) := by decide +kernel
theorem dX9_keep_52 : decode cX9_keep 52 = .ok (.sipush 155, 3) := by decide +kernel
theorem dX9_keep_55 : decode cX9_keep 55 = .ok (.if_icmp .ge 30, 3) := by decide +kernel
theorem dX9_keep_58 : decode cX9_keep 58 = .ok (.aload_n 0, 1) := by decide +kernel
theorem dX9_keep_59 : decode cX9_keep 59 = .ok (.getfield 13, 3) := by decide +kernel
theorem dX9_keep_62 : decode cX9_keep 62 = .ok (.sipush 155, 3) := by decide +kernel
theorem dX9_keep_65 : decode cX9_keep 65 = .ok (.aload_n 0, 1) := by decide +kernel
theorem dX9_keep_66 : decode cX9_keep 66 = .ok (.getfield 38, 3) := by decide +kernel
theorem dX9_keep_69 : decode cX9_keep 69 = .ok (.imul, 1) := by decide +kernel
theorem dX9_keep_70 : decode cX9_keep 70 = .ok (.iload_n 1, 1) := by decide +kernel
theorem dX9_keep_71 : decode cX9_keep 71 = .ok (.iadd, 1) := by decide +kernel
theorem dX9_keep_72 : decode cX9_keep 72 = .ok (.aload_n 0, 1) := by decide +kernel
theorem dX9_keep_73 : decode cX9_keep 73 = .ok (.getfield 7, 3) := by decide +kernel
theorem dX9_keep_76 : decode cX9_keep 76 = .ok (.iload_n 1, 1) := by decide +kernel
theorem dX9_keep_77 : decode cX9_keep 77 = .ok (.iaload, 1) := by decide +kernel
theorem dX9_keep_78 : decode cX9_keep 78 = .ok (.iastore, 1) := by decide +kernel
theorem dX9_keep_79 : decode cX9_keep 79 = .ok (.iinc 1 1, 3) := by decide +kernel
theorem dX9_keep_82 : decode cX9_keep 82 = .ok (.goto (-31), 3) := by decide +kernel
theorem dX9_keep_85 : decode cX9_keep 85 = .ok (.aload_n 0, 1) := by decide +kernel
theorem dX9_keep_86 : decode cX9_keep 86 = .ok (.dup, 1) := by decide +kernel
theorem dX9_keep_87 : decode cX9_keep 87 = .ok (.getfield 38, 3) := by decide +kernel
theorem dX9_keep_90 : decode cX9_keep 90 = .ok (.iconst 1, 1) := by decide +kernel
theorem dX9_keep_91 : decode cX9_keep 91 = .ok (.iadd, 1) := by decide +kernel
theorem dX9_keep_92 : decode cX9_keep 92 = .ok (.putfield 38, 3) := by decide +kernel
theorem dX9_keep_95 : decode cX9_keep 95 = .ok (.return_, 1) := by decide +kernel
theorem dX9_abs_0 : decode cX9_abs 0 = .ok (.iload_n 0, 1) := by decide +kernel
theorem dX9_abs_1 : decode cX9_abs 1 = .ok (.ifCond .ge 8, 3) := by decide +kernel
theorem dX9_abs_4 : decode cX9_abs 4 = .ok (.iload_n 0, 1) := by decide +kernel
theorem dX9_abs_5 : decode cX9_abs 5 = .ok (.ineg, 1) := by decide +kernel
theorem dX9_abs_6 : decode cX9_abs 6 = .ok (.goto 4, 3) := by decide +kernel
theorem dX9_abs_9 : decode cX9_abs 9 = .ok (.iload_n 0, 1) := by decide +kernel
theorem dX9_abs_10 : decode cX9_abs 10 = .ok (.ireturn, 1) := by decide +kernel
theorem dX9_many_0 : decode cX9_many 0 = .ok (.aload_n 0, 1) := by decide +kernel
theorem dX9_many_1 : decode cX9_many 1 = .ok (.getfield 7, 3) := by decide +kernel
theorem dX9_many_4 : decode cX9_many 4 = .ok (.bipush 7, 2) := by decide +kernel
theorem dX9_many_6 : decode cX9_many 6 = .ok (.iaload, 1) := by decide +kernel
theorem dX9_many_7 : decode cX9_many 7 = .ok (.ireturn, 1) := by decide +kernel
theorem dX9_isItem_0 : decode cX9_isItem 0 = .ok (.iload_n 1, 1) := by decide +kernel
theorem dX9_isItem_1 : decode cX9_isItem 1 = .ok (.i2l, 1) := by decide +kernel
theorem dX9_isItem_2 : decode cX9_isItem 2 = .ok (.lconst 0, 1) := by decide +kernel
theorem dX9_isItem_3 : decode cX9_isItem 3 = .ok (.aload_n 0, 1) := by decide +kernel
theorem dX9_isItem_4 : decode cX9_isItem 4 = .ok (.invokevirtual 42, 3) := by decide +kernel
theorem dX9_isItem_7 : decode cX9_isItem 7 = .ok (.iconst 1, 1) := by decide +kernel
theorem dX9_isItem_8 : decode cX9_isItem 8 = .ok (.isub, 1) := by decide +kernel
theorem dX9_isItem_9 : decode cX9_isItem 9 = .ok (.i2l, 1) := by decide +kernel
theorem dX9_isItem_10 : decode cX9_isItem 10 = .ok (.invokestatic 46, 3) := by decide +kernel
theorem dX9_isItem_13 : decode cX9_isItem 13 = .ok (.ireturn, 1) := by decide +kernel
theorem dX9_its_0 : decode cX9_its 0 = .ok (.aload_n 0, 1) := by decide +kernel
theorem dX9_its_1 : decode cX9_its 1 = .ok (.getfield 7, 3) := by decide +kernel
theorem dX9_its_4 : decode cX9_its 4 = .ok (.bipush 8, 2) := by decide +kernel
theorem dX9_its_6 : decode cX9_its 6 = .ok (.bipush 6, 2) := by decide +kernel
theorem dX9_its_8 : decode cX9_its 8 = .ok (.iload_n 1, 1) := by decide +kernel
theorem dX9_its_9 : decode cX9_its 9 = .ok (.imul, 1) := by decide +kernel
theorem dX9_its_10 : decode cX9_its 10 = .ok (.iadd, 1) := by decide +kernel
theorem dX9_its_11 : decode cX9_its 11 = .ok (.iload_n 2, 1) := by decide +kernel
theorem dX9_its_12 : decode cX9_its 12 = .ok (.iadd, 1) := by decide +kernel
theorem dX9_its_13 : decode cX9_its 13 = .ok (.iaload, 1) := by decide +kernel
theorem dX9_its_14 : decode cX9_its 14 = .ok (.ireturn, 1) := by decide +kernel
theorem dX9_puts_0 : decode cX9_puts 0 = .ok (.aload_n 0, 1) := by decide +kernel
theorem dX9_puts_1 : decode cX9_puts 1 = .ok (.getfield 7, 3) := by decide +kernel
theorem dX9_puts_4 : decode cX9_puts 4 = .ok (.bipush 8, 2) := by decide +kernel
theorem dX9_puts_6 : decode cX9_puts 6 = .ok (.bipush 6, 2) := by decide +kernel
theorem dX9_puts_8 : decode cX9_puts 8 = .ok (.iload_n 1, 1) := by decide +kernel
theorem dX9_puts_9 : decode cX9_puts 9 = .ok (.imul, 1) := by decide +kernel
theorem dX9_puts_10 : decode cX9_puts 10 = .ok (.iadd, 1) := by decide +kernel
theorem dX9_puts_11 : decode cX9_puts 11 = .ok (.iload_n 2, 1) := by decide +kernel
theorem dX9_puts_12 : decode cX9_puts 12 = .ok (.iadd, 1) := by decide +kernel
theorem dX9_puts_13 : decode cX9_puts 13 = .ok (.iload_n 3, 1) := by decide +kernel
theorem dX9_puts_14 : decode cX9_puts 14 = .ok (.iastore, 1) := by decide +kernel
theorem dX9_puts_15 : decode cX9_puts 15 = .ok (.return_, 1) := by decide +kernel
theorem dX9_lies_0 : decode cX9_lies 0 = .ok (.aload_n 0, 1) := by decide +kernel
theorem dX9_lies_1 : decode cX9_lies 1 = .ok (.iload_n 1, 1) := by decide +kernel
theorem dX9_lies_2 : decode cX9_lies 2 = .ok (.iconst 4, 1) := by decide +kernel
theorem dX9_lies_3 : decode cX9_lies 3 = .ok (.invokevirtual 50, 3) := by decide +kernel
theorem dX9_lies_6 : decode cX9_lies 6 = .ok (.iconst (-1), 1) := by decide +kernel
theorem dX9_lies_7 : decode cX9_lies 7 = .ok (.if_icmp .eq 7, 3) := by decide +kernel
theorem dX9_lies_10 : decode cX9_lies 10 = .ok (.iconst 1, 1) := by decide +kernel
theorem dX9_lies_11 : decode cX9_lies 11 = .ok (.goto 4, 3) := by decide +kernel
theorem dX9_lies_14 : decode cX9_lies 14 = .ok (.iconst 0, 1) := by decide +kernel
theorem dX9_lies_15 : decode cX9_lies 15 = .ok (.ireturn, 1) := by decide +kernel
theorem dX9_sideOf_0 : decode cX9_sideOf 0 = .ok (.aload_n 0, 1) := by decide +kernel
theorem dX9_sideOf_1 : decode cX9_sideOf 1 = .ok (.getfield 7, 3) := by decide +kernel
theorem dX9_sideOf_4 : decode cX9_sideOf 4 = .ok (.iconst 4, 1) := by decide +kernel
theorem dX9_sideOf_5 : decode cX9_sideOf 5 = .ok (.iaload, 1) := by decide +kernel
theorem dX9_sideOf_6 : decode cX9_sideOf 6 = .ok (.i2f, 1) := by decide +kernel
theorem dX9_sideOf_7 : decode cX9_sideOf 7 = .ok (.ldc 54, 2) := by decide +kernel
theorem dX9_sideOf_9 : decode cX9_sideOf 9 = .ok (.fdiv, 1) := by decide +kernel
theorem dX9_sideOf_10 : decode cX9_sideOf 10 = .ok (.fstore_n 2, 1) := by decide +kernel
theorem dX9_sideOf_11 : decode cX9_sideOf 11 = .ok (.aload_n 0, 1) := by decide +kernel
theorem dX9_sideOf_12 : decode cX9_sideOf 12 = .ok (.getfield 7, 3) := by decide +kernel
theorem dX9_sideOf_15 : decode cX9_sideOf 15 = .ok (.iconst 5, 1) := by decide +kernel
theorem dX9_sideOf_16 : decode cX9_sideOf 16 = .ok (.iaload, 1) := by decide +kernel
theorem dX9_sideOf_17 : decode cX9_sideOf 17 = .ok (.i2f, 1) := by decide +kernel
theorem dX9_sideOf_18 : decode cX9_sideOf 18 = .ok (.ldc 54, 2) := by decide +kernel
theorem dX9_sideOf_20 : decode cX9_sideOf 20 = .ok (.fdiv, 1) := by decide +kernel
theorem dX9_sideOf_21 : decode cX9_sideOf 21 = .ok (.fstore_n 3, 1) := by decide +kernel
theorem dX9_sideOf_22 : decode cX9_sideOf 22 = .ok (.iconst 1, 1) := by decide +kernel
theorem dX9_sideOf_23 : decode cX9_sideOf 23 = .ok (.istore 4, 2) := by decide +kernel
theorem dX9_sideOf_25 : decode cX9_sideOf 25 = .ok (.iload 4, 2) := by decide +kernel
theorem dX9_sideOf_27 : decode cX9_sideOf 27 = .ok (.iload_n 1, 1) := by decide +kernel
theorem dX9_sideOf_28 : decode cX9_sideOf 28 = .ok (.if_icmp .ge 13, 3) := by decide +kernel
theorem dX9_sideOf_31 : decode cX9_sideOf 31 = .ok (.fload_n 2, 1) := by decide +kernel
theorem dX9_sideOf_32 : decode cX9_sideOf 32 = .ok (.fload_n 3, 1) := by decide +kernel
theorem dX9_sideOf_33 : decode cX9_sideOf 33 = .ok (.fdiv, 1) := by decide +kernel
theorem dX9_sideOf_34 : decode cX9_sideOf 34 = .ok (.fstore_n 2, 1) := by decide +kernel
theorem dX9_sideOf_35 : decode cX9_sideOf 35 = .ok (.iinc 4 1, 3) := by decide +kernel
theorem dX9_sideOf_38 : decode cX9_sideOf 38 = .ok (.goto (-13), 3) := by decide +kernel
theorem dX9_sideOf_41 : decode cX9_sideOf 41 = .ok (.fload_n 2, 1) := by decide +kernel
theorem dX9_sideOf_42 : decode cX9_sideOf 42 = .ok (.freturn, 1) := by decide +kernel
theorem dX9_cut_0 : decode cX9_cut 0 = .ok (.fload_n 0, 1) := by decide +kernel
theorem dX9_cut_1 : decode cX9_cut 1 = .ok (.ldc 55, 2) := by decide +kernel
theorem dX9_cut_3 : decode cX9_cut 3 = .ok (.fadd, 1) := by decide +kernel
theorem dX9_cut_4 : decode cX9_cut 4 = .ok (.f2i, 1) := by decide +kernel
theorem dX9_cut_5 : decode cX9_cut 5 = .ok (.istore_n 1, 1) := by decide +kernel
theorem dX9_cut_6 : decode cX9_cut 6 = .ok (.iload_n 1, 1) := by decide +kernel
theorem dX9_cut_7 : decode cX9_cut 7 = .ok (.iconst 1, 1) := by decide +kernel
theorem dX9_cut_8 : decode cX9_cut 8 = .ok (.if_icmp .ge 7, 3) := by decide +kernel
theorem dX9_cut_11 : decode cX9_cut 11 = .ok (.iconst 1, 1) := by decide +kernel
theorem dX9_cut_12 : decode cX9_cut 12 = .ok (.goto 4, 3) := by decide +kernel
theorem dX9_cut_15 : decode cX9_cut 15 = .ok (.iload_n 1, 1) := by decide +kernel
theorem dX9_cut_16 : decode cX9_cut 16 = .ok (.ireturn, 1) := by decide +kernel
theorem dX9_high_0 : decode cX9_high 0 = .ok (.aload_n 0, 1) := by decide +kernel
theorem dX9_high_1 : decode cX9_high 1 = .ok (.aload_n 0, 1) := by decide +kernel
theorem dX9_high_2 : decode cX9_high 2 = .ok (.iload_n 1, 1) := by decide +kernel
theorem dX9_high_3 : decode cX9_high 3 = .ok (.iconst 1, 1) := by decide +kernel
theorem dX9_high_4 : decode cX9_high 4 = .ok (.invokevirtual 50, 3) := by decide +kernel
theorem dX9_high_7 : decode cX9_high 7 = .ok (.invokevirtual 56, 3) := by decide +kernel
theorem dX9_high_10 : decode cX9_high 10 = .ok (.invokestatic 60, 3) := by decide +kernel
theorem dX9_high_13 : decode cX9_high 13 = .ok (.ireturn, 1) := by decide +kernel
theorem dX9_wide_0 : decode cX9_wide 0 = .ok (.aload_n 0, 1) := by decide +kernel
theorem dX9_wide_1 : decode cX9_wide 1 = .ok (.aload_n 0, 1) := by decide +kernel
theorem dX9_wide_2 : decode cX9_wide 2 = .ok (.iload_n 1, 1) := by decide +kernel
theorem dX9_wide_3 : decode cX9_wide 3 = .ok (.iconst 1, 1) := by decide +kernel
theorem dX9_wide_4 : decode cX9_wide 4 = .ok (.invokevirtual 50, 3) := by decide +kernel
theorem dX9_wide_7 : decode cX9_wide 7 = .ok (.invokevirtual 56, 3) := by decide +kernel
theorem dX9_wide_10 : decode cX9_wide 10 = .ok (.aload_n 0, 1) := by decide +kernel
theorem dX9_wide_11 : decode cX9_wide 11 = .ok (.iload_n 1, 1) := by decide +kernel
theorem dX9_wide_12 : decode cX9_wide 12 = .ok (.iconst 2, 1) := by decide +kernel
theorem dX9_wide_13 : decode cX9_wide 13 = .ok (.invokevirtual 50, 3) := by decide +kernel
theorem dX9_wide_16 : decode cX9_wide 16 = .ok (.i2f, 1) := by decide +kernel
theorem dX9_wide_17 : decode cX9_wide 17 = .ok (.fmul, 1) := by decide +kernel
theorem dX9_wide_18 : decode cX9_wide 18 = .ok (.fstore_n 2, 1) := by decide +kernel
theorem dX9_wide_19 : decode cX9_wide 19 = .ok (.aload_n 0, 1) := by decide +kernel
theorem dX9_wide_20 : decode cX9_wide 20 = .ok (.iload_n 1, 1) := by decide +kernel
theorem dX9_wide_21 : decode cX9_wide 21 = .ok (.iconst 0, 1) := by decide +kernel
theorem dX9_wide_22 : decode cX9_wide 22 = .ok (.invokevirtual 50, 3) := by decide +kernel
theorem dX9_wide_25 : decode cX9_wide 25 = .ok (.iconst 1, 1) := by decide +kernel
theorem dX9_wide_26 : decode cX9_wide 26 = .ok (.if_icmp .ne 13, 3) := by decide +kernel
theorem dX9_wide_29 : decode cX9_wide 29 = .ok (.fload_n 2, 1) := by decide +kernel
theorem dX9_wide_30 : decode cX9_wide 30 = .ok (.aload_n 0, 1) := by decide +kernel
theorem dX9_wide_31 : decode cX9_wide 31 = .ok (.iload_n 1, 1) := by decide +kernel
theorem dX9_wide_32 : decode cX9_wide 32 = .ok (.iconst 3, 1) := by decide +kernel
theorem dX9_wide_33 : decode cX9_wide 33 = .ok (.invokevirtual 50, 3) := by decide +kernel
theorem dX9_wide_36 : decode cX9_wide 36 = .ok (.i2f, 1) := by decide +kernel
theorem dX9_wide_37 : decode cX9_wide 37 = .ok (.fdiv, 1) := by decide +kernel
theorem dX9_wide_38 : decode cX9_wide 38 = .ok (.fstore_n 2, 1) := by decide +kernel
theorem dX9_wide_39 : decode cX9_wide 39 = .ok (.fload_n 2, 1) := by decide +kernel
theorem dX9_wide_40 : decode cX9_wide 40 = .ok (.invokestatic 60, 3) := by decide +kernel
theorem dX9_wide_43 : decode cX9_wide 43 = .ok (.ireturn, 1) := by decide +kernel
theorem dX9_weight_0 : decode cX9_weight 0 = .ok (.aload_n 0, 1) := by decide +kernel
theorem dX9_weight_1 : decode cX9_weight 1 = .ok (.iload_n 1, 1) := by decide +kernel
theorem dX9_weight_2 : decode cX9_weight 2 = .ok (.invokevirtual 64, 3) := by decide +kernel
theorem dX9_weight_5 : decode cX9_weight 5 = .ok (.aload_n 0, 1) := by decide +kernel
theorem dX9_weight_6 : decode cX9_weight 6 = .ok (.iload_n 1, 1) := by decide +kernel
theorem dX9_weight_7 : decode cX9_weight 7 = .ok (.invokevirtual 68, 3) := by decide +kernel
theorem dX9_weight_10 : decode cX9_weight 10 = .ok (.imul, 1) := by decide +kernel
theorem dX9_weight_11 : decode cX9_weight 11 = .ok (.bipush 7, 2) := by decide +kernel
theorem dX9_weight_13 : decode cX9_weight 13 = .ok (.aload_n 0, 1) := by decide +kernel
theorem dX9_weight_14 : decode cX9_weight 14 = .ok (.iload_n 1, 1) := by decide +kernel
theorem dX9_weight_15 : decode cX9_weight 15 = .ok (.iconst 1, 1) := by decide +kernel
theorem dX9_weight_16 : decode cX9_weight 16 = .ok (.invokevirtual 50, 3) := by decide +kernel
theorem dX9_weight_19 : decode cX9_weight 19 = .ok (.isub, 1) := by decide +kernel
theorem dX9_weight_20 : decode cX9_weight 20 = .ok (.imul, 1) := by decide +kernel
theorem dX9_weight_21 : decode cX9_weight 21 = .ok (.ireturn, 1) := by decide +kernel
theorem dX9_lineAt_0 : decode cX9_lineAt 0 = .ok (.iload_n 1, 1) := by decide +kernel
theorem dX9_lineAt_1 : decode cX9_lineAt 1 = .ok (.aload_n 0, 1) := by decide +kernel
theorem dX9_lineAt_2 : decode cX9_lineAt 2 = .ok (.getfield 7, 3) := by decide +kernel
theorem dX9_lineAt_5 : decode cX9_lineAt 5 = .ok (.iconst 0, 1) := by decide +kernel
theorem dX9_lineAt_6 : decode cX9_lineAt 6 = .ok (.iaload, 1) := by decide +kernel
theorem dX9_lineAt_7 : decode cX9_lineAt 7 = .ok (.iconst 2, 1) := by decide +kernel
theorem dX9_lineAt_8 : decode cX9_lineAt 8 = .ok (.aload_n 0, 1) := by decide +kernel
theorem dX9_lineAt_9 : decode cX9_lineAt 9 = .ok (.getfield 7, 3) := by decide +kernel
theorem dX9_lineAt_12 : decode cX9_lineAt 12 = .ok (.iconst 2, 1) := by decide +kernel
theorem dX9_lineAt_13 : decode cX9_lineAt 13 = .ok (.iaload, 1) := by decide +kernel
theorem dX9_lineAt_14 : decode cX9_lineAt 14 = .ok (.imul, 1) := by decide +kernel
theorem dX9_lineAt_15 : decode cX9_lineAt 15 = .ok (.isub, 1) := by decide +kernel
theorem dX9_lineAt_16 : decode cX9_lineAt 16 = .ok (.imul, 1) := by decide +kernel
theorem dX9_lineAt_17 : decode cX9_lineAt 17 = .ok (.i2f, 1) := by decide +kernel
theorem dX9_lineAt_18 : decode cX9_lineAt 18 = .ok (.aload_n 0, 1) := by decide +kernel
theorem dX9_lineAt_19 : decode cX9_lineAt 19 = .ok (.getfield 7, 3) := by decide +kernel
theorem dX9_lineAt_22 : decode cX9_lineAt 22 = .ok (.bipush 6, 2) := by decide +kernel
theorem dX9_lineAt_24 : decode cX9_lineAt 24 = .ok (.iaload, 1) := by decide +kernel
theorem dX9_lineAt_25 : decode cX9_lineAt 25 = .ok (.i2f, 1) := by decide +kernel
theorem dX9_lineAt_26 : decode cX9_lineAt 26 = .ok (.fdiv, 1) := by decide +kernel
theorem dX9_lineAt_27 : decode cX9_lineAt 27 = .ok (.fstore_n 2, 1) := by decide +kernel
theorem dX9_lineAt_28 : decode cX9_lineAt 28 = .ok (.aload_n 0, 1) := by decide +kernel
theorem dX9_lineAt_29 : decode cX9_lineAt 29 = .ok (.getfield 7, 3) := by decide +kernel
theorem dX9_lineAt_32 : decode cX9_lineAt 32 = .ok (.iconst 2, 1) := by decide +kernel
theorem dX9_lineAt_33 : decode cX9_lineAt 33 = .ok (.iaload, 1) := by decide +kernel
theorem dX9_lineAt_34 : decode cX9_lineAt 34 = .ok (.fload_n 2, 1) := by decide +kernel
theorem dX9_lineAt_35 : decode cX9_lineAt 35 = .ok (.f2i, 1) := by decide +kernel
theorem dX9_lineAt_36 : decode cX9_lineAt 36 = .ok (.iadd, 1) := by decide +kernel
theorem dX9_lineAt_37 : decode cX9_lineAt 37 = .ok (.ireturn, 1) := by decide +kernel
theorem dX9_isLine_0 : decode cX9_isLine 0 = .ok (.aload_n 0, 1) := by decide +kernel
theorem dX9_isLine_1 : decode cX9_isLine 1 = .ok (.getfield 7, 3) := by decide +kernel
theorem dX9_isLine_4 : decode cX9_isLine 4 = .ok (.bipush 6, 2) := by decide +kernel
theorem dX9_isLine_6 : decode cX9_isLine 6 = .ok (.iaload, 1) := by decide +kernel
theorem dX9_isLine_7 : decode cX9_isLine 7 = .ok (.ifCond .ne 7, 3) := by decide +kernel
theorem dX9_isLine_10 : decode cX9_isLine 10 = .ok (.iconst 1, 1) := by decide +kernel
theorem dX9_isLine_11 : decode cX9_isLine 11 = .ok (.goto 4, 3) := by decide +kernel
theorem dX9_isLine_14 : decode cX9_isLine 14 = .ok (.iconst 0, 1) := by decide +kernel
theorem dX9_isLine_15 : decode cX9_isLine 15 = .ok (.istore_n 2, 1) := by decide +kernel
theorem dX9_isLine_16 : decode cX9_isLine 16 = .ok (.iconst 0, 1) := by decide +kernel
theorem dX9_isLine_17 : decode cX9_isLine 17 = .ok (.istore_n 3, 1) := by decide +kernel
theorem dX9_isLine_18 : decode cX9_isLine 18 = .ok (.iload_n 3, 1) := by decide +kernel
theorem dX9_isLine_19 : decode cX9_isLine 19 = .ok (.aload_n 0, 1) := by decide +kernel
theorem dX9_isLine_20 : decode cX9_isLine 20 = .ok (.getfield 7, 3) := by decide +kernel
theorem dX9_isLine_23 : decode cX9_isLine 23 = .ok (.bipush 6, 2) := by decide +kernel
theorem dX9_isLine_25 : decode cX9_isLine 25 = .ok (.iaload, 1) := by decide +kernel
theorem dX9_isLine_26 : decode cX9_isLine 26 = .ok (.if_icmp .ge 28, 3) := by decide +kernel
theorem dX9_isLine_29 : decode cX9_isLine 29 = .ok (.iload_n 2, 1) := by decide +kernel
theorem dX9_isLine_30 : decode cX9_isLine 30 = .ok (.ifCond .ne 12, 3) := by decide +kernel
theorem dX9_isLine_33 : decode cX9_isLine 33 = .ok (.aload_n 0, 1) := by decide +kernel
theorem dX9_isLine_34 : decode cX9_isLine 34 = .ok (.iload_n 3, 1) := by decide +kernel
theorem dX9_isLine_35 : decode cX9_isLine 35 = .ok (.invokevirtual 71, 3) := by decide +kernel
theorem dX9_isLine_38 : decode cX9_isLine 38 = .ok (.iload_n 1, 1) := by decide +kernel
theorem dX9_isLine_39 : decode cX9_isLine 39 = .ok (.if_icmp .ne 7, 3) := by decide +kernel
theorem dX9_isLine_42 : decode cX9_isLine 42 = .ok (.iconst 1, 1) := by decide +kernel
theorem dX9_isLine_43 : decode cX9_isLine 43 = .ok (.goto 4, 3) := by decide +kernel
theorem dX9_isLine_46 : decode cX9_isLine 46 = .ok (.iconst 0, 1) := by decide +kernel
theorem dX9_isLine_47 : decode cX9_isLine 47 = .ok (.istore_n 2, 1) := by decide +kernel
theorem dX9_isLine_48 : decode cX9_isLine 48 = .ok (.iinc 3 1, 3) := by decide +kernel
theorem dX9_isLine_51 : decode cX9_isLine 51 = .ok (.goto (-33), 3) := by decide +kernel
theorem dX9_isLine_54 : decode cX9_isLine 54 = .ok (.iload_n 2, 1) := by decide +kernel
theorem dX9_isLine_55 : decode cX9_isLine 55 = .ok (.ireturn, 1) := by decide +kernel
theorem dX9_isWithin_0 : decode cX9_isWithin 0 = .ok (.aload_n 0, 1) := by decide +kernel
theorem dX9_isWithin_1 : decode cX9_isWithin 1 = .ok (.getfield 7, 3) := by decide +kernel
theorem dX9_isWithin_4 : decode cX9_isWithin 4 = .ok (.iconst 2, 1) := by decide +kernel
theorem dX9_isWithin_5 : decode cX9_isWithin 5 = .ok (.iaload, 1) := by decide +kernel
theorem dX9_isWithin_6 : decode cX9_isWithin 6 = .ok (.istore 4, 2) := by decide +kernel
theorem dX9_isWithin_8 : decode cX9_isWithin 8 = .ok (.iload_n 2, 1) := by decide +kernel
theorem dX9_isWithin_9 : decode cX9_isWithin 9 = .ok (.iload 4, 2) := by decide +kernel
theorem dX9_isWithin_11 : decode cX9_isWithin 11 = .ok (.if_icmp .lt 59, 3) := by decide +kernel
theorem dX9_isWithin_14 : decode cX9_isWithin 14 = .ok (.iload_n 3, 1) := by decide +kernel
theorem dX9_isWithin_15 : decode cX9_isWithin 15 = .ok (.iload 4, 2) := by decide +kernel
theorem dX9_isWithin_17 : decode cX9_isWithin 17 = .ok (.if_icmp .lt 53, 3) := by decide +kernel
theorem dX9_isWithin_20 : decode cX9_isWithin 20 = .ok (.iload_n 2, 1) := by decide +kernel
theorem dX9_isWithin_21 : decode cX9_isWithin 21 = .ok (.aload_n 0, 1) := by decide +kernel
theorem dX9_isWithin_22 : decode cX9_isWithin 22 = .ok (.iload_n 1, 1) := by decide +kernel
theorem dX9_isWithin_23 : decode cX9_isWithin 23 = .ok (.invokevirtual 64, 3) := by decide +kernel
theorem dX9_isWithin_26 : decode cX9_isWithin 26 = .ok (.iadd, 1) := by decide +kernel
theorem dX9_isWithin_27 : decode cX9_isWithin 27 = .ok (.aload_n 0, 1) := by decide +kernel
theorem dX9_isWithin_28 : decode cX9_isWithin 28 = .ok (.getfield 7, 3) := by decide +kernel
theorem dX9_isWithin_31 : decode cX9_isWithin 31 = .ok (.iconst 0, 1) := by decide +kernel
theorem dX9_isWithin_32 : decode cX9_isWithin 32 = .ok (.iaload, 1) := by decide +kernel
theorem dX9_isWithin_33 : decode cX9_isWithin 33 = .ok (.iload 4, 2) := by decide +kernel
theorem dX9_isWithin_35 : decode cX9_isWithin 35 = .ok (.isub, 1) := by decide +kernel
theorem dX9_isWithin_36 : decode cX9_isWithin 36 = .ok (.if_icmp .gt 34, 3) := by decide +kernel
theorem dX9_isWithin_39 : decode cX9_isWithin 39 = .ok (.iload_n 3, 1) := by decide +kernel
theorem dX9_isWithin_40 : decode cX9_isWithin 40 = .ok (.aload_n 0, 1) := by decide +kernel
theorem dX9_isWithin_41 : decode cX9_isWithin 41 = .ok (.iload_n 1, 1) := by decide +kernel
theorem dX9_isWithin_42 : decode cX9_isWithin 42 = .ok (.invokevirtual 68, 3) := by decide +kernel
theorem dX9_isWithin_45 : decode cX9_isWithin 45 = .ok (.iadd, 1) := by decide +kernel
theorem dX9_isWithin_46 : decode cX9_isWithin 46 = .ok (.aload_n 0, 1) := by decide +kernel
theorem dX9_isWithin_47 : decode cX9_isWithin 47 = .ok (.getfield 7, 3) := by decide +kernel
theorem dX9_isWithin_50 : decode cX9_isWithin 50 = .ok (.iconst 1, 1) := by decide +kernel
theorem dX9_isWithin_51 : decode cX9_isWithin 51 = .ok (.iaload, 1) := by decide +kernel
theorem dX9_isWithin_52 : decode cX9_isWithin 52 = .ok (.iload 4, 2) := by decide +kernel
theorem dX9_isWithin_54 : decode cX9_isWithin 54 = .ok (.isub, 1) := by decide +kernel
theorem dX9_isWithin_55 : decode cX9_isWithin 55 = .ok (.if_icmp .gt 15, 3) := by decide +kernel
theorem dX9_isWithin_58 : decode cX9_isWithin 58 = .ok (.aload_n 0, 1) := by decide +kernel
theorem dX9_isWithin_59 : decode cX9_isWithin 59 = .ok (.iload_n 2, 1) := by decide +kernel
theorem dX9_isWithin_60 : decode cX9_isWithin 60 = .ok (.invokevirtual 74, 3) := by decide +kernel
theorem dX9_isWithin_63 : decode cX9_isWithin 63 = .ok (.ifCond .eq 7, 3) := by decide +kernel
theorem dX9_isWithin_66 : decode cX9_isWithin 66 = .ok (.iconst 1, 1) := by decide +kernel
theorem dX9_isWithin_67 : decode cX9_isWithin 67 = .ok (.goto 4, 3) := by decide +kernel
theorem dX9_isWithin_70 : decode cX9_isWithin 70 = .ok (.iconst 0, 1) := by decide +kernel
theorem dX9_isWithin_71 : decode cX9_isWithin 71 = .ok (.ireturn, 1) := by decide +kernel
theorem dX9_isApart_0 : decode cX9_isApart 0 = .ok (.aload_n 0, 1) := by decide +kernel
theorem dX9_isApart_1 : decode cX9_isApart 1 = .ok (.getfield 7, 3) := by decide +kernel
theorem dX9_isApart_4 : decode cX9_isApart 4 = .ok (.iconst 3, 1) := by decide +kernel
theorem dX9_isApart_5 : decode cX9_isApart 5 = .ok (.iaload, 1) := by decide +kernel
theorem dX9_isApart_6 : decode cX9_isApart 6 = .ok (.istore 5, 2) := by decide +kernel
theorem dX9_isApart_8 : decode cX9_isApart 8 = .ok (.aload_n 0, 1) := by decide +kernel
theorem dX9_isApart_9 : decode cX9_isApart 9 = .ok (.iload 4, 2) := by decide +kernel
theorem dX9_isApart_11 : decode cX9_isApart 11 = .ok (.iconst 4, 1) := by decide +kernel
theorem dX9_isApart_12 : decode cX9_isApart 12 = .ok (.invokevirtual 50, 3) := by decide +kernel
theorem dX9_isApart_15 : decode cX9_isApart 15 = .ok (.istore 6, 2) := by decide +kernel
theorem dX9_isApart_17 : decode cX9_isApart 17 = .ok (.aload_n 0, 1) := by decide +kernel
theorem dX9_isApart_18 : decode cX9_isApart 18 = .ok (.iload 4, 2) := by decide +kernel
theorem dX9_isApart_20 : decode cX9_isApart 20 = .ok (.iconst 5, 1) := by decide +kernel
theorem dX9_isApart_21 : decode cX9_isApart 21 = .ok (.invokevirtual 50, 3) := by decide +kernel
theorem dX9_isApart_24 : decode cX9_isApart 24 = .ok (.istore 7, 2) := by decide +kernel
theorem dX9_isApart_26 : decode cX9_isApart 26 = .ok (.iload_n 2, 1) := by decide +kernel
theorem dX9_isApart_27 : decode cX9_isApart 27 = .ok (.aload_n 0, 1) := by decide +kernel
theorem dX9_isApart_28 : decode cX9_isApart 28 = .ok (.iload_n 1, 1) := by decide +kernel
theorem dX9_isApart_29 : decode cX9_isApart 29 = .ok (.invokevirtual 64, 3) := by decide +kernel
theorem dX9_isApart_32 : decode cX9_isApart 32 = .ok (.iadd, 1) := by decide +kernel
theorem dX9_isApart_33 : decode cX9_isApart 33 = .ok (.iload 5, 2) := by decide +kernel
theorem dX9_isApart_35 : decode cX9_isApart 35 = .ok (.iadd, 1) := by decide +kernel
theorem dX9_isApart_36 : decode cX9_isApart 36 = .ok (.iload 6, 2) := by decide +kernel
theorem dX9_isApart_38 : decode cX9_isApart 38 = .ok (.if_icmp .le 50, 3) := by decide +kernel
theorem dX9_isApart_41 : decode cX9_isApart 41 = .ok (.iload 6, 2) := by decide +kernel
theorem dX9_isApart_43 : decode cX9_isApart 43 = .ok (.aload_n 0, 1) := by decide +kernel
theorem dX9_isApart_44 : decode cX9_isApart 44 = .ok (.iload 4, 2) := by decide +kernel
theorem dX9_isApart_46 : decode cX9_isApart 46 = .ok (.invokevirtual 64, 3) := by decide +kernel
theorem dX9_isApart_49 : decode cX9_isApart 49 = .ok (.iadd, 1) := by decide +kernel
theorem dX9_isApart_50 : decode cX9_isApart 50 = .ok (.iload 5, 2) := by decide +kernel
theorem dX9_isApart_52 : decode cX9_isApart 52 = .ok (.iadd, 1) := by decide +kernel
theorem dX9_isApart_53 : decode cX9_isApart 53 = .ok (.iload_n 2, 1) := by decide +kernel
theorem dX9_isApart_54 : decode cX9_isApart 54 = .ok (.if_icmp .le 34, 3) := by decide +kernel
theorem dX9_isApart_57 : decode cX9_isApart 57 = .ok (.iload_n 3, 1) := by decide +kernel
theorem dX9_isApart_58 : decode cX9_isApart 58 = .ok (.aload_n 0, 1) := by decide +kernel
theorem dX9_isApart_59 : decode cX9_isApart 59 = .ok (.iload_n 1, 1) := by decide +kernel
theorem dX9_isApart_60 : decode cX9_isApart 60 = .ok (.invokevirtual 68, 3) := by decide +kernel
theorem dX9_isApart_63 : decode cX9_isApart 63 = .ok (.iadd, 1) := by decide +kernel
theorem dX9_isApart_64 : decode cX9_isApart 64 = .ok (.iload 5, 2) := by decide +kernel
theorem dX9_isApart_66 : decode cX9_isApart 66 = .ok (.iadd, 1) := by decide +kernel
theorem dX9_isApart_67 : decode cX9_isApart 67 = .ok (.iload 7, 2) := by decide +kernel
theorem dX9_isApart_69 : decode cX9_isApart 69 = .ok (.if_icmp .le 19, 3) := by decide +kernel
theorem dX9_isApart_72 : decode cX9_isApart 72 = .ok (.iload 7, 2) := by decide +kernel
theorem dX9_isApart_74 : decode cX9_isApart 74 = .ok (.aload_n 0, 1) := by decide +kernel
theorem dX9_isApart_75 : decode cX9_isApart 75 = .ok (.iload 4, 2) := by decide +kernel
theorem dX9_isApart_77 : decode cX9_isApart 77 = .ok (.invokevirtual 68, 3) := by decide +kernel
theorem dX9_isApart_80 : decode cX9_isApart 80 = .ok (.iadd, 1) := by decide +kernel
theorem dX9_isApart_81 : decode cX9_isApart 81 = .ok (.iload 5, 2) := by decide +kernel
theorem dX9_isApart_83 : decode cX9_isApart 83 = .ok (.iadd, 1) := by decide +kernel
theorem dX9_isApart_84 : decode cX9_isApart 84 = .ok (.iload_n 3, 1) := by decide +kernel
theorem dX9_isApart_85 : decode cX9_isApart 85 = .ok (.if_icmp .gt 7, 3) := by decide +kernel
theorem dX9_isApart_88 : decode cX9_isApart 88 = .ok (.iconst 1, 1) := by decide +kernel
theorem dX9_isApart_89 : decode cX9_isApart 89 = .ok (.goto 4, 3) := by decide +kernel
theorem dX9_isApart_92 : decode cX9_isApart 92 = .ok (.iconst 0, 1) := by decide +kernel
theorem dX9_isApart_93 : decode cX9_isApart 93 = .ok (.ireturn, 1) := by decide +kernel
theorem dX9_isFit_0 : decode cX9_isFit 0 = .ok (.aload_n 0, 1) := by decide +kernel
theorem dX9_isFit_1 : decode cX9_isFit 1 = .ok (.iload_n 1, 1) := by decide +kernel
theorem dX9_isFit_2 : decode cX9_isFit 2 = .ok (.iload_n 2, 1) := by decide +kernel
theorem dX9_isFit_3 : decode cX9_isFit 3 = .ok (.iload_n 3, 1) := by decide +kernel
theorem dX9_isFit_4 : decode cX9_isFit 4 = .ok (.invokevirtual 78, 3) := by decide +kernel
theorem dX9_isFit_7 : decode cX9_isFit 7 = .ok (.istore 4, 2) := by decide +kernel
theorem dX9_isFit_9 : decode cX9_isFit 9 = .ok (.iconst 0, 1) := by decide +kernel
theorem dX9_isFit_10 : decode cX9_isFit 10 = .ok (.istore 5, 2) := by decide +kernel
theorem dX9_isFit_12 : decode cX9_isFit 12 = .ok (.iload 5, 2) := by decide +kernel
theorem dX9_isFit_14 : decode cX9_isFit 14 = .ok (.aload_n 0, 1) := by decide +kernel
theorem dX9_isFit_15 : decode cX9_isFit 15 = .ok (.invokevirtual 42, 3) := by decide +kernel
theorem dX9_isFit_18 : decode cX9_isFit 18 = .ok (.if_icmp .ge 48, 3) := by decide +kernel
theorem dX9_isFit_21 : decode cX9_isFit 21 = .ok (.iload 4, 2) := by decide +kernel
theorem dX9_isFit_23 : decode cX9_isFit 23 = .ok (.ifCond .eq 43, 3) := by decide +kernel
theorem dX9_isFit_26 : decode cX9_isFit 26 = .ok (.iload 5, 2) := by decide +kernel
theorem dX9_isFit_28 : decode cX9_isFit 28 = .ok (.iload_n 1, 1) := by decide +kernel
theorem dX9_isFit_29 : decode cX9_isFit 29 = .ok (.if_icmp .eq 24, 3) := by decide +kernel
theorem dX9_isFit_32 : decode cX9_isFit 32 = .ok (.aload_n 0, 1) := by decide +kernel
theorem dX9_isFit_33 : decode cX9_isFit 33 = .ok (.iload 5, 2) := by decide +kernel
theorem dX9_isFit_35 : decode cX9_isFit 35 = .ok (.invokevirtual 82, 3) := by decide +kernel
theorem dX9_isFit_38 : decode cX9_isFit 38 = .ok (.ifCond .eq 15, 3) := by decide +kernel
theorem dX9_isFit_41 : decode cX9_isFit 41 = .ok (.aload_n 0, 1) := by decide +kernel
theorem dX9_isFit_42 : decode cX9_isFit 42 = .ok (.iload_n 1, 1) := by decide +kernel
theorem dX9_isFit_43 : decode cX9_isFit 43 = .ok (.iload_n 2, 1) := by decide +kernel
theorem dX9_isFit_44 : decode cX9_isFit 44 = .ok (.iload_n 3, 1) := by decide +kernel
theorem dX9_isFit_45 : decode cX9_isFit 45 = .ok (.iload 5, 2) := by decide +kernel
theorem dX9_isFit_47 : decode cX9_isFit 47 = .ok (.invokevirtual 85, 3) := by decide +kernel
theorem dX9_isFit_50 : decode cX9_isFit 50 = .ok (.ifCond .eq 7, 3) := by decide +kernel
theorem dX9_isFit_53 : decode cX9_isFit 53 = .ok (.iconst 1, 1) := by decide +kernel
theorem dX9_isFit_54 : decode cX9_isFit 54 = .ok (.goto 4, 3) := by decide +kernel
theorem dX9_isFit_57 : decode cX9_isFit 57 = .ok (.iconst 0, 1) := by decide +kernel
theorem dX9_isFit_58 : decode cX9_isFit 58 = .ok (.istore 4, 2) := by decide +kernel
theorem dX9_isFit_60 : decode cX9_isFit 60 = .ok (.iinc 5 1, 3) := by decide +kernel
theorem dX9_isFit_63 : decode cX9_isFit 63 = .ok (.goto (-51), 3) := by decide +kernel
theorem dX9_isFit_66 : decode cX9_isFit 66 = .ok (.iload 4, 2) := by decide +kernel
theorem dX9_isFit_68 : decode cX9_isFit 68 = .ok (.ireturn, 1) := by decide +kernel
theorem dX9_isFitThere_0 : decode cX9_isFitThere 0 = .ok (.aload_n 0, 1) := by decide +kernel
theorem dX9_isFitThere_1 : decode cX9_isFitThere 1 = .ok (.iload_n 1, 1) := by decide +kernel
theorem dX9_isFitThere_2 : decode cX9_isFitThere 2 = .ok (.invokevirtual 82, 3) := by decide +kernel
theorem dX9_isFitThere_5 : decode cX9_isFitThere 5 = .ok (.ifCond .eq 27, 3) := by decide +kernel
theorem dX9_isFitThere_8 : decode cX9_isFitThere 8 = .ok (.aload_n 0, 1) := by decide +kernel
theorem dX9_isFitThere_9 : decode cX9_isFitThere 9 = .ok (.iload_n 1, 1) := by decide +kernel
theorem dX9_isFitThere_10 : decode cX9_isFitThere 10 = .ok (.aload_n 0, 1) := by decide +kernel
theorem dX9_isFitThere_11 : decode cX9_isFitThere 11 = .ok (.iload_n 1, 1) := by decide +kernel
theorem dX9_isFitThere_12 : decode cX9_isFitThere 12 = .ok (.iconst 4, 1) := by decide +kernel
theorem dX9_isFitThere_13 : decode cX9_isFitThere 13 = .ok (.invokevirtual 50, 3) := by decide +kernel
theorem dX9_isFitThere_16 : decode cX9_isFitThere 16 = .ok (.aload_n 0, 1) := by decide +kernel
theorem dX9_isFitThere_17 : decode cX9_isFitThere 17 = .ok (.iload_n 1, 1) := by decide +kernel
theorem dX9_isFitThere_18 : decode cX9_isFitThere 18 = .ok (.iconst 5, 1) := by decide +kernel
theorem dX9_isFitThere_19 : decode cX9_isFitThere 19 = .ok (.invokevirtual 50, 3) := by decide +kernel
theorem dX9_isFitThere_22 : decode cX9_isFitThere 22 = .ok (.invokevirtual 89, 3) := by decide +kernel
theorem dX9_isFitThere_25 : decode cX9_isFitThere 25 = .ok (.ifCond .eq 7, 3) := by decide +kernel
theorem dX9_isFitThere_28 : decode cX9_isFitThere 28 = .ok (.iconst 1, 1) := by decide +kernel
theorem dX9_isFitThere_29 : decode cX9_isFitThere 29 = .ok (.goto 4, 3) := by decide +kernel
theorem dX9_isFitThere_32 : decode cX9_isFitThere 32 = .ok (.iconst 0, 1) := by decide +kernel
theorem dX9_isFitThere_33 : decode cX9_isFitThere 33 = .ok (.ireturn, 1) := by decide +kernel
theorem dX9_isPlace_0 : decode cX9_isPlace 0 = .ok (.iload_n 0, 1) := by decide +kernel
theorem dX9_isPlace_1 : decode cX9_isPlace 1 = .ok (.i2l, 1) := by decide +kernel
theorem dX9_isPlace_2 : decode cX9_isPlace 2 = .ok (.lconst 0, 1) := by decide +kernel
theorem dX9_isPlace_3 : decode cX9_isPlace 3 = .ok (.ldc2_w 92, 3) := by decide +kernel
theorem dX9_isPlace_6 : decode cX9_isPlace 6 = .ok (.invokestatic 46, 3) := by decide +kernel
theorem dX9_isPlace_9 : decode cX9_isPlace 9 = .ok (.ifCond .eq 19, 3) := by decide +kernel
theorem dX9_isPlace_12 : decode cX9_isPlace 12 = .ok (.iload_n 1, 1) := by decide +kernel
theorem dX9_isPlace_13 : decode cX9_isPlace 13 = .ok (.i2l, 1) := by decide +kernel
theorem dX9_isPlace_14 : decode cX9_isPlace 14 = .ok (.lconst 0, 1) := by decide +kernel
theorem dX9_isPlace_15 : decode cX9_isPlace 15 = .ok (.ldc2_w 92, 3) := by decide +kernel
theorem dX9_isPlace_18 : decode cX9_isPlace 18 = .ok (.invokestatic 46, 3) := by decide +kernel
theorem dX9_isPlace_21 : decode cX9_isPlace 21 = .ok (.ifCond .eq 7, 3) := by decide +kernel
theorem dX9_isPlace_24 : decode cX9_isPlace 24 = .ok (.iconst 1, 1) := by decide +kernel
theorem dX9_isPlace_25 : decode cX9_isPlace 25 = .ok (.goto 4, 3) := by decide +kernel
theorem dX9_isPlace_28 : decode cX9_isPlace 28 = .ok (.iconst 0, 1) := by decide +kernel
theorem dX9_isPlace_29 : decode cX9_isPlace 29 = .ok (.ireturn, 1) := by decide +kernel
theorem dX9_fits_0 : decode cX9_fits 0 = .ok (.aload_n 0, 1) := by decide +kernel
theorem dX9_fits_1 : decode cX9_fits 1 = .ok (.iload_n 1, 1) := by decide +kernel
theorem dX9_fits_2 : decode cX9_fits 2 = .ok (.invokevirtual 94, 3) := by decide +kernel
theorem dX9_fits_5 : decode cX9_fits 5 = .ok (.ifCond .eq 29, 3) := by decide +kernel
theorem dX9_fits_8 : decode cX9_fits 8 = .ok (.iload_n 2, 1) := by decide +kernel
theorem dX9_fits_9 : decode cX9_fits 9 = .ok (.iload_n 3, 1) := by decide +kernel
theorem dX9_fits_10 : decode cX9_fits 10 = .ok (.invokestatic 97, 3) := by decide +kernel
theorem dX9_fits_13 : decode cX9_fits 13 = .ok (.ifCond .eq 21, 3) := by decide +kernel
theorem dX9_fits_16 : decode cX9_fits 16 = .ok (.aload_n 0, 1) := by decide +kernel
theorem dX9_fits_17 : decode cX9_fits 17 = .ok (.iload_n 1, 1) := by decide +kernel
theorem dX9_fits_18 : decode cX9_fits 18 = .ok (.iload_n 2, 1) := by decide +kernel
theorem dX9_fits_19 : decode cX9_fits 19 = .ok (.iload_n 3, 1) := by decide +kernel
theorem dX9_fits_20 : decode cX9_fits 20 = .ok (.invokevirtual 89, 3) := by decide +kernel
theorem dX9_fits_23 : decode cX9_fits 23 = .ok (.ifCond .eq 7, 3) := by decide +kernel
theorem dX9_fits_26 : decode cX9_fits 26 = .ok (.iconst 1, 1) := by decide +kernel
theorem dX9_fits_27 : decode cX9_fits 27 = .ok (.goto 13, 3) := by decide +kernel
theorem dX9_fits_30 : decode cX9_fits 30 = .ok (.iconst 0, 1) := by decide +kernel
theorem dX9_fits_31 : decode cX9_fits 31 = .ok (.goto 9, 3) := by decide +kernel
theorem dX9_fits_34 : decode cX9_fits 34 = .ok (.aload_n 0, 1) := by decide +kernel
theorem dX9_fits_35 : decode cX9_fits 35 = .ok (.bipush (-2), 2) := by decide +kernel
theorem dX9_fits_37 : decode cX9_fits 37 = .ok (.invokevirtual 101, 3) := by decide +kernel
theorem dX9_fits_40 : decode cX9_fits 40 = .ok (.ireturn, 1) := by decide +kernel
theorem dX9_isSheet_0 : decode cX9_isSheet 0 = .ok (.iload_n 0, 1) := by decide +kernel
theorem dX9_isSheet_1 : decode cX9_isSheet 1 = .ok (.i2l, 1) := by decide +kernel
theorem dX9_isSheet_2 : decode cX9_isSheet 2 = .ok (.ldc2_w 104, 3) := by decide +kernel
theorem dX9_isSheet_5 : decode cX9_isSheet 5 = .ok (.ldc2_w 106, 3) := by decide +kernel
theorem dX9_isSheet_8 : decode cX9_isSheet 8 = .ok (.invokestatic 46, 3) := by decide +kernel
theorem dX9_isSheet_11 : decode cX9_isSheet 11 = .ok (.ifCond .eq 21, 3) := by decide +kernel
theorem dX9_isSheet_14 : decode cX9_isSheet 14 = .ok (.iload_n 1, 1) := by decide +kernel
theorem dX9_isSheet_15 : decode cX9_isSheet 15 = .ok (.i2l, 1) := by decide +kernel
theorem dX9_isSheet_16 : decode cX9_isSheet 16 = .ok (.ldc2_w 104, 3) := by decide +kernel
theorem dX9_isSheet_19 : decode cX9_isSheet 19 = .ok (.ldc2_w 106, 3) := by decide +kernel
theorem dX9_isSheet_22 : decode cX9_isSheet 22 = .ok (.invokestatic 46, 3) := by decide +kernel
theorem dX9_isSheet_25 : decode cX9_isSheet 25 = .ok (.ifCond .eq 7, 3) := by decide +kernel
theorem dX9_isSheet_28 : decode cX9_isSheet 28 = .ok (.iconst 1, 1) := by decide +kernel
theorem dX9_isSheet_29 : decode cX9_isSheet 29 = .ok (.goto 4, 3) := by decide +kernel
theorem dX9_isSheet_32 : decode cX9_isSheet 32 = .ok (.iconst 0, 1) := by decide +kernel
theorem dX9_isSheet_33 : decode cX9_isSheet 33 = .ok (.ireturn, 1) := by decide +kernel
theorem dX9_sheetNow_0 : decode cX9_sheetNow 0 = .ok (.bipush 100, 2) := by decide +kernel
theorem dX9_sheetNow_2 : decode cX9_sheetNow 2 = .ok (.aload_n 0, 1) := by decide +kernel
theorem dX9_sheetNow_3 : decode cX9_sheetNow 3 = .ok (.getfield 7, 3) := by decide +kernel
theorem dX9_sheetNow_6 : decode cX9_sheetNow 6 = .ok (.iconst 0, 1) := by decide +kernel
theorem dX9_sheetNow_7 : decode cX9_sheetNow 7 = .ok (.iaload, 1) := by decide +kernel
theorem dX9_sheetNow_8 : decode cX9_sheetNow 8 = .ok (.imul, 1) := by decide +kernel
theorem dX9_sheetNow_9 : decode cX9_sheetNow 9 = .ok (.aload_n 0, 1) := by decide +kernel
theorem dX9_sheetNow_10 : decode cX9_sheetNow 10 = .ok (.getfield 7, 3) := by decide +kernel
theorem dX9_sheetNow_13 : decode cX9_sheetNow 13 = .ok (.iconst 1, 1) := by decide +kernel
theorem dX9_sheetNow_14 : decode cX9_sheetNow 14 = .ok (.iaload, 1) := by decide +kernel
theorem dX9_sheetNow_15 : decode cX9_sheetNow 15 = .ok (.iadd, 1) := by decide +kernel
theorem dX9_sheetNow_16 : decode cX9_sheetNow 16 = .ok (.istore_n 3, 1) := by decide +kernel
theorem dX9_sheetNow_17 : decode cX9_sheetNow 17 = .ok (.aload_n 0, 1) := by decide +kernel
theorem dX9_sheetNow_18 : decode cX9_sheetNow 18 = .ok (.getfield 7, 3) := by decide +kernel
theorem dX9_sheetNow_21 : decode cX9_sheetNow 21 = .ok (.iconst 0, 1) := by decide +kernel
theorem dX9_sheetNow_22 : decode cX9_sheetNow 22 = .ok (.iload_n 1, 1) := by decide +kernel
theorem dX9_sheetNow_23 : decode cX9_sheetNow 23 = .ok (.iastore, 1) := by decide +kernel
theorem dX9_sheetNow_24 : decode cX9_sheetNow 24 = .ok (.aload_n 0, 1) := by decide +kernel
theorem dX9_sheetNow_25 : decode cX9_sheetNow 25 = .ok (.getfield 7, 3) := by decide +kernel
theorem dX9_sheetNow_28 : decode cX9_sheetNow 28 = .ok (.iconst 1, 1) := by decide +kernel
theorem dX9_sheetNow_29 : decode cX9_sheetNow 29 = .ok (.iload_n 2, 1) := by decide +kernel
theorem dX9_sheetNow_30 : decode cX9_sheetNow 30 = .ok (.iastore, 1) := by decide +kernel
theorem dX9_sheetNow_31 : decode cX9_sheetNow 31 = .ok (.iload_n 3, 1) := by decide +kernel
theorem dX9_sheetNow_32 : decode cX9_sheetNow 32 = .ok (.ireturn, 1) := by decide +kernel
theorem dX9_sheet_0 : decode cX9_sheet 0 = .ok (.iload_n 1, 1) := by decide +kernel
theorem dX9_sheet_1 : decode cX9_sheet 1 = .ok (.iload_n 2, 1) := by decide +kernel
theorem dX9_sheet_2 : decode cX9_sheet 2 = .ok (.invokestatic 108, 3) := by decide +kernel
theorem dX9_sheet_5 : decode cX9_sheet 5 = .ok (.ifCond .ne 10, 3) := by decide +kernel
theorem dX9_sheet_8 : decode cX9_sheet 8 = .ok (.aload_n 0, 1) := by decide +kernel
theorem dX9_sheet_9 : decode cX9_sheet 9 = .ok (.bipush (-2), 2) := by decide +kernel
theorem dX9_sheet_11 : decode cX9_sheet 11 = .ok (.invokevirtual 101, 3) := by decide +kernel
theorem dX9_sheet_14 : decode cX9_sheet 14 = .ok (.ireturn, 1) := by decide +kernel
theorem dX9_sheet_15 : decode cX9_sheet 15 = .ok (.aload_n 0, 1) := by decide +kernel
theorem dX9_sheet_16 : decode cX9_sheet 16 = .ok (.invokevirtual 111, 3) := by decide +kernel
theorem dX9_sheet_19 : decode cX9_sheet 19 = .ok (.aload_n 0, 1) := by decide +kernel
theorem dX9_sheet_20 : decode cX9_sheet 20 = .ok (.iload_n 1, 1) := by decide +kernel
theorem dX9_sheet_21 : decode cX9_sheet 21 = .ok (.iload_n 2, 1) := by decide +kernel
theorem dX9_sheet_22 : decode cX9_sheet 22 = .ok (.invokevirtual 114, 3) := by decide +kernel
theorem dX9_sheet_25 : decode cX9_sheet 25 = .ok (.ireturn, 1) := by decide +kernel
theorem dX9_isSetting_0 : decode cX9_isSetting 0 = .ok (.iload_n 0, 1) := by decide +kernel
theorem dX9_isSetting_1 : decode cX9_isSetting 1 = .ok (.tableswitch 89 0 4 #[35, 45, 55, 67, 79], 35) := by decide +kernel
theorem dX9_isSetting_36 : decode cX9_isSetting 36 = .ok (.iload_n 1, 1) := by decide +kernel
theorem dX9_isSetting_37 : decode cX9_isSetting 37 = .ok (.i2l, 1) := by decide +kernel
theorem dX9_isSetting_38 : decode cX9_isSetting 38 = .ok (.lconst 0, 1) := by decide +kernel
theorem dX9_isSetting_39 : decode cX9_isSetting 39 = .ok (.ldc2_w 117, 3) := by decide +kernel
theorem dX9_isSetting_42 : decode cX9_isSetting 42 = .ok (.invokestatic 46, 3) := by decide +kernel
theorem dX9_isSetting_45 : decode cX9_isSetting 45 = .ok (.ireturn, 1) := by decide +kernel
theorem dX9_isSetting_46 : decode cX9_isSetting 46 = .ok (.iload_n 1, 1) := by decide +kernel
theorem dX9_isSetting_47 : decode cX9_isSetting 47 = .ok (.i2l, 1) := by decide +kernel
theorem dX9_isSetting_48 : decode cX9_isSetting 48 = .ok (.lconst 0, 1) := by decide +kernel
theorem dX9_isSetting_49 : decode cX9_isSetting 49 = .ok (.ldc2_w 117, 3) := by decide +kernel
theorem dX9_isSetting_52 : decode cX9_isSetting 52 = .ok (.invokestatic 46, 3) := by decide +kernel
theorem dX9_isSetting_55 : decode cX9_isSetting 55 = .ok (.ireturn, 1) := by decide +kernel
theorem dX9_isSetting_56 : decode cX9_isSetting 56 = .ok (.iload_n 1, 1) := by decide +kernel
theorem dX9_isSetting_57 : decode cX9_isSetting 57 = .ok (.i2l, 1) := by decide +kernel
theorem dX9_isSetting_58 : decode cX9_isSetting 58 = .ok (.ldc2_w 119, 3) := by decide +kernel
theorem dX9_isSetting_61 : decode cX9_isSetting 61 = .ok (.ldc2_w 121, 3) := by decide +kernel
theorem dX9_isSetting_64 : decode cX9_isSetting 64 = .ok (.invokestatic 46, 3) := by decide +kernel
theorem dX9_isSetting_67 : decode cX9_isSetting 67 = .ok (.ireturn, 1) := by decide +kernel
theorem dX9_isSetting_68 : decode cX9_isSetting 68 = .ok (.iload_n 1, 1) := by decide +kernel
theorem dX9_isSetting_69 : decode cX9_isSetting 69 = .ok (.i2l, 1) := by decide +kernel
theorem dX9_isSetting_70 : decode cX9_isSetting 70 = .ok (.ldc2_w 119, 3) := by decide +kernel
theorem dX9_isSetting_73 : decode cX9_isSetting 73 = .ok (.ldc2_w 123, 3) := by decide +kernel
theorem dX9_isSetting_76 : decode cX9_isSetting 76 = .ok (.invokestatic 46, 3) := by decide +kernel
theorem dX9_isSetting_79 : decode cX9_isSetting 79 = .ok (.ireturn, 1) := by decide +kernel
theorem dX9_isSetting_80 : decode cX9_isSetting 80 = .ok (.iload_n 1, 1) := by decide +kernel
theorem dX9_isSetting_81 : decode cX9_isSetting 81 = .ok (.i2l, 1) := by decide +kernel
theorem dX9_isSetting_82 : decode cX9_isSetting 82 = .ok (.lconst 0, 1) := by decide +kernel
theorem dX9_isSetting_83 : decode cX9_isSetting 83 = .ok (.ldc2_w 104, 3) := by decide +kernel
theorem dX9_isSetting_86 : decode cX9_isSetting 86 = .ok (.invokestatic 46, 3) := by decide +kernel
theorem dX9_isSetting_89 : decode cX9_isSetting 89 = .ok (.ireturn, 1) := by decide +kernel
theorem dX9_isSetting_90 : decode cX9_isSetting 90 = .ok (.iconst 0, 1) := by decide +kernel
theorem dX9_isSetting_91 : decode cX9_isSetting 91 = .ok (.ireturn, 1) := by decide +kernel
theorem dX9_setNow_0 : decode cX9_setNow 0 = .ok (.aload_n 0, 1) := by decide +kernel
theorem dX9_setNow_1 : decode cX9_setNow 1 = .ok (.getfield 7, 3) := by decide +kernel
theorem dX9_setNow_4 : decode cX9_setNow 4 = .ok (.iconst 2, 1) := by decide +kernel
theorem dX9_setNow_5 : decode cX9_setNow 5 = .ok (.iload_n 1, 1) := by decide +kernel
theorem dX9_setNow_6 : decode cX9_setNow 6 = .ok (.iadd, 1) := by decide +kernel
theorem dX9_setNow_7 : decode cX9_setNow 7 = .ok (.iaload, 1) := by decide +kernel
theorem dX9_setNow_8 : decode cX9_setNow 8 = .ok (.istore_n 3, 1) := by decide +kernel
theorem dX9_setNow_9 : decode cX9_setNow 9 = .ok (.aload_n 0, 1) := by decide +kernel
theorem dX9_setNow_10 : decode cX9_setNow 10 = .ok (.getfield 7, 3) := by decide +kernel
theorem dX9_setNow_13 : decode cX9_setNow 13 = .ok (.iconst 2, 1) := by decide +kernel
theorem dX9_setNow_14 : decode cX9_setNow 14 = .ok (.iload_n 1, 1) := by decide +kernel
theorem dX9_setNow_15 : decode cX9_setNow 15 = .ok (.iadd, 1) := by decide +kernel
theorem dX9_setNow_16 : decode cX9_setNow 16 = .ok (.iload_n 2, 1) := by decide +kernel
theorem dX9_setNow_17 : decode cX9_setNow 17 = .ok (.iastore, 1) := by decide +kernel
theorem dX9_setNow_18 : decode cX9_setNow 18 = .ok (.iload_n 3, 1) := by decide +kernel
theorem dX9_setNow_19 : decode cX9_setNow 19 = .ok (.ireturn, 1) := by decide +kernel
theorem dX9_sets_0 : decode cX9_sets 0 = .ok (.iload_n 1, 1) := by decide +kernel
theorem dX9_sets_1 : decode cX9_sets 1 = .ok (.iload_n 2, 1) := by decide +kernel
theorem dX9_sets_2 : decode cX9_sets 2 = .ok (.invokestatic 125, 3) := by decide +kernel
theorem dX9_sets_5 : decode cX9_sets 5 = .ok (.ifCond .ne 10, 3) := by decide +kernel
theorem dX9_sets_8 : decode cX9_sets 8 = .ok (.aload_n 0, 1) := by decide +kernel
theorem dX9_sets_9 : decode cX9_sets 9 = .ok (.bipush (-2), 2) := by decide +kernel
theorem dX9_sets_11 : decode cX9_sets 11 = .ok (.invokevirtual 101, 3) := by decide +kernel
theorem dX9_sets_14 : decode cX9_sets 14 = .ok (.ireturn, 1) := by decide +kernel
theorem dX9_sets_15 : decode cX9_sets 15 = .ok (.aload_n 0, 1) := by decide +kernel
theorem dX9_sets_16 : decode cX9_sets 16 = .ok (.invokevirtual 111, 3) := by decide +kernel
theorem dX9_sets_19 : decode cX9_sets 19 = .ok (.aload_n 0, 1) := by decide +kernel
theorem dX9_sets_20 : decode cX9_sets 20 = .ok (.iload_n 1, 1) := by decide +kernel
theorem dX9_sets_21 : decode cX9_sets 21 = .ok (.iload_n 2, 1) := by decide +kernel
theorem dX9_sets_22 : decode cX9_sets 22 = .ok (.invokevirtual 128, 3) := by decide +kernel
theorem dX9_sets_25 : decode cX9_sets 25 = .ok (.ireturn, 1) := by decide +kernel
theorem dX9_isOf_0 : decode cX9_isOf 0 = .ok (.iload_n 0, 1) := by decide +kernel
theorem dX9_isOf_1 : decode cX9_isOf 1 = .ok (.ifCond .ne 13, 3) := by decide +kernel
theorem dX9_isOf_4 : decode cX9_isOf 4 = .ok (.iload_n 1, 1) := by decide +kernel
theorem dX9_isOf_5 : decode cX9_isOf 5 = .ok (.i2l, 1) := by decide +kernel
theorem dX9_isOf_6 : decode cX9_isOf 6 = .ok (.lconst 0, 1) := by decide +kernel
theorem dX9_isOf_7 : decode cX9_isOf 7 = .ok (.lconst 1, 1) := by decide +kernel
theorem dX9_isOf_8 : decode cX9_isOf 8 = .ok (.invokestatic 46, 3) := by decide +kernel
theorem dX9_isOf_11 : decode cX9_isOf 11 = .ok (.goto 51, 3) := by decide +kernel
theorem dX9_isOf_14 : decode cX9_isOf 14 = .ok (.iload_n 0, 1) := by decide +kernel
theorem dX9_isOf_15 : decode cX9_isOf 15 = .ok (.iconst 1, 1) := by decide +kernel
theorem dX9_isOf_16 : decode cX9_isOf 16 = .ok (.if_icmp .ne 15, 3) := by decide +kernel
theorem dX9_isOf_19 : decode cX9_isOf 19 = .ok (.iload_n 1, 1) := by decide +kernel
theorem dX9_isOf_20 : decode cX9_isOf 20 = .ok (.i2l, 1) := by decide +kernel
theorem dX9_isOf_21 : decode cX9_isOf 21 = .ok (.lconst 1, 1) := by decide +kernel
theorem dX9_isOf_22 : decode cX9_isOf 22 = .ok (.ldc2_w 104, 3) := by decide +kernel
theorem dX9_isOf_25 : decode cX9_isOf 25 = .ok (.invokestatic 46, 3) := by decide +kernel
theorem dX9_isOf_28 : decode cX9_isOf 28 = .ok (.goto 34, 3) := by decide +kernel
theorem dX9_isOf_31 : decode cX9_isOf 31 = .ok (.iload_n 0, 1) := by decide +kernel
theorem dX9_isOf_32 : decode cX9_isOf 32 = .ok (.i2l, 1) := by decide +kernel
theorem dX9_isOf_33 : decode cX9_isOf 33 = .ok (.ldc2_w 117, 3) := by decide +kernel
theorem dX9_isOf_36 : decode cX9_isOf 36 = .ok (.ldc2_w 131, 3) := by decide +kernel
theorem dX9_isOf_39 : decode cX9_isOf 39 = .ok (.invokestatic 46, 3) := by decide +kernel
theorem dX9_isOf_42 : decode cX9_isOf 42 = .ok (.ifCond .eq 19, 3) := by decide +kernel
theorem dX9_isOf_45 : decode cX9_isOf 45 = .ok (.iload_n 1, 1) := by decide +kernel
theorem dX9_isOf_46 : decode cX9_isOf 46 = .ok (.i2l, 1) := by decide +kernel
theorem dX9_isOf_47 : decode cX9_isOf 47 = .ok (.lconst 1, 1) := by decide +kernel
theorem dX9_isOf_48 : decode cX9_isOf 48 = .ok (.ldc2_w 133, 3) := by decide +kernel
theorem dX9_isOf_51 : decode cX9_isOf 51 = .ok (.invokestatic 46, 3) := by decide +kernel
theorem dX9_isOf_54 : decode cX9_isOf 54 = .ok (.ifCond .eq 7, 3) := by decide +kernel
theorem dX9_isOf_57 : decode cX9_isOf 57 = .ok (.iconst 1, 1) := by decide +kernel
theorem dX9_isOf_58 : decode cX9_isOf 58 = .ok (.goto 4, 3) := by decide +kernel
theorem dX9_isOf_61 : decode cX9_isOf 61 = .ok (.iconst 0, 1) := by decide +kernel
theorem dX9_isOf_62 : decode cX9_isOf 62 = .ok (.ireturn, 1) := by decide +kernel
theorem dX9_canItem_0 : decode cX9_canItem 0 = .ok (.iconst 0, 1) := by decide +kernel
theorem dX9_canItem_1 : decode cX9_canItem 1 = .ok (.iload_n 1, 1) := by decide +kernel
theorem dX9_canItem_2 : decode cX9_canItem 2 = .ok (.invokestatic 135, 3) := by decide +kernel
theorem dX9_canItem_5 : decode cX9_canItem 5 = .ok (.ifCond .eq 28, 3) := by decide +kernel
theorem dX9_canItem_8 : decode cX9_canItem 8 = .ok (.iconst 1, 1) := by decide +kernel
theorem dX9_canItem_9 : decode cX9_canItem 9 = .ok (.iload_n 2, 1) := by decide +kernel
theorem dX9_canItem_10 : decode cX9_canItem 10 = .ok (.invokestatic 135, 3) := by decide +kernel
theorem dX9_canItem_13 : decode cX9_canItem 13 = .ok (.ifCond .eq 20, 3) := by decide +kernel
theorem dX9_canItem_16 : decode cX9_canItem 16 = .ok (.iconst 2, 1) := by decide +kernel
theorem dX9_canItem_17 : decode cX9_canItem 17 = .ok (.iload_n 3, 1) := by decide +kernel
theorem dX9_canItem_18 : decode cX9_canItem 18 = .ok (.invokestatic 135, 3) := by decide +kernel
theorem dX9_canItem_21 : decode cX9_canItem 21 = .ok (.ifCond .eq 12, 3) := by decide +kernel
theorem dX9_canItem_24 : decode cX9_canItem 24 = .ok (.iconst 3, 1) := by decide +kernel
theorem dX9_canItem_25 : decode cX9_canItem 25 = .ok (.iload 4, 2) := by decide +kernel
theorem dX9_canItem_27 : decode cX9_canItem 27 = .ok (.invokestatic 135, 3) := by decide +kernel
theorem dX9_canItem_30 : decode cX9_canItem 30 = .ok (.ifCond .ne 8, 3) := by decide +kernel
theorem dX9_canItem_33 : decode cX9_canItem 33 = .ok (.bipush (-2), 2) := by decide +kernel
theorem dX9_canItem_35 : decode cX9_canItem 35 = .ok (.goto 18, 3) := by decide +kernel
theorem dX9_canItem_38 : decode cX9_canItem 38 = .ok (.aload_n 0, 1) := by decide +kernel
theorem dX9_canItem_39 : decode cX9_canItem 39 = .ok (.invokevirtual 42, 3) := by decide +kernel
theorem dX9_canItem_42 : decode cX9_canItem 42 = .ok (.bipush 8, 2) := by decide +kernel
theorem dX9_canItem_44 : decode cX9_canItem 44 = .ok (.if_icmp .ne 8, 3) := by decide +kernel
theorem dX9_canItem_47 : decode cX9_canItem 47 = .ok (.bipush (-4), 2) := by decide +kernel
theorem dX9_canItem_49 : decode cX9_canItem 49 = .ok (.goto 4, 3) := by decide +kernel
theorem dX9_canItem_52 : decode cX9_canItem 52 = .ok (.iconst 0, 1) := by decide +kernel
theorem dX9_canItem_53 : decode cX9_canItem 53 = .ok (.ireturn, 1) := by decide +kernel
theorem dX9_itemNow_0 : decode cX9_itemNow 0 = .ok (.aload_n 0, 1) := by decide +kernel
theorem dX9_itemNow_1 : decode cX9_itemNow 1 = .ok (.invokevirtual 42, 3) := by decide +kernel
theorem dX9_itemNow_4 : decode cX9_itemNow 4 = .ok (.istore 5, 2) := by decide +kernel
theorem dX9_itemNow_6 : decode cX9_itemNow 6 = .ok (.aload_n 0, 1) := by decide +kernel
theorem dX9_itemNow_7 : decode cX9_itemNow 7 = .ok (.iload 5, 2) := by decide +kernel
theorem dX9_itemNow_9 : decode cX9_itemNow 9 = .ok (.iconst 0, 1) := by decide +kernel
theorem dX9_itemNow_10 : decode cX9_itemNow 10 = .ok (.iload_n 1, 1) := by decide +kernel
theorem dX9_itemNow_11 : decode cX9_itemNow 11 = .ok (.invokevirtual 138, 3) := by decide +kernel
theorem dX9_itemNow_14 : decode cX9_itemNow 14 = .ok (.aload_n 0, 1) := by decide +kernel
theorem dX9_itemNow_15 : decode cX9_itemNow 15 = .ok (.iload 5, 2) := by decide +kernel
theorem dX9_itemNow_17 : decode cX9_itemNow 17 = .ok (.iconst 1, 1) := by decide +kernel
theorem dX9_itemNow_18 : decode cX9_itemNow 18 = .ok (.iload_n 2, 1) := by decide +kernel
theorem dX9_itemNow_19 : decode cX9_itemNow 19 = .ok (.invokevirtual 138, 3) := by decide +kernel
theorem dX9_itemNow_22 : decode cX9_itemNow 22 = .ok (.aload_n 0, 1) := by decide +kernel
theorem dX9_itemNow_23 : decode cX9_itemNow 23 = .ok (.iload 5, 2) := by decide +kernel
theorem dX9_itemNow_25 : decode cX9_itemNow 25 = .ok (.iconst 2, 1) := by decide +kernel
theorem dX9_itemNow_26 : decode cX9_itemNow 26 = .ok (.iload_n 3, 1) := by decide +kernel
theorem dX9_itemNow_27 : decode cX9_itemNow 27 = .ok (.invokevirtual 138, 3) := by decide +kernel
theorem dX9_itemNow_30 : decode cX9_itemNow 30 = .ok (.aload_n 0, 1) := by decide +kernel
theorem dX9_itemNow_31 : decode cX9_itemNow 31 = .ok (.iload 5, 2) := by decide +kernel
theorem dX9_itemNow_33 : decode cX9_itemNow 33 = .ok (.iconst 3, 1) := by decide +kernel
theorem dX9_itemNow_34 : decode cX9_itemNow 34 = .ok (.iload 4, 2) := by decide +kernel
theorem dX9_itemNow_36 : decode cX9_itemNow 36 = .ok (.invokevirtual 138, 3) := by decide +kernel
theorem dX9_itemNow_39 : decode cX9_itemNow 39 = .ok (.aload_n 0, 1) := by decide +kernel
theorem dX9_itemNow_40 : decode cX9_itemNow 40 = .ok (.iload 5, 2) := by decide +kernel
theorem dX9_itemNow_42 : decode cX9_itemNow 42 = .ok (.iconst 4, 1) := by decide +kernel
theorem dX9_itemNow_43 : decode cX9_itemNow 43 = .ok (.iconst (-1), 1) := by decide +kernel
theorem dX9_itemNow_44 : decode cX9_itemNow 44 = .ok (.invokevirtual 138, 3) := by decide +kernel
theorem dX9_itemNow_47 : decode cX9_itemNow 47 = .ok (.aload_n 0, 1) := by decide +kernel
theorem dX9_itemNow_48 : decode cX9_itemNow 48 = .ok (.iload 5, 2) := by decide +kernel
theorem dX9_itemNow_50 : decode cX9_itemNow 50 = .ok (.iconst 5, 1) := by decide +kernel
theorem dX9_itemNow_51 : decode cX9_itemNow 51 = .ok (.iconst (-1), 1) := by decide +kernel
theorem dX9_itemNow_52 : decode cX9_itemNow 52 = .ok (.invokevirtual 138, 3) := by decide +kernel
theorem dX9_itemNow_55 : decode cX9_itemNow 55 = .ok (.aload_n 0, 1) := by decide +kernel
theorem dX9_itemNow_56 : decode cX9_itemNow 56 = .ok (.getfield 7, 3) := by decide +kernel
theorem dX9_itemNow_59 : decode cX9_itemNow 59 = .ok (.bipush 7, 2) := by decide +kernel
theorem dX9_itemNow_61 : decode cX9_itemNow 61 = .ok (.dup2, 1) := by decide +kernel
theorem dX9_itemNow_62 : decode cX9_itemNow 62 = .ok (.iaload, 1) := by decide +kernel
theorem dX9_itemNow_63 : decode cX9_itemNow 63 = .ok (.iconst 1, 1) := by decide +kernel
theorem dX9_itemNow_64 : decode cX9_itemNow 64 = .ok (.iadd, 1) := by decide +kernel
theorem dX9_itemNow_65 : decode cX9_itemNow 65 = .ok (.iastore, 1) := by decide +kernel
theorem dX9_itemNow_66 : decode cX9_itemNow 66 = .ok (.iload 5, 2) := by decide +kernel
theorem dX9_itemNow_68 : decode cX9_itemNow 68 = .ok (.ireturn, 1) := by decide +kernel
theorem dX9_item_0 : decode cX9_item 0 = .ok (.aload_n 0, 1) := by decide +kernel
theorem dX9_item_1 : decode cX9_item 1 = .ok (.iload_n 1, 1) := by decide +kernel
theorem dX9_item_2 : decode cX9_item 2 = .ok (.iload_n 2, 1) := by decide +kernel
theorem dX9_item_3 : decode cX9_item 3 = .ok (.iload_n 3, 1) := by decide +kernel
theorem dX9_item_4 : decode cX9_item 4 = .ok (.iload 4, 2) := by decide +kernel
theorem dX9_item_6 : decode cX9_item 6 = .ok (.invokevirtual 142, 3) := by decide +kernel
theorem dX9_item_9 : decode cX9_item 9 = .ok (.istore 5, 2) := by decide +kernel
theorem dX9_item_11 : decode cX9_item 11 = .ok (.iload 5, 2) := by decide +kernel
theorem dX9_item_13 : decode cX9_item 13 = .ok (.ifCond .ge 10, 3) := by decide +kernel
theorem dX9_item_16 : decode cX9_item 16 = .ok (.aload_n 0, 1) := by decide +kernel
theorem dX9_item_17 : decode cX9_item 17 = .ok (.iload 5, 2) := by decide +kernel
theorem dX9_item_19 : decode cX9_item 19 = .ok (.invokevirtual 101, 3) := by decide +kernel
theorem dX9_item_22 : decode cX9_item 22 = .ok (.ireturn, 1) := by decide +kernel
theorem dX9_item_23 : decode cX9_item 23 = .ok (.aload_n 0, 1) := by decide +kernel
theorem dX9_item_24 : decode cX9_item 24 = .ok (.invokevirtual 111, 3) := by decide +kernel
theorem dX9_item_27 : decode cX9_item 27 = .ok (.aload_n 0, 1) := by decide +kernel
theorem dX9_item_28 : decode cX9_item 28 = .ok (.iload_n 1, 1) := by decide +kernel
theorem dX9_item_29 : decode cX9_item 29 = .ok (.iload_n 2, 1) := by decide +kernel
theorem dX9_item_30 : decode cX9_item 30 = .ok (.iload_n 3, 1) := by decide +kernel
theorem dX9_item_31 : decode cX9_item 31 = .ok (.iload 4, 2) := by decide +kernel
theorem dX9_item_33 : decode cX9_item 33 = .ok (.invokevirtual 146, 3) := by decide +kernel
theorem dX9_item_36 : decode cX9_item 36 = .ok (.ireturn, 1) := by decide +kernel
theorem dX9_drops_0 : decode cX9_drops 0 = .ok (.aload_n 0, 1) := by decide +kernel
theorem dX9_drops_1 : decode cX9_drops 1 = .ok (.iload_n 1, 1) := by decide +kernel
theorem dX9_drops_2 : decode cX9_drops 2 = .ok (.invokevirtual 94, 3) := by decide +kernel
theorem dX9_drops_5 : decode cX9_drops 5 = .ok (.ifCond .ne 10, 3) := by decide +kernel
theorem dX9_drops_8 : decode cX9_drops 8 = .ok (.aload_n 0, 1) := by decide +kernel
theorem dX9_drops_9 : decode cX9_drops 9 = .ok (.bipush (-2), 2) := by decide +kernel
theorem dX9_drops_11 : decode cX9_drops 11 = .ok (.invokevirtual 101, 3) := by decide +kernel
theorem dX9_drops_14 : decode cX9_drops 14 = .ok (.ireturn, 1) := by decide +kernel
theorem dX9_drops_15 : decode cX9_drops 15 = .ok (.aload_n 0, 1) := by decide +kernel
theorem dX9_drops_16 : decode cX9_drops 16 = .ok (.invokevirtual 111, 3) := by decide +kernel
theorem dX9_drops_19 : decode cX9_drops 19 = .ok (.bipush 8, 2) := by decide +kernel
theorem dX9_drops_21 : decode cX9_drops 21 = .ok (.bipush 6, 2) := by decide +kernel
theorem dX9_drops_23 : decode cX9_drops 23 = .ok (.iload_n 1, 1) := by decide +kernel
theorem dX9_drops_24 : decode cX9_drops 24 = .ok (.imul, 1) := by decide +kernel
theorem dX9_drops_25 : decode cX9_drops 25 = .ok (.iadd, 1) := by decide +kernel
theorem dX9_drops_26 : decode cX9_drops 26 = .ok (.istore_n 2, 1) := by decide +kernel
theorem dX9_drops_27 : decode cX9_drops 27 = .ok (.iload_n 2, 1) := by decide +kernel
theorem dX9_drops_28 : decode cX9_drops 28 = .ok (.bipush 8, 2) := by decide +kernel
theorem dX9_drops_30 : decode cX9_drops 30 = .ok (.bipush 6, 2) := by decide +kernel
theorem dX9_drops_32 : decode cX9_drops 32 = .ok (.aload_n 0, 1) := by decide +kernel
theorem dX9_drops_33 : decode cX9_drops 33 = .ok (.invokevirtual 42, 3) := by decide +kernel
theorem dX9_drops_36 : decode cX9_drops 36 = .ok (.iconst 1, 1) := by decide +kernel
theorem dX9_drops_37 : decode cX9_drops 37 = .ok (.isub, 1) := by decide +kernel
theorem dX9_drops_38 : decode cX9_drops 38 = .ok (.imul, 1) := by decide +kernel
theorem dX9_drops_39 : decode cX9_drops 39 = .ok (.iadd, 1) := by decide +kernel
theorem dX9_drops_40 : decode cX9_drops 40 = .ok (.if_icmp .ge 24, 3) := by decide +kernel
theorem dX9_drops_43 : decode cX9_drops 43 = .ok (.aload_n 0, 1) := by decide +kernel
theorem dX9_drops_44 : decode cX9_drops 44 = .ok (.getfield 7, 3) := by decide +kernel
theorem dX9_drops_47 : decode cX9_drops 47 = .ok (.iload_n 2, 1) := by decide +kernel
theorem dX9_drops_48 : decode cX9_drops 48 = .ok (.aload_n 0, 1) := by decide +kernel
theorem dX9_drops_49 : decode cX9_drops 49 = .ok (.getfield 7, 3) := by decide +kernel
theorem dX9_drops_52 : decode cX9_drops 52 = .ok (.iload_n 2, 1) := by decide +kernel
theorem dX9_drops_53 : decode cX9_drops 53 = .ok (.bipush 6, 2) := by decide +kernel
theorem dX9_drops_55 : decode cX9_drops 55 = .ok (.iadd, 1) := by decide +kernel
theorem dX9_drops_56 : decode cX9_drops 56 = .ok (.iaload, 1) := by decide +kernel
theorem dX9_drops_57 : decode cX9_drops 57 = .ok (.iastore, 1) := by decide +kernel
theorem dX9_drops_58 : decode cX9_drops 58 = .ok (.iinc 2 1, 3) := by decide +kernel
theorem dX9_drops_61 : decode cX9_drops 61 = .ok (.goto (-34), 3) := by decide +kernel
theorem dX9_drops_64 : decode cX9_drops 64 = .ok (.aload_n 0, 1) := by decide +kernel
theorem dX9_drops_65 : decode cX9_drops 65 = .ok (.getfield 7, 3) := by decide +kernel
theorem dX9_drops_68 : decode cX9_drops 68 = .ok (.bipush 7, 2) := by decide +kernel
theorem dX9_drops_70 : decode cX9_drops 70 = .ok (.dup2, 1) := by decide +kernel
theorem dX9_drops_71 : decode cX9_drops 71 = .ok (.iaload, 1) := by decide +kernel
theorem dX9_drops_72 : decode cX9_drops 72 = .ok (.iconst 1, 1) := by decide +kernel
theorem dX9_drops_73 : decode cX9_drops 73 = .ok (.isub, 1) := by decide +kernel
theorem dX9_drops_74 : decode cX9_drops 74 = .ok (.iastore, 1) := by decide +kernel
theorem dX9_drops_75 : decode cX9_drops 75 = .ok (.aload_n 0, 1) := by decide +kernel
theorem dX9_drops_76 : decode cX9_drops 76 = .ok (.invokevirtual 42, 3) := by decide +kernel
theorem dX9_drops_79 : decode cX9_drops 79 = .ok (.ireturn, 1) := by decide +kernel
theorem dX9_becomes_0 : decode cX9_becomes 0 = .ok (.aload_n 0, 1) := by decide +kernel
theorem dX9_becomes_1 : decode cX9_becomes 1 = .ok (.iload_n 1, 1) := by decide +kernel
theorem dX9_becomes_2 : decode cX9_becomes 2 = .ok (.invokevirtual 94, 3) := by decide +kernel
theorem dX9_becomes_5 : decode cX9_becomes 5 = .ok (.ifCond .eq 11, 3) := by decide +kernel
theorem dX9_becomes_8 : decode cX9_becomes 8 = .ok (.iload_n 2, 1) := by decide +kernel
theorem dX9_becomes_9 : decode cX9_becomes 9 = .ok (.iload_n 3, 1) := by decide +kernel
theorem dX9_becomes_10 : decode cX9_becomes 10 = .ok (.invokestatic 135, 3) := by decide +kernel
theorem dX9_becomes_13 : decode cX9_becomes 13 = .ok (.ifCond .ne 10, 3) := by decide +kernel
theorem dX9_becomes_16 : decode cX9_becomes 16 = .ok (.aload_n 0, 1) := by decide +kernel
theorem dX9_becomes_17 : decode cX9_becomes 17 = .ok (.bipush (-2), 2) := by decide +kernel
theorem dX9_becomes_19 : decode cX9_becomes 19 = .ok (.invokevirtual 101, 3) := by decide +kernel
theorem dX9_becomes_22 : decode cX9_becomes 22 = .ok (.ireturn, 1) := by decide +kernel
theorem dX9_becomes_23 : decode cX9_becomes 23 = .ok (.aload_n 0, 1) := by decide +kernel
theorem dX9_becomes_24 : decode cX9_becomes 24 = .ok (.invokevirtual 111, 3) := by decide +kernel
theorem dX9_becomes_27 : decode cX9_becomes 27 = .ok (.aload_n 0, 1) := by decide +kernel
theorem dX9_becomes_28 : decode cX9_becomes 28 = .ok (.iload_n 1, 1) := by decide +kernel
theorem dX9_becomes_29 : decode cX9_becomes 29 = .ok (.iload_n 2, 1) := by decide +kernel
theorem dX9_becomes_30 : decode cX9_becomes 30 = .ok (.invokevirtual 50, 3) := by decide +kernel
theorem dX9_becomes_33 : decode cX9_becomes 33 = .ok (.istore 4, 2) := by decide +kernel
theorem dX9_becomes_35 : decode cX9_becomes 35 = .ok (.aload_n 0, 1) := by decide +kernel
theorem dX9_becomes_36 : decode cX9_becomes 36 = .ok (.iload_n 1, 1) := by decide +kernel
theorem dX9_becomes_37 : decode cX9_becomes 37 = .ok (.iload_n 2, 1) := by decide +kernel
theorem dX9_becomes_38 : decode cX9_becomes 38 = .ok (.iload_n 3, 1) := by decide +kernel
theorem dX9_becomes_39 : decode cX9_becomes 39 = .ok (.invokevirtual 138, 3) := by decide +kernel
theorem dX9_becomes_42 : decode cX9_becomes 42 = .ok (.iload 4, 2) := by decide +kernel
theorem dX9_becomes_44 : decode cX9_becomes 44 = .ok (.ireturn, 1) := by decide +kernel
theorem dX9_ofNow_0 : decode cX9_ofNow 0 = .ok (.iload_n 2, 1) := by decide +kernel
theorem dX9_ofNow_1 : decode cX9_ofNow 1 = .ok (.tableswitch 63 6 9 #[31, 37, 43, 49], 31) := by decide +kernel
theorem dX9_ofNow_32 : decode cX9_ofNow 32 = .ok (.aload_n 0, 1) := by decide +kernel
theorem dX9_ofNow_33 : decode cX9_ofNow 33 = .ok (.iload_n 1, 1) := by decide +kernel
theorem dX9_ofNow_34 : decode cX9_ofNow 34 = .ok (.invokevirtual 64, 3) := by decide +kernel
theorem dX9_ofNow_37 : decode cX9_ofNow 37 = .ok (.ireturn, 1) := by decide +kernel
theorem dX9_ofNow_38 : decode cX9_ofNow 38 = .ok (.aload_n 0, 1) := by decide +kernel
theorem dX9_ofNow_39 : decode cX9_ofNow 39 = .ok (.iload_n 1, 1) := by decide +kernel
theorem dX9_ofNow_40 : decode cX9_ofNow 40 = .ok (.invokevirtual 68, 3) := by decide +kernel
theorem dX9_ofNow_43 : decode cX9_ofNow 43 = .ok (.ireturn, 1) := by decide +kernel
theorem dX9_ofNow_44 : decode cX9_ofNow 44 = .ok (.aload_n 0, 1) := by decide +kernel
theorem dX9_ofNow_45 : decode cX9_ofNow 45 = .ok (.iload_n 1, 1) := by decide +kernel
theorem dX9_ofNow_46 : decode cX9_ofNow 46 = .ok (.invokevirtual 149, 3) := by decide +kernel
theorem dX9_ofNow_49 : decode cX9_ofNow 49 = .ok (.ireturn, 1) := by decide +kernel
theorem dX9_ofNow_50 : decode cX9_ofNow 50 = .ok (.aload_n 0, 1) := by decide +kernel
theorem dX9_ofNow_51 : decode cX9_ofNow 51 = .ok (.iload_n 1, 1) := by decide +kernel
theorem dX9_ofNow_52 : decode cX9_ofNow 52 = .ok (.invokevirtual 152, 3) := by decide +kernel
theorem dX9_ofNow_55 : decode cX9_ofNow 55 = .ok (.ifCond .eq 7, 3) := by decide +kernel
theorem dX9_ofNow_58 : decode cX9_ofNow 58 = .ok (.iconst 1, 1) := by decide +kernel
theorem dX9_ofNow_59 : decode cX9_ofNow 59 = .ok (.goto 4, 3) := by decide +kernel
theorem dX9_ofNow_62 : decode cX9_ofNow 62 = .ok (.iconst 0, 1) := by decide +kernel
theorem dX9_ofNow_63 : decode cX9_ofNow 63 = .ok (.ireturn, 1) := by decide +kernel
theorem dX9_ofNow_64 : decode cX9_ofNow 64 = .ok (.aload_n 0, 1) := by decide +kernel
theorem dX9_ofNow_65 : decode cX9_ofNow 65 = .ok (.iload_n 1, 1) := by decide +kernel
theorem dX9_ofNow_66 : decode cX9_ofNow 66 = .ok (.iload_n 2, 1) := by decide +kernel
theorem dX9_ofNow_67 : decode cX9_ofNow 67 = .ok (.invokevirtual 50, 3) := by decide +kernel
theorem dX9_ofNow_70 : decode cX9_ofNow 70 = .ok (.ireturn, 1) := by decide +kernel
theorem dX9_of_0 : decode cX9_of 0 = .ok (.aload_n 0, 1) := by decide +kernel
theorem dX9_of_1 : decode cX9_of 1 = .ok (.iload_n 1, 1) := by decide +kernel
theorem dX9_of_2 : decode cX9_of 2 = .ok (.invokevirtual 94, 3) := by decide +kernel
theorem dX9_of_5 : decode cX9_of 5 = .ok (.ifCond .eq 24, 3) := by decide +kernel
theorem dX9_of_8 : decode cX9_of 8 = .ok (.iload_n 2, 1) := by decide +kernel
theorem dX9_of_9 : decode cX9_of 9 = .ok (.i2l, 1) := by decide +kernel
theorem dX9_of_10 : decode cX9_of 10 = .ok (.lconst 0, 1) := by decide +kernel
theorem dX9_of_11 : decode cX9_of 11 = .ok (.ldc2_w 155, 3) := by decide +kernel
theorem dX9_of_14 : decode cX9_of 14 = .ok (.invokestatic 46, 3) := by decide +kernel
theorem dX9_of_17 : decode cX9_of 17 = .ok (.ifCond .eq 12, 3) := by decide +kernel
theorem dX9_of_20 : decode cX9_of 20 = .ok (.aload_n 0, 1) := by decide +kernel
theorem dX9_of_21 : decode cX9_of 21 = .ok (.iload_n 1, 1) := by decide +kernel
theorem dX9_of_22 : decode cX9_of 22 = .ok (.iload_n 2, 1) := by decide +kernel
theorem dX9_of_23 : decode cX9_of 23 = .ok (.invokevirtual 157, 3) := by decide +kernel
theorem dX9_of_26 : decode cX9_of 26 = .ok (.goto 9, 3) := by decide +kernel
theorem dX9_of_29 : decode cX9_of 29 = .ok (.aload_n 0, 1) := by decide +kernel
theorem dX9_of_30 : decode cX9_of 30 = .ok (.bipush (-2), 2) := by decide +kernel
theorem dX9_of_32 : decode cX9_of 32 = .ok (.invokevirtual 101, 3) := by decide +kernel
theorem dX9_of_35 : decode cX9_of 35 = .ok (.ireturn, 1) := by decide +kernel
theorem dX9_sideBits_0 : decode cX9_sideBits 0 = .ok (.aload_n 0, 1) := by decide +kernel
theorem dX9_sideBits_1 : decode cX9_sideBits 1 = .ok (.iload_n 1, 1) := by decide +kernel
theorem dX9_sideBits_2 : decode cX9_sideBits 2 = .ok (.invokevirtual 56, 3) := by decide +kernel
theorem dX9_sideBits_5 : decode cX9_sideBits 5 = .ok (.invokestatic 160, 3) := by decide +kernel
theorem dX9_sideBits_8 : decode cX9_sideBits 8 = .ok (.ireturn, 1) := by decide +kernel
theorem dX9_side_0 : decode cX9_side 0 = .ok (.iload_n 1, 1) := by decide +kernel
theorem dX9_side_1 : decode cX9_side 1 = .ok (.i2l, 1) := by decide +kernel
theorem dX9_side_2 : decode cX9_side 2 = .ok (.lconst 1, 1) := by decide +kernel
theorem dX9_side_3 : decode cX9_side 3 = .ok (.ldc2_w 104, 3) := by decide +kernel
theorem dX9_side_6 : decode cX9_side 6 = .ok (.invokestatic 46, 3) := by decide +kernel
theorem dX9_side_9 : decode cX9_side 9 = .ok (.ifCond .eq 11, 3) := by decide +kernel
theorem dX9_side_12 : decode cX9_side 12 = .ok (.aload_n 0, 1) := by decide +kernel
theorem dX9_side_13 : decode cX9_side 13 = .ok (.iload_n 1, 1) := by decide +kernel
theorem dX9_side_14 : decode cX9_side 14 = .ok (.invokevirtual 165, 3) := by decide +kernel
theorem dX9_side_17 : decode cX9_side 17 = .ok (.goto 9, 3) := by decide +kernel
theorem dX9_side_20 : decode cX9_side 20 = .ok (.aload_n 0, 1) := by decide +kernel
theorem dX9_side_21 : decode cX9_side 21 = .ok (.bipush (-2), 2) := by decide +kernel
theorem dX9_side_23 : decode cX9_side 23 = .ok (.invokevirtual 101, 3) := by decide +kernel
theorem dX9_side_26 : decode cX9_side 26 = .ok (.ireturn, 1) := by decide +kernel
theorem dX9_line_0 : decode cX9_line 0 = .ok (.iload_n 1, 1) := by decide +kernel
theorem dX9_line_1 : decode cX9_line 1 = .ok (.ifCond .ge 12, 3) := by decide +kernel
theorem dX9_line_4 : decode cX9_line 4 = .ok (.aload_n 0, 1) := by decide +kernel
theorem dX9_line_5 : decode cX9_line 5 = .ok (.bipush (-2), 2) := by decide +kernel
theorem dX9_line_7 : decode cX9_line 7 = .ok (.invokevirtual 101, 3) := by decide +kernel
theorem dX9_line_10 : decode cX9_line 10 = .ok (.goto 23, 3) := by decide +kernel
theorem dX9_line_13 : decode cX9_line 13 = .ok (.iload_n 1, 1) := by decide +kernel
theorem dX9_line_14 : decode cX9_line 14 = .ok (.aload_n 0, 1) := by decide +kernel
theorem dX9_line_15 : decode cX9_line 15 = .ok (.getfield 7, 3) := by decide +kernel
theorem dX9_line_18 : decode cX9_line 18 = .ok (.bipush 6, 2) := by decide +kernel
theorem dX9_line_20 : decode cX9_line 20 = .ok (.iaload, 1) := by decide +kernel
theorem dX9_line_21 : decode cX9_line 21 = .ok (.if_icmp .ge 11, 3) := by decide +kernel
theorem dX9_line_24 : decode cX9_line 24 = .ok (.aload_n 0, 1) := by decide +kernel
theorem dX9_line_25 : decode cX9_line 25 = .ok (.iload_n 1, 1) := by decide +kernel
theorem dX9_line_26 : decode cX9_line 26 = .ok (.invokevirtual 71, 3) := by decide +kernel
theorem dX9_line_29 : decode cX9_line 29 = .ok (.goto 4, 3) := by decide +kernel
theorem dX9_line_32 : decode cX9_line 32 = .ok (.iconst (-1), 1) := by decide +kernel
theorem dX9_line_33 : decode cX9_line 33 = .ok (.ireturn, 1) := by decide +kernel
theorem dX9_canLay_0 : decode cX9_canLay 0 = .ok (.aload_n 0, 1) := by decide +kernel
theorem dX9_canLay_1 : decode cX9_canLay 1 = .ok (.iload_n 1, 1) := by decide +kernel
theorem dX9_canLay_2 : decode cX9_canLay 2 = .ok (.invokevirtual 94, 3) := by decide +kernel
theorem dX9_canLay_5 : decode cX9_canLay 5 = .ok (.ifCond .eq 11, 3) := by decide +kernel
theorem dX9_canLay_8 : decode cX9_canLay 8 = .ok (.iload_n 2, 1) := by decide +kernel
theorem dX9_canLay_9 : decode cX9_canLay 9 = .ok (.iload_n 3, 1) := by decide +kernel
theorem dX9_canLay_10 : decode cX9_canLay 10 = .ok (.invokestatic 97, 3) := by decide +kernel
theorem dX9_canLay_13 : decode cX9_canLay 13 = .ok (.ifCond .ne 8, 3) := by decide +kernel
theorem dX9_canLay_16 : decode cX9_canLay 16 = .ok (.bipush (-2), 2) := by decide +kernel
theorem dX9_canLay_18 : decode cX9_canLay 18 = .ok (.goto 19, 3) := by decide +kernel
theorem dX9_canLay_21 : decode cX9_canLay 21 = .ok (.aload_n 0, 1) := by decide +kernel
theorem dX9_canLay_22 : decode cX9_canLay 22 = .ok (.iload_n 1, 1) := by decide +kernel
theorem dX9_canLay_23 : decode cX9_canLay 23 = .ok (.iload_n 2, 1) := by decide +kernel
theorem dX9_canLay_24 : decode cX9_canLay 24 = .ok (.iload_n 3, 1) := by decide +kernel
theorem dX9_canLay_25 : decode cX9_canLay 25 = .ok (.invokevirtual 89, 3) := by decide +kernel
theorem dX9_canLay_28 : decode cX9_canLay 28 = .ok (.ifCond .eq 7, 3) := by decide +kernel
theorem dX9_canLay_31 : decode cX9_canLay 31 = .ok (.iconst 0, 1) := by decide +kernel
theorem dX9_canLay_32 : decode cX9_canLay 32 = .ok (.goto 5, 3) := by decide +kernel
theorem dX9_canLay_35 : decode cX9_canLay 35 = .ok (.bipush (-3), 2) := by decide +kernel
theorem dX9_canLay_37 : decode cX9_canLay 37 = .ok (.ireturn, 1) := by decide +kernel
theorem dX9_layNow_0 : decode cX9_layNow 0 = .ok (.aload_n 0, 1) := by decide +kernel
theorem dX9_layNow_1 : decode cX9_layNow 1 = .ok (.iload_n 1, 1) := by decide +kernel
theorem dX9_layNow_2 : decode cX9_layNow 2 = .ok (.invokevirtual 82, 3) := by decide +kernel
theorem dX9_layNow_5 : decode cX9_layNow 5 = .ok (.ifCond .eq 7, 3) := by decide +kernel
theorem dX9_layNow_8 : decode cX9_layNow 8 = .ok (.iconst 1, 1) := by decide +kernel
theorem dX9_layNow_9 : decode cX9_layNow 9 = .ok (.goto 4, 3) := by decide +kernel
theorem dX9_layNow_12 : decode cX9_layNow 12 = .ok (.iconst 0, 1) := by decide +kernel
theorem dX9_layNow_13 : decode cX9_layNow 13 = .ok (.istore 4, 2) := by decide +kernel
theorem dX9_layNow_15 : decode cX9_layNow 15 = .ok (.aload_n 0, 1) := by decide +kernel
theorem dX9_layNow_16 : decode cX9_layNow 16 = .ok (.iload_n 1, 1) := by decide +kernel
theorem dX9_layNow_17 : decode cX9_layNow 17 = .ok (.iconst 4, 1) := by decide +kernel
theorem dX9_layNow_18 : decode cX9_layNow 18 = .ok (.iload_n 2, 1) := by decide +kernel
theorem dX9_layNow_19 : decode cX9_layNow 19 = .ok (.invokevirtual 138, 3) := by decide +kernel
theorem dX9_layNow_22 : decode cX9_layNow 22 = .ok (.aload_n 0, 1) := by decide +kernel
theorem dX9_layNow_23 : decode cX9_layNow 23 = .ok (.iload_n 1, 1) := by decide +kernel
theorem dX9_layNow_24 : decode cX9_layNow 24 = .ok (.iconst 5, 1) := by decide +kernel
theorem dX9_layNow_25 : decode cX9_layNow 25 = .ok (.iload_n 3, 1) := by decide +kernel
theorem dX9_layNow_26 : decode cX9_layNow 26 = .ok (.invokevirtual 138, 3) := by decide +kernel
theorem dX9_layNow_29 : decode cX9_layNow 29 = .ok (.iload 4, 2) := by decide +kernel
theorem dX9_layNow_31 : decode cX9_layNow 31 = .ok (.ireturn, 1) := by decide +kernel
theorem dX9_lays_0 : decode cX9_lays 0 = .ok (.aload_n 0, 1) := by decide +kernel
theorem dX9_lays_1 : decode cX9_lays 1 = .ok (.iload_n 1, 1) := by decide +kernel
theorem dX9_lays_2 : decode cX9_lays 2 = .ok (.iload_n 2, 1) := by decide +kernel
theorem dX9_lays_3 : decode cX9_lays 3 = .ok (.iload_n 3, 1) := by decide +kernel
theorem dX9_lays_4 : decode cX9_lays 4 = .ok (.invokevirtual 168, 3) := by decide +kernel
theorem dX9_lays_7 : decode cX9_lays 7 = .ok (.istore 4, 2) := by decide +kernel
theorem dX9_lays_9 : decode cX9_lays 9 = .ok (.iload 4, 2) := by decide +kernel
theorem dX9_lays_11 : decode cX9_lays 11 = .ok (.ifCond .ge 10, 3) := by decide +kernel
theorem dX9_lays_14 : decode cX9_lays 14 = .ok (.aload_n 0, 1) := by decide +kernel
theorem dX9_lays_15 : decode cX9_lays 15 = .ok (.iload 4, 2) := by decide +kernel
theorem dX9_lays_17 : decode cX9_lays 17 = .ok (.invokevirtual 101, 3) := by decide +kernel
theorem dX9_lays_20 : decode cX9_lays 20 = .ok (.ireturn, 1) := by decide +kernel
theorem dX9_lays_21 : decode cX9_lays 21 = .ok (.aload_n 0, 1) := by decide +kernel
theorem dX9_lays_22 : decode cX9_lays 22 = .ok (.invokevirtual 111, 3) := by decide +kernel
theorem dX9_lays_25 : decode cX9_lays 25 = .ok (.aload_n 0, 1) := by decide +kernel
theorem dX9_lays_26 : decode cX9_lays 26 = .ok (.iload_n 1, 1) := by decide +kernel
theorem dX9_lays_27 : decode cX9_lays 27 = .ok (.iload_n 2, 1) := by decide +kernel
theorem dX9_lays_28 : decode cX9_lays 28 = .ok (.iload_n 3, 1) := by decide +kernel
theorem dX9_lays_29 : decode cX9_lays 29 = .ok (.invokevirtual 172, 3) := by decide +kernel
theorem dX9_lays_32 : decode cX9_lays 32 = .ok (.ireturn, 1) := by decide +kernel
theorem dX9_liesMany_0 : decode cX9_liesMany 0 = .ok (.iconst 0, 1) := by decide +kernel
theorem dX9_liesMany_1 : decode cX9_liesMany 1 = .ok (.istore_n 1, 1) := by decide +kernel
theorem dX9_liesMany_2 : decode cX9_liesMany 2 = .ok (.iconst 0, 1) := by decide +kernel
theorem dX9_liesMany_3 : decode cX9_liesMany 3 = .ok (.istore_n 2, 1) := by decide +kernel
theorem dX9_liesMany_4 : decode cX9_liesMany 4 = .ok (.iload_n 2, 1) := by decide +kernel
theorem dX9_liesMany_5 : decode cX9_liesMany 5 = .ok (.aload_n 0, 1) := by decide +kernel
theorem dX9_liesMany_6 : decode cX9_liesMany 6 = .ok (.invokevirtual 42, 3) := by decide +kernel
theorem dX9_liesMany_9 : decode cX9_liesMany 9 = .ok (.if_icmp .ge 25, 3) := by decide +kernel
theorem dX9_liesMany_12 : decode cX9_liesMany 12 = .ok (.iload_n 1, 1) := by decide +kernel
theorem dX9_liesMany_13 : decode cX9_liesMany 13 = .ok (.aload_n 0, 1) := by decide +kernel
theorem dX9_liesMany_14 : decode cX9_liesMany 14 = .ok (.iload_n 2, 1) := by decide +kernel
theorem dX9_liesMany_15 : decode cX9_liesMany 15 = .ok (.invokevirtual 82, 3) := by decide +kernel
theorem dX9_liesMany_18 : decode cX9_liesMany 18 = .ok (.ifCond .eq 7, 3) := by decide +kernel
theorem dX9_liesMany_21 : decode cX9_liesMany 21 = .ok (.iconst 1, 1) := by decide +kernel
theorem dX9_liesMany_22 : decode cX9_liesMany 22 = .ok (.goto 4, 3) := by decide +kernel
theorem dX9_liesMany_25 : decode cX9_liesMany 25 = .ok (.iconst 0, 1) := by decide +kernel
theorem dX9_liesMany_26 : decode cX9_liesMany 26 = .ok (.iadd, 1) := by decide +kernel
theorem dX9_liesMany_27 : decode cX9_liesMany 27 = .ok (.istore_n 1, 1) := by decide +kernel
theorem dX9_liesMany_28 : decode cX9_liesMany 28 = .ok (.iinc 2 1, 3) := by decide +kernel
theorem dX9_liesMany_31 : decode cX9_liesMany 31 = .ok (.goto (-27), 3) := by decide +kernel
theorem dX9_liesMany_34 : decode cX9_liesMany 34 = .ok (.iload_n 1, 1) := by decide +kernel
theorem dX9_liesMany_35 : decode cX9_liesMany 35 = .ok (.ireturn, 1) := by decide +kernel
theorem dX9_canOff_0 : decode cX9_canOff 0 = .ok (.aload_n 0, 1) := by decide +kernel
theorem dX9_canOff_1 : decode cX9_canOff 1 = .ok (.iload_n 1, 1) := by decide +kernel
theorem dX9_canOff_2 : decode cX9_canOff 2 = .ok (.invokevirtual 94, 3) := by decide +kernel
theorem dX9_canOff_5 : decode cX9_canOff 5 = .ok (.ifCond .ne 8, 3) := by decide +kernel
theorem dX9_canOff_8 : decode cX9_canOff 8 = .ok (.bipush (-2), 2) := by decide +kernel
theorem dX9_canOff_10 : decode cX9_canOff 10 = .ok (.goto 17, 3) := by decide +kernel
theorem dX9_canOff_13 : decode cX9_canOff 13 = .ok (.aload_n 0, 1) := by decide +kernel
theorem dX9_canOff_14 : decode cX9_canOff 14 = .ok (.iload_n 1, 1) := by decide +kernel
theorem dX9_canOff_15 : decode cX9_canOff 15 = .ok (.invokevirtual 82, 3) := by decide +kernel
theorem dX9_canOff_18 : decode cX9_canOff 18 = .ok (.ifCond .eq 7, 3) := by decide +kernel
theorem dX9_canOff_21 : decode cX9_canOff 21 = .ok (.iconst 0, 1) := by decide +kernel
theorem dX9_canOff_22 : decode cX9_canOff 22 = .ok (.goto 5, 3) := by decide +kernel
theorem dX9_canOff_25 : decode cX9_canOff 25 = .ok (.bipush (-3), 2) := by decide +kernel
theorem dX9_canOff_27 : decode cX9_canOff 27 = .ok (.ireturn, 1) := by decide +kernel
theorem dX9_offNow_0 : decode cX9_offNow 0 = .ok (.aload_n 0, 1) := by decide +kernel
theorem dX9_offNow_1 : decode cX9_offNow 1 = .ok (.iload_n 1, 1) := by decide +kernel
theorem dX9_offNow_2 : decode cX9_offNow 2 = .ok (.iconst 4, 1) := by decide +kernel
theorem dX9_offNow_3 : decode cX9_offNow 3 = .ok (.iconst (-1), 1) := by decide +kernel
theorem dX9_offNow_4 : decode cX9_offNow 4 = .ok (.invokevirtual 138, 3) := by decide +kernel
theorem dX9_offNow_7 : decode cX9_offNow 7 = .ok (.aload_n 0, 1) := by decide +kernel
theorem dX9_offNow_8 : decode cX9_offNow 8 = .ok (.iload_n 1, 1) := by decide +kernel
theorem dX9_offNow_9 : decode cX9_offNow 9 = .ok (.iconst 5, 1) := by decide +kernel
theorem dX9_offNow_10 : decode cX9_offNow 10 = .ok (.iconst (-1), 1) := by decide +kernel
theorem dX9_offNow_11 : decode cX9_offNow 11 = .ok (.invokevirtual 138, 3) := by decide +kernel
theorem dX9_offNow_14 : decode cX9_offNow 14 = .ok (.aload_n 0, 1) := by decide +kernel
theorem dX9_offNow_15 : decode cX9_offNow 15 = .ok (.invokevirtual 175, 3) := by decide +kernel
theorem dX9_offNow_18 : decode cX9_offNow 18 = .ok (.ireturn, 1) := by decide +kernel
theorem dX9_off_0 : decode cX9_off 0 = .ok (.aload_n 0, 1) := by decide +kernel
theorem dX9_off_1 : decode cX9_off 1 = .ok (.iload_n 1, 1) := by decide +kernel
theorem dX9_off_2 : decode cX9_off 2 = .ok (.invokevirtual 178, 3) := by decide +kernel
theorem dX9_off_5 : decode cX9_off 5 = .ok (.istore_n 2, 1) := by decide +kernel
theorem dX9_off_6 : decode cX9_off 6 = .ok (.iload_n 2, 1) := by decide +kernel
theorem dX9_off_7 : decode cX9_off 7 = .ok (.ifCond .ge 9, 3) := by decide +kernel
theorem dX9_off_10 : decode cX9_off 10 = .ok (.aload_n 0, 1) := by decide +kernel
theorem dX9_off_11 : decode cX9_off 11 = .ok (.iload_n 2, 1) := by decide +kernel
theorem dX9_off_12 : decode cX9_off 12 = .ok (.invokevirtual 101, 3) := by decide +kernel
theorem dX9_off_15 : decode cX9_off 15 = .ok (.ireturn, 1) := by decide +kernel
theorem dX9_off_16 : decode cX9_off 16 = .ok (.aload_n 0, 1) := by decide +kernel
theorem dX9_off_17 : decode cX9_off 17 = .ok (.invokevirtual 111, 3) := by decide +kernel
theorem dX9_off_20 : decode cX9_off 20 = .ok (.aload_n 0, 1) := by decide +kernel
theorem dX9_off_21 : decode cX9_off 21 = .ok (.iload_n 1, 1) := by decide +kernel
theorem dX9_off_22 : decode cX9_off 22 = .ok (.invokevirtual 181, 3) := by decide +kernel
theorem dX9_off_25 : decode cX9_off 25 = .ok (.ireturn, 1) := by decide +kernel
theorem dX9_swaps_0 : decode cX9_swaps 0 = .ok (.aload_n 0, 1) := by decide +kernel
theorem dX9_swaps_1 : decode cX9_swaps 1 = .ok (.iload_n 1, 1) := by decide +kernel
theorem dX9_swaps_2 : decode cX9_swaps 2 = .ok (.invokevirtual 94, 3) := by decide +kernel
theorem dX9_swaps_5 : decode cX9_swaps 5 = .ok (.ifCond .eq 16, 3) := by decide +kernel
theorem dX9_swaps_8 : decode cX9_swaps 8 = .ok (.aload_n 0, 1) := by decide +kernel
theorem dX9_swaps_9 : decode cX9_swaps 9 = .ok (.iload_n 2, 1) := by decide +kernel
theorem dX9_swaps_10 : decode cX9_swaps 10 = .ok (.invokevirtual 94, 3) := by decide +kernel
theorem dX9_swaps_13 : decode cX9_swaps 13 = .ok (.ifCond .eq 8, 3) := by decide +kernel
theorem dX9_swaps_16 : decode cX9_swaps 16 = .ok (.iload_n 1, 1) := by decide +kernel
theorem dX9_swaps_17 : decode cX9_swaps 17 = .ok (.iload_n 2, 1) := by decide +kernel
theorem dX9_swaps_18 : decode cX9_swaps 18 = .ok (.if_icmp .ne 10, 3) := by decide +kernel
theorem dX9_swaps_21 : decode cX9_swaps 21 = .ok (.aload_n 0, 1) := by decide +kernel
theorem dX9_swaps_22 : decode cX9_swaps 22 = .ok (.bipush (-2), 2) := by decide +kernel
theorem dX9_swaps_24 : decode cX9_swaps 24 = .ok (.invokevirtual 101, 3) := by decide +kernel
theorem dX9_swaps_27 : decode cX9_swaps 27 = .ok (.ireturn, 1) := by decide +kernel
theorem dX9_swaps_28 : decode cX9_swaps 28 = .ok (.aload_n 0, 1) := by decide +kernel
theorem dX9_swaps_29 : decode cX9_swaps 29 = .ok (.iload_n 1, 1) := by decide +kernel
theorem dX9_swaps_30 : decode cX9_swaps 30 = .ok (.invokevirtual 82, 3) := by decide +kernel
theorem dX9_swaps_33 : decode cX9_swaps 33 = .ok (.ifCond .ne 18, 3) := by decide +kernel
theorem dX9_swaps_36 : decode cX9_swaps 36 = .ok (.aload_n 0, 1) := by decide +kernel
theorem dX9_swaps_37 : decode cX9_swaps 37 = .ok (.iload_n 2, 1) := by decide +kernel
theorem dX9_swaps_38 : decode cX9_swaps 38 = .ok (.invokevirtual 82, 3) := by decide +kernel
theorem dX9_swaps_41 : decode cX9_swaps 41 = .ok (.ifCond .ne 10, 3) := by decide +kernel
theorem dX9_swaps_44 : decode cX9_swaps 44 = .ok (.aload_n 0, 1) := by decide +kernel
theorem dX9_swaps_45 : decode cX9_swaps 45 = .ok (.bipush (-3), 2) := by decide +kernel
theorem dX9_swaps_47 : decode cX9_swaps 47 = .ok (.invokevirtual 101, 3) := by decide +kernel
theorem dX9_swaps_50 : decode cX9_swaps 50 = .ok (.ireturn, 1) := by decide +kernel
theorem dX9_swaps_51 : decode cX9_swaps 51 = .ok (.aload_n 0, 1) := by decide +kernel
theorem dX9_swaps_52 : decode cX9_swaps 52 = .ok (.invokevirtual 111, 3) := by decide +kernel
theorem dX9_swaps_55 : decode cX9_swaps 55 = .ok (.aload_n 0, 1) := by decide +kernel
theorem dX9_swaps_56 : decode cX9_swaps 56 = .ok (.iload_n 1, 1) := by decide +kernel
theorem dX9_swaps_57 : decode cX9_swaps 57 = .ok (.iconst 4, 1) := by decide +kernel
theorem dX9_swaps_58 : decode cX9_swaps 58 = .ok (.invokevirtual 50, 3) := by decide +kernel
theorem dX9_swaps_61 : decode cX9_swaps 61 = .ok (.istore_n 3, 1) := by decide +kernel
theorem dX9_swaps_62 : decode cX9_swaps 62 = .ok (.aload_n 0, 1) := by decide +kernel
theorem dX9_swaps_63 : decode cX9_swaps 63 = .ok (.iload_n 1, 1) := by decide +kernel
theorem dX9_swaps_64 : decode cX9_swaps 64 = .ok (.iconst 5, 1) := by decide +kernel
theorem dX9_swaps_65 : decode cX9_swaps 65 = .ok (.invokevirtual 50, 3) := by decide +kernel
theorem dX9_swaps_68 : decode cX9_swaps 68 = .ok (.istore 4, 2) := by decide +kernel
theorem dX9_swaps_70 : decode cX9_swaps 70 = .ok (.aload_n 0, 1) := by decide +kernel
theorem dX9_swaps_71 : decode cX9_swaps 71 = .ok (.iload_n 1, 1) := by decide +kernel
theorem dX9_swaps_72 : decode cX9_swaps 72 = .ok (.iconst 4, 1) := by decide +kernel
theorem dX9_swaps_73 : decode cX9_swaps 73 = .ok (.aload_n 0, 1) := by decide +kernel
theorem dX9_swaps_74 : decode cX9_swaps 74 = .ok (.iload_n 2, 1) := by decide +kernel
theorem dX9_swaps_75 : decode cX9_swaps 75 = .ok (.iconst 4, 1) := by decide +kernel
theorem dX9_swaps_76 : decode cX9_swaps 76 = .ok (.invokevirtual 50, 3) := by decide +kernel
theorem dX9_swaps_79 : decode cX9_swaps 79 = .ok (.invokevirtual 138, 3) := by decide +kernel
theorem dX9_swaps_82 : decode cX9_swaps 82 = .ok (.aload_n 0, 1) := by decide +kernel
theorem dX9_swaps_83 : decode cX9_swaps 83 = .ok (.iload_n 1, 1) := by decide +kernel
theorem dX9_swaps_84 : decode cX9_swaps 84 = .ok (.iconst 5, 1) := by decide +kernel
theorem dX9_swaps_85 : decode cX9_swaps 85 = .ok (.aload_n 0, 1) := by decide +kernel
theorem dX9_swaps_86 : decode cX9_swaps 86 = .ok (.iload_n 2, 1) := by decide +kernel
theorem dX9_swaps_87 : decode cX9_swaps 87 = .ok (.iconst 5, 1) := by decide +kernel
theorem dX9_swaps_88 : decode cX9_swaps 88 = .ok (.invokevirtual 50, 3) := by decide +kernel
theorem dX9_swaps_91 : decode cX9_swaps 91 = .ok (.invokevirtual 138, 3) := by decide +kernel
theorem dX9_swaps_94 : decode cX9_swaps 94 = .ok (.aload_n 0, 1) := by decide +kernel
theorem dX9_swaps_95 : decode cX9_swaps 95 = .ok (.iload_n 2, 1) := by decide +kernel
theorem dX9_swaps_96 : decode cX9_swaps 96 = .ok (.iconst 4, 1) := by decide +kernel
theorem dX9_swaps_97 : decode cX9_swaps 97 = .ok (.iload_n 3, 1) := by decide +kernel
theorem dX9_swaps_98 : decode cX9_swaps 98 = .ok (.invokevirtual 138, 3) := by decide +kernel
theorem dX9_swaps_101 : decode cX9_swaps 101 = .ok (.aload_n 0, 1) := by decide +kernel
theorem dX9_swaps_102 : decode cX9_swaps 102 = .ok (.iload_n 2, 1) := by decide +kernel
theorem dX9_swaps_103 : decode cX9_swaps 103 = .ok (.iconst 5, 1) := by decide +kernel
theorem dX9_swaps_104 : decode cX9_swaps 104 = .ok (.iload 4, 2) := by decide +kernel
theorem dX9_swaps_106 : decode cX9_swaps 106 = .ok (.invokevirtual 138, 3) := by decide +kernel
theorem dX9_swaps_109 : decode cX9_swaps 109 = .ok (.aload_n 0, 1) := by decide +kernel
theorem dX9_swaps_110 : decode cX9_swaps 110 = .ok (.iload_n 1, 1) := by decide +kernel
theorem dX9_swaps_111 : decode cX9_swaps 111 = .ok (.invokevirtual 152, 3) := by decide +kernel
theorem dX9_swaps_114 : decode cX9_swaps 114 = .ok (.ifCond .eq 7, 3) := by decide +kernel
theorem dX9_swaps_117 : decode cX9_swaps 117 = .ok (.iconst 1, 1) := by decide +kernel
theorem dX9_swaps_118 : decode cX9_swaps 118 = .ok (.goto 4, 3) := by decide +kernel
theorem dX9_swaps_121 : decode cX9_swaps 121 = .ok (.iconst 0, 1) := by decide +kernel
theorem dX9_swaps_122 : decode cX9_swaps 122 = .ok (.aload_n 0, 1) := by decide +kernel
theorem dX9_swaps_123 : decode cX9_swaps 123 = .ok (.iload_n 2, 1) := by decide +kernel
theorem dX9_swaps_124 : decode cX9_swaps 124 = .ok (.invokevirtual 152, 3) := by decide +kernel
theorem dX9_swaps_127 : decode cX9_swaps 127 = .ok (.ifCond .eq 7, 3) := by decide +kernel
theorem dX9_swaps_130 : decode cX9_swaps 130 = .ok (.iconst 1, 1) := by decide +kernel
theorem dX9_swaps_131 : decode cX9_swaps 131 = .ok (.goto 4, 3) := by decide +kernel
theorem dX9_swaps_134 : decode cX9_swaps 134 = .ok (.iconst 0, 1) := by decide +kernel
theorem dX9_swaps_135 : decode cX9_swaps 135 = .ok (.iadd, 1) := by decide +kernel
theorem dX9_swaps_136 : decode cX9_swaps 136 = .ok (.ireturn, 1) := by decide +kernel
theorem dX9_firstPlace_0 : decode cX9_firstPlace 0 = .ok (.iconst 0, 1) := by decide +kernel
theorem dX9_firstPlace_1 : decode cX9_firstPlace 1 = .ok (.istore_n 2, 1) := by decide +kernel
theorem dX9_firstPlace_2 : decode cX9_firstPlace 2 = .ok (.iload_n 2, 1) := by decide +kernel
theorem dX9_firstPlace_3 : decode cX9_firstPlace 3 = .ok (.sipush 256, 3) := by decide +kernel
theorem dX9_firstPlace_6 : decode cX9_firstPlace 6 = .ok (.if_icmp .ge 27, 3) := by decide +kernel
theorem dX9_firstPlace_9 : decode cX9_firstPlace 9 = .ok (.aload_n 0, 1) := by decide +kernel
theorem dX9_firstPlace_10 : decode cX9_firstPlace 10 = .ok (.iload_n 1, 1) := by decide +kernel
theorem dX9_firstPlace_11 : decode cX9_firstPlace 11 = .ok (.iload_n 2, 1) := by decide +kernel
theorem dX9_firstPlace_12 : decode cX9_firstPlace 12 = .ok (.bipush 16, 2) := by decide +kernel
theorem dX9_firstPlace_14 : decode cX9_firstPlace 14 = .ok (.irem, 1) := by decide +kernel
theorem dX9_firstPlace_15 : decode cX9_firstPlace 15 = .ok (.iload_n 2, 1) := by decide +kernel
theorem dX9_firstPlace_16 : decode cX9_firstPlace 16 = .ok (.bipush 16, 2) := by decide +kernel
theorem dX9_firstPlace_18 : decode cX9_firstPlace 18 = .ok (.idiv, 1) := by decide +kernel
theorem dX9_firstPlace_19 : decode cX9_firstPlace 19 = .ok (.invokevirtual 89, 3) := by decide +kernel
theorem dX9_firstPlace_22 : decode cX9_firstPlace 22 = .ok (.ifCond .eq 5, 3) := by decide +kernel
theorem dX9_firstPlace_25 : decode cX9_firstPlace 25 = .ok (.iload_n 2, 1) := by decide +kernel
theorem dX9_firstPlace_26 : decode cX9_firstPlace 26 = .ok (.ireturn, 1) := by decide +kernel
theorem dX9_firstPlace_27 : decode cX9_firstPlace 27 = .ok (.iinc 2 1, 3) := by decide +kernel
theorem dX9_firstPlace_30 : decode cX9_firstPlace 30 = .ok (.goto (-28), 3) := by decide +kernel
theorem dX9_firstPlace_33 : decode cX9_firstPlace 33 = .ok (.iconst (-1), 1) := by decide +kernel
theorem dX9_firstPlace_34 : decode cX9_firstPlace 34 = .ok (.ireturn, 1) := by decide +kernel
theorem dX9_lastPlace_0 : decode cX9_lastPlace 0 = .ok (.sipush 255, 3) := by decide +kernel
theorem dX9_lastPlace_3 : decode cX9_lastPlace 3 = .ok (.istore_n 2, 1) := by decide +kernel
theorem dX9_lastPlace_4 : decode cX9_lastPlace 4 = .ok (.iload_n 2, 1) := by decide +kernel
theorem dX9_lastPlace_5 : decode cX9_lastPlace 5 = .ok (.ifCond .lt 27, 3) := by decide +kernel
theorem dX9_lastPlace_8 : decode cX9_lastPlace 8 = .ok (.aload_n 0, 1) := by decide +kernel
theorem dX9_lastPlace_9 : decode cX9_lastPlace 9 = .ok (.iload_n 1, 1) := by decide +kernel
theorem dX9_lastPlace_10 : decode cX9_lastPlace 10 = .ok (.iload_n 2, 1) := by decide +kernel
theorem dX9_lastPlace_11 : decode cX9_lastPlace 11 = .ok (.bipush 16, 2) := by decide +kernel
theorem dX9_lastPlace_13 : decode cX9_lastPlace 13 = .ok (.irem, 1) := by decide +kernel
theorem dX9_lastPlace_14 : decode cX9_lastPlace 14 = .ok (.iload_n 2, 1) := by decide +kernel
theorem dX9_lastPlace_15 : decode cX9_lastPlace 15 = .ok (.bipush 16, 2) := by decide +kernel
theorem dX9_lastPlace_17 : decode cX9_lastPlace 17 = .ok (.idiv, 1) := by decide +kernel
theorem dX9_lastPlace_18 : decode cX9_lastPlace 18 = .ok (.invokevirtual 89, 3) := by decide +kernel
theorem dX9_lastPlace_21 : decode cX9_lastPlace 21 = .ok (.ifCond .eq 5, 3) := by decide +kernel
theorem dX9_lastPlace_24 : decode cX9_lastPlace 24 = .ok (.iload_n 2, 1) := by decide +kernel
theorem dX9_lastPlace_25 : decode cX9_lastPlace 25 = .ok (.ireturn, 1) := by decide +kernel
theorem dX9_lastPlace_26 : decode cX9_lastPlace 26 = .ok (.iinc 2 (-1), 3) := by decide +kernel
theorem dX9_lastPlace_29 : decode cX9_lastPlace 29 = .ok (.goto (-25), 3) := by decide +kernel
theorem dX9_lastPlace_32 : decode cX9_lastPlace 32 = .ok (.iconst (-1), 1) := by decide +kernel
theorem dX9_lastPlace_33 : decode cX9_lastPlace 33 = .ok (.ireturn, 1) := by decide +kernel
theorem dX9_bestPlace_0 : decode cX9_bestPlace 0 = .ok (.aload_n 0, 1) := by decide +kernel
theorem dX9_bestPlace_1 : decode cX9_bestPlace 1 = .ok (.iload_n 1, 1) := by decide +kernel
theorem dX9_bestPlace_2 : decode cX9_bestPlace 2 = .ok (.iconst 4, 1) := by decide +kernel
theorem dX9_bestPlace_3 : decode cX9_bestPlace 3 = .ok (.invokevirtual 50, 3) := by decide +kernel
theorem dX9_bestPlace_6 : decode cX9_bestPlace 6 = .ok (.istore_n 2, 1) := by decide +kernel
theorem dX9_bestPlace_7 : decode cX9_bestPlace 7 = .ok (.aload_n 0, 1) := by decide +kernel
theorem dX9_bestPlace_8 : decode cX9_bestPlace 8 = .ok (.iload_n 1, 1) := by decide +kernel
theorem dX9_bestPlace_9 : decode cX9_bestPlace 9 = .ok (.iconst 5, 1) := by decide +kernel
theorem dX9_bestPlace_10 : decode cX9_bestPlace 10 = .ok (.invokevirtual 50, 3) := by decide +kernel
theorem dX9_bestPlace_13 : decode cX9_bestPlace 13 = .ok (.istore_n 3, 1) := by decide +kernel
theorem dX9_bestPlace_14 : decode cX9_bestPlace 14 = .ok (.iconst (-1), 1) := by decide +kernel
theorem dX9_bestPlace_15 : decode cX9_bestPlace 15 = .ok (.istore 4, 2) := by decide +kernel
theorem dX9_bestPlace_17 : decode cX9_bestPlace 17 = .ok (.dconst 0, 1) := by decide +kernel
theorem dX9_bestPlace_18 : decode cX9_bestPlace 18 = .ok (.dstore 5, 2) := by decide +kernel
theorem dX9_bestPlace_20 : decode cX9_bestPlace 20 = .ok (.iconst 0, 1) := by decide +kernel
theorem dX9_bestPlace_21 : decode cX9_bestPlace 21 = .ok (.istore 7, 2) := by decide +kernel
theorem dX9_bestPlace_23 : decode cX9_bestPlace 23 = .ok (.iload 7, 2) := by decide +kernel
theorem dX9_bestPlace_25 : decode cX9_bestPlace 25 = .ok (.sipush 256, 3) := by decide +kernel
theorem dX9_bestPlace_28 : decode cX9_bestPlace 28 = .ok (.if_icmp .ge 91, 3) := by decide +kernel
theorem dX9_bestPlace_31 : decode cX9_bestPlace 31 = .ok (.aload_n 0, 1) := by decide +kernel
theorem dX9_bestPlace_32 : decode cX9_bestPlace 32 = .ok (.iload_n 1, 1) := by decide +kernel
theorem dX9_bestPlace_33 : decode cX9_bestPlace 33 = .ok (.iload 7, 2) := by decide +kernel
theorem dX9_bestPlace_35 : decode cX9_bestPlace 35 = .ok (.bipush 16, 2) := by decide +kernel
theorem dX9_bestPlace_37 : decode cX9_bestPlace 37 = .ok (.irem, 1) := by decide +kernel
theorem dX9_bestPlace_38 : decode cX9_bestPlace 38 = .ok (.iload 7, 2) := by decide +kernel
theorem dX9_bestPlace_40 : decode cX9_bestPlace 40 = .ok (.bipush 16, 2) := by decide +kernel
theorem dX9_bestPlace_42 : decode cX9_bestPlace 42 = .ok (.idiv, 1) := by decide +kernel
theorem dX9_bestPlace_43 : decode cX9_bestPlace 43 = .ok (.invokevirtual 89, 3) := by decide +kernel
theorem dX9_bestPlace_46 : decode cX9_bestPlace 46 = .ok (.ifCond .eq 67, 3) := by decide +kernel
theorem dX9_bestPlace_49 : decode cX9_bestPlace 49 = .ok (.aload_n 0, 1) := by decide +kernel
theorem dX9_bestPlace_50 : decode cX9_bestPlace 50 = .ok (.iload_n 1, 1) := by decide +kernel
theorem dX9_bestPlace_51 : decode cX9_bestPlace 51 = .ok (.iconst 4, 1) := by decide +kernel
theorem dX9_bestPlace_52 : decode cX9_bestPlace 52 = .ok (.iload 7, 2) := by decide +kernel
theorem dX9_bestPlace_54 : decode cX9_bestPlace 54 = .ok (.bipush 16, 2) := by decide +kernel
theorem dX9_bestPlace_56 : decode cX9_bestPlace 56 = .ok (.irem, 1) := by decide +kernel
theorem dX9_bestPlace_57 : decode cX9_bestPlace 57 = .ok (.invokevirtual 138, 3) := by decide +kernel
theorem dX9_bestPlace_60 : decode cX9_bestPlace 60 = .ok (.aload_n 0, 1) := by decide +kernel
theorem dX9_bestPlace_61 : decode cX9_bestPlace 61 = .ok (.iload_n 1, 1) := by decide +kernel
theorem dX9_bestPlace_62 : decode cX9_bestPlace 62 = .ok (.iconst 5, 1) := by decide +kernel
theorem dX9_bestPlace_63 : decode cX9_bestPlace 63 = .ok (.iload 7, 2) := by decide +kernel
theorem dX9_bestPlace_65 : decode cX9_bestPlace 65 = .ok (.bipush 16, 2) := by decide +kernel
theorem dX9_bestPlace_67 : decode cX9_bestPlace 67 = .ok (.idiv, 1) := by decide +kernel
theorem dX9_bestPlace_68 : decode cX9_bestPlace 68 = .ok (.invokevirtual 138, 3) := by decide +kernel
theorem dX9_bestPlace_71 : decode cX9_bestPlace 71 = .ok (.aload_n 0, 1) := by decide +kernel
theorem dX9_bestPlace_72 : decode cX9_bestPlace 72 = .ok (.invokevirtual 184, 3) := by decide +kernel
theorem dX9_bestPlace_75 : decode cX9_bestPlace 75 = .ok (.dstore 8, 2) := by decide +kernel
theorem dX9_bestPlace_77 : decode cX9_bestPlace 77 = .ok (.iload 4, 2) := by decide +kernel
theorem dX9_bestPlace_79 : decode cX9_bestPlace 79 = .ok (.iconst (-1), 1) := by decide +kernel
theorem dX9_bestPlace_80 : decode cX9_bestPlace 80 = .ok (.if_icmp .eq 11, 3) := by decide +kernel
theorem dX9_bestPlace_83 : decode cX9_bestPlace 83 = .ok (.dload 8, 2) := by decide +kernel
theorem dX9_bestPlace_85 : decode cX9_bestPlace 85 = .ok (.dload 5, 2) := by decide +kernel
theorem dX9_bestPlace_87 : decode cX9_bestPlace 87 = .ok (.dcmp .g, 1) := by decide +kernel
theorem dX9_bestPlace_88 : decode cX9_bestPlace 88 = .ok (.ifCond .ge 11, 3) := by decide +kernel
theorem dX9_bestPlace_91 : decode cX9_bestPlace 91 = .ok (.iload 7, 2) := by decide +kernel
theorem dX9_bestPlace_93 : decode cX9_bestPlace 93 = .ok (.istore 4, 2) := by decide +kernel
theorem dX9_bestPlace_95 : decode cX9_bestPlace 95 = .ok (.dload 8, 2) := by decide +kernel
theorem dX9_bestPlace_97 : decode cX9_bestPlace 97 = .ok (.dstore 5, 2) := by decide +kernel
theorem dX9_bestPlace_99 : decode cX9_bestPlace 99 = .ok (.aload_n 0, 1) := by decide +kernel
theorem dX9_bestPlace_100 : decode cX9_bestPlace 100 = .ok (.iload_n 1, 1) := by decide +kernel
theorem dX9_bestPlace_101 : decode cX9_bestPlace 101 = .ok (.iconst 4, 1) := by decide +kernel
theorem dX9_bestPlace_102 : decode cX9_bestPlace 102 = .ok (.iload_n 2, 1) := by decide +kernel
theorem dX9_bestPlace_103 : decode cX9_bestPlace 103 = .ok (.invokevirtual 138, 3) := by decide +kernel
theorem dX9_bestPlace_106 : decode cX9_bestPlace 106 = .ok (.aload_n 0, 1) := by decide +kernel
theorem dX9_bestPlace_107 : decode cX9_bestPlace 107 = .ok (.iload_n 1, 1) := by decide +kernel
theorem dX9_bestPlace_108 : decode cX9_bestPlace 108 = .ok (.iconst 5, 1) := by decide +kernel
theorem dX9_bestPlace_109 : decode cX9_bestPlace 109 = .ok (.iload_n 3, 1) := by decide +kernel
theorem dX9_bestPlace_110 : decode cX9_bestPlace 110 = .ok (.invokevirtual 138, 3) := by decide +kernel
theorem dX9_bestPlace_113 : decode cX9_bestPlace 113 = .ok (.iinc 7 1, 3) := by decide +kernel
theorem dX9_bestPlace_116 : decode cX9_bestPlace 116 = .ok (.goto (-93), 3) := by decide +kernel
theorem dX9_bestPlace_119 : decode cX9_bestPlace 119 = .ok (.iload 4, 2) := by decide +kernel
theorem dX9_bestPlace_121 : decode cX9_bestPlace 121 = .ok (.ireturn, 1) := by decide +kernel
theorem dX9_placesMany_0 : decode cX9_placesMany 0 = .ok (.iconst 0, 1) := by decide +kernel
theorem dX9_placesMany_1 : decode cX9_placesMany 1 = .ok (.istore_n 2, 1) := by decide +kernel
theorem dX9_placesMany_2 : decode cX9_placesMany 2 = .ok (.iconst 0, 1) := by decide +kernel
theorem dX9_placesMany_3 : decode cX9_placesMany 3 = .ok (.istore_n 3, 1) := by decide +kernel
theorem dX9_placesMany_4 : decode cX9_placesMany 4 = .ok (.iload_n 3, 1) := by decide +kernel
theorem dX9_placesMany_5 : decode cX9_placesMany 5 = .ok (.sipush 256, 3) := by decide +kernel
theorem dX9_placesMany_8 : decode cX9_placesMany 8 = .ok (.if_icmp .ge 33, 3) := by decide +kernel
theorem dX9_placesMany_11 : decode cX9_placesMany 11 = .ok (.iload_n 2, 1) := by decide +kernel
theorem dX9_placesMany_12 : decode cX9_placesMany 12 = .ok (.aload_n 0, 1) := by decide +kernel
theorem dX9_placesMany_13 : decode cX9_placesMany 13 = .ok (.iload_n 1, 1) := by decide +kernel
theorem dX9_placesMany_14 : decode cX9_placesMany 14 = .ok (.iload_n 3, 1) := by decide +kernel
theorem dX9_placesMany_15 : decode cX9_placesMany 15 = .ok (.bipush 16, 2) := by decide +kernel
theorem dX9_placesMany_17 : decode cX9_placesMany 17 = .ok (.irem, 1) := by decide +kernel
theorem dX9_placesMany_18 : decode cX9_placesMany 18 = .ok (.iload_n 3, 1) := by decide +kernel
theorem dX9_placesMany_19 : decode cX9_placesMany 19 = .ok (.bipush 16, 2) := by decide +kernel
theorem dX9_placesMany_21 : decode cX9_placesMany 21 = .ok (.idiv, 1) := by decide +kernel
theorem dX9_placesMany_22 : decode cX9_placesMany 22 = .ok (.invokevirtual 89, 3) := by decide +kernel
theorem dX9_placesMany_25 : decode cX9_placesMany 25 = .ok (.ifCond .eq 7, 3) := by decide +kernel
theorem dX9_placesMany_28 : decode cX9_placesMany 28 = .ok (.iconst 1, 1) := by decide +kernel
theorem dX9_placesMany_29 : decode cX9_placesMany 29 = .ok (.goto 4, 3) := by decide +kernel
theorem dX9_placesMany_32 : decode cX9_placesMany 32 = .ok (.iconst 0, 1) := by decide +kernel
theorem dX9_placesMany_33 : decode cX9_placesMany 33 = .ok (.iadd, 1) := by decide +kernel
theorem dX9_placesMany_34 : decode cX9_placesMany 34 = .ok (.istore_n 2, 1) := by decide +kernel
theorem dX9_placesMany_35 : decode cX9_placesMany 35 = .ok (.iinc 3 1, 3) := by decide +kernel
theorem dX9_placesMany_38 : decode cX9_placesMany 38 = .ok (.goto (-34), 3) := by decide +kernel
theorem dX9_placesMany_41 : decode cX9_placesMany 41 = .ok (.iload_n 2, 1) := by decide +kernel
theorem dX9_placesMany_42 : decode cX9_placesMany 42 = .ok (.ireturn, 1) := by decide +kernel
theorem dX9_freeNow_0 : decode cX9_freeNow 0 = .ok (.aload_n 0, 1) := by decide +kernel
theorem dX9_freeNow_1 : decode cX9_freeNow 1 = .ok (.iload_n 1, 1) := by decide +kernel
theorem dX9_freeNow_2 : decode cX9_freeNow 2 = .ok (.invokevirtual 188, 3) := by decide +kernel
theorem dX9_freeNow_5 : decode cX9_freeNow 5 = .ok (.istore_n 3, 1) := by decide +kernel
theorem dX9_freeNow_6 : decode cX9_freeNow 6 = .ok (.iload_n 2, 1) := by decide +kernel
theorem dX9_freeNow_7 : decode cX9_freeNow 7 = .ok (.iconst 3, 1) := by decide +kernel
theorem dX9_freeNow_8 : decode cX9_freeNow 8 = .ok (.if_icmp .ne 11, 3) := by decide +kernel
theorem dX9_freeNow_11 : decode cX9_freeNow 11 = .ok (.aload_n 0, 1) := by decide +kernel
theorem dX9_freeNow_12 : decode cX9_freeNow 12 = .ok (.iload_n 1, 1) := by decide +kernel
theorem dX9_freeNow_13 : decode cX9_freeNow 13 = .ok (.invokevirtual 191, 3) := by decide +kernel
theorem dX9_freeNow_16 : decode cX9_freeNow 16 = .ok (.goto 34, 3) := by decide +kernel
theorem dX9_freeNow_19 : decode cX9_freeNow 19 = .ok (.iload_n 3, 1) := by decide +kernel
theorem dX9_freeNow_20 : decode cX9_freeNow 20 = .ok (.iconst (-1), 1) := by decide +kernel
theorem dX9_freeNow_21 : decode cX9_freeNow 21 = .ok (.if_icmp .eq 7, 3) := by decide +kernel
theorem dX9_freeNow_24 : decode cX9_freeNow 24 = .ok (.iload_n 2, 1) := by decide +kernel
theorem dX9_freeNow_25 : decode cX9_freeNow 25 = .ok (.ifCond .ne 7, 3) := by decide +kernel
theorem dX9_freeNow_28 : decode cX9_freeNow 28 = .ok (.iload_n 3, 1) := by decide +kernel
theorem dX9_freeNow_29 : decode cX9_freeNow 29 = .ok (.goto 21, 3) := by decide +kernel
theorem dX9_freeNow_32 : decode cX9_freeNow 32 = .ok (.iload_n 2, 1) := by decide +kernel
theorem dX9_freeNow_33 : decode cX9_freeNow 33 = .ok (.iconst 1, 1) := by decide +kernel
theorem dX9_freeNow_34 : decode cX9_freeNow 34 = .ok (.if_icmp .ne 11, 3) := by decide +kernel
theorem dX9_freeNow_37 : decode cX9_freeNow 37 = .ok (.aload_n 0, 1) := by decide +kernel
theorem dX9_freeNow_38 : decode cX9_freeNow 38 = .ok (.iload_n 1, 1) := by decide +kernel
theorem dX9_freeNow_39 : decode cX9_freeNow 39 = .ok (.invokevirtual 194, 3) := by decide +kernel
theorem dX9_freeNow_42 : decode cX9_freeNow 42 = .ok (.goto 8, 3) := by decide +kernel
theorem dX9_freeNow_45 : decode cX9_freeNow 45 = .ok (.aload_n 0, 1) := by decide +kernel
theorem dX9_freeNow_46 : decode cX9_freeNow 46 = .ok (.iload_n 1, 1) := by decide +kernel
theorem dX9_freeNow_47 : decode cX9_freeNow 47 = .ok (.invokevirtual 197, 3) := by decide +kernel
theorem dX9_freeNow_50 : decode cX9_freeNow 50 = .ok (.ireturn, 1) := by decide +kernel
theorem dX9_free_0 : decode cX9_free 0 = .ok (.aload_n 0, 1) := by decide +kernel
theorem dX9_free_1 : decode cX9_free 1 = .ok (.iload_n 1, 1) := by decide +kernel
theorem dX9_free_2 : decode cX9_free 2 = .ok (.invokevirtual 94, 3) := by decide +kernel
theorem dX9_free_5 : decode cX9_free 5 = .ok (.ifCond .eq 24, 3) := by decide +kernel
theorem dX9_free_8 : decode cX9_free 8 = .ok (.iload_n 2, 1) := by decide +kernel
theorem dX9_free_9 : decode cX9_free 9 = .ok (.i2l, 1) := by decide +kernel
theorem dX9_free_10 : decode cX9_free 10 = .ok (.lconst 0, 1) := by decide +kernel
theorem dX9_free_11 : decode cX9_free 11 = .ok (.ldc2_w 131, 3) := by decide +kernel
theorem dX9_free_14 : decode cX9_free 14 = .ok (.invokestatic 46, 3) := by decide +kernel
theorem dX9_free_17 : decode cX9_free 17 = .ok (.ifCond .eq 12, 3) := by decide +kernel
theorem dX9_free_20 : decode cX9_free 20 = .ok (.aload_n 0, 1) := by decide +kernel
theorem dX9_free_21 : decode cX9_free 21 = .ok (.iload_n 1, 1) := by decide +kernel
theorem dX9_free_22 : decode cX9_free 22 = .ok (.iload_n 2, 1) := by decide +kernel
theorem dX9_free_23 : decode cX9_free 23 = .ok (.invokevirtual 200, 3) := by decide +kernel
theorem dX9_free_26 : decode cX9_free 26 = .ok (.goto 9, 3) := by decide +kernel
theorem dX9_free_29 : decode cX9_free 29 = .ok (.aload_n 0, 1) := by decide +kernel
theorem dX9_free_30 : decode cX9_free 30 = .ok (.bipush (-2), 2) := by decide +kernel
theorem dX9_free_32 : decode cX9_free 32 = .ok (.invokevirtual 101, 3) := by decide +kernel
theorem dX9_free_35 : decode cX9_free 35 = .ok (.ireturn, 1) := by decide +kernel
theorem dX9_packNow_0 : decode cX9_packNow 0 = .ok (.iconst 0, 1) := by decide +kernel
theorem dX9_packNow_1 : decode cX9_packNow 1 = .ok (.istore_n 1, 1) := by decide +kernel
theorem dX9_packNow_2 : decode cX9_packNow 2 = .ok (.iload_n 1, 1) := by decide +kernel
theorem dX9_packNow_3 : decode cX9_packNow 3 = .ok (.aload_n 0, 1) := by decide +kernel
theorem dX9_packNow_4 : decode cX9_packNow 4 = .ok (.invokevirtual 42, 3) := by decide +kernel
theorem dX9_packNow_7 : decode cX9_packNow 7 = .ok (.if_icmp .ge 15, 3) := by decide +kernel
theorem dX9_packNow_10 : decode cX9_packNow 10 = .ok (.aload_n 0, 1) := by decide +kernel
theorem dX9_packNow_11 : decode cX9_packNow 11 = .ok (.iload_n 1, 1) := by decide +kernel
theorem dX9_packNow_12 : decode cX9_packNow 12 = .ok (.invokevirtual 181, 3) := by decide +kernel
theorem dX9_packNow_15 : decode cX9_packNow 15 = .ok (.istore_n 2, 1) := by decide +kernel
theorem dX9_packNow_16 : decode cX9_packNow 16 = .ok (.iinc 1 1, 3) := by decide +kernel
theorem dX9_packNow_19 : decode cX9_packNow 19 = .ok (.goto (-17), 3) := by decide +kernel
theorem dX9_packNow_22 : decode cX9_packNow 22 = .ok (.iconst 1, 1) := by decide +kernel
theorem dX9_packNow_23 : decode cX9_packNow 23 = .ok (.istore_n 1, 1) := by decide +kernel
theorem dX9_packNow_24 : decode cX9_packNow 24 = .ok (.iload_n 1, 1) := by decide +kernel
theorem dX9_packNow_25 : decode cX9_packNow 25 = .ok (.bipush 6, 2) := by decide +kernel
theorem dX9_packNow_27 : decode cX9_packNow 27 = .ok (.if_icmp .gt 65, 3) := by decide +kernel
theorem dX9_packNow_30 : decode cX9_packNow 30 = .ok (.iconst 0, 1) := by decide +kernel
theorem dX9_packNow_31 : decode cX9_packNow 31 = .ok (.istore_n 2, 1) := by decide +kernel
theorem dX9_packNow_32 : decode cX9_packNow 32 = .ok (.iload_n 2, 1) := by decide +kernel
theorem dX9_packNow_33 : decode cX9_packNow 33 = .ok (.aload_n 0, 1) := by decide +kernel
theorem dX9_packNow_34 : decode cX9_packNow 34 = .ok (.invokevirtual 42, 3) := by decide +kernel
theorem dX9_packNow_37 : decode cX9_packNow 37 = .ok (.if_icmp .ge 49, 3) := by decide +kernel
theorem dX9_packNow_40 : decode cX9_packNow 40 = .ok (.aload_n 0, 1) := by decide +kernel
theorem dX9_packNow_41 : decode cX9_packNow 41 = .ok (.iload_n 2, 1) := by decide +kernel
theorem dX9_packNow_42 : decode cX9_packNow 42 = .ok (.iconst 1, 1) := by decide +kernel
theorem dX9_packNow_43 : decode cX9_packNow 43 = .ok (.invokevirtual 50, 3) := by decide +kernel
theorem dX9_packNow_46 : decode cX9_packNow 46 = .ok (.iload_n 1, 1) := by decide +kernel
theorem dX9_packNow_47 : decode cX9_packNow 47 = .ok (.if_icmp .ne 11, 3) := by decide +kernel
theorem dX9_packNow_50 : decode cX9_packNow 50 = .ok (.aload_n 0, 1) := by decide +kernel
theorem dX9_packNow_51 : decode cX9_packNow 51 = .ok (.iload_n 2, 1) := by decide +kernel
theorem dX9_packNow_52 : decode cX9_packNow 52 = .ok (.invokevirtual 188, 3) := by decide +kernel
theorem dX9_packNow_55 : decode cX9_packNow 55 = .ok (.goto 4, 3) := by decide +kernel
theorem dX9_packNow_58 : decode cX9_packNow 58 = .ok (.iconst (-1), 1) := by decide +kernel
theorem dX9_packNow_59 : decode cX9_packNow 59 = .ok (.istore_n 3, 1) := by decide +kernel
theorem dX9_packNow_60 : decode cX9_packNow 60 = .ok (.iload_n 3, 1) := by decide +kernel
theorem dX9_packNow_61 : decode cX9_packNow 61 = .ok (.iconst (-1), 1) := by decide +kernel
theorem dX9_packNow_62 : decode cX9_packNow 62 = .ok (.if_icmp .eq 18, 3) := by decide +kernel
theorem dX9_packNow_65 : decode cX9_packNow 65 = .ok (.aload_n 0, 1) := by decide +kernel
theorem dX9_packNow_66 : decode cX9_packNow 66 = .ok (.iload_n 2, 1) := by decide +kernel
theorem dX9_packNow_67 : decode cX9_packNow 67 = .ok (.iload_n 3, 1) := by decide +kernel
theorem dX9_packNow_68 : decode cX9_packNow 68 = .ok (.bipush 16, 2) := by decide +kernel
theorem dX9_packNow_70 : decode cX9_packNow 70 = .ok (.irem, 1) := by decide +kernel
theorem dX9_packNow_71 : decode cX9_packNow 71 = .ok (.iload_n 3, 1) := by decide +kernel
theorem dX9_packNow_72 : decode cX9_packNow 72 = .ok (.bipush 16, 2) := by decide +kernel
theorem dX9_packNow_74 : decode cX9_packNow 74 = .ok (.idiv, 1) := by decide +kernel
theorem dX9_packNow_75 : decode cX9_packNow 75 = .ok (.invokevirtual 172, 3) := by decide +kernel
theorem dX9_packNow_78 : decode cX9_packNow 78 = .ok (.istore 4, 2) := by decide +kernel
theorem dX9_packNow_80 : decode cX9_packNow 80 = .ok (.iinc 2 1, 3) := by decide +kernel
theorem dX9_packNow_83 : decode cX9_packNow 83 = .ok (.goto (-51), 3) := by decide +kernel
theorem dX9_packNow_86 : decode cX9_packNow 86 = .ok (.iinc 1 1, 3) := by decide +kernel
theorem dX9_packNow_89 : decode cX9_packNow 89 = .ok (.goto (-65), 3) := by decide +kernel
theorem dX9_packNow_92 : decode cX9_packNow 92 = .ok (.aload_n 0, 1) := by decide +kernel
theorem dX9_packNow_93 : decode cX9_packNow 93 = .ok (.invokevirtual 175, 3) := by decide +kernel
theorem dX9_packNow_96 : decode cX9_packNow 96 = .ok (.ireturn, 1) := by decide +kernel
theorem dX9_packs_0 : decode cX9_packs 0 = .ok (.aload_n 0, 1) := by decide +kernel
theorem dX9_packs_1 : decode cX9_packs 1 = .ok (.invokevirtual 111, 3) := by decide +kernel
theorem dX9_packs_4 : decode cX9_packs 4 = .ok (.aload_n 0, 1) := by decide +kernel
theorem dX9_packs_5 : decode cX9_packs 5 = .ok (.invokevirtual 203, 3) := by decide +kernel
theorem dX9_packs_8 : decode cX9_packs 8 = .ok (.ireturn, 1) := by decide +kernel
theorem dX9_areFit_0 : decode cX9_areFit 0 = .ok (.iconst 0, 1) := by decide +kernel
theorem dX9_areFit_1 : decode cX9_areFit 1 = .ok (.istore_n 2, 1) := by decide +kernel
theorem dX9_areFit_2 : decode cX9_areFit 2 = .ok (.iload_n 2, 1) := by decide +kernel
theorem dX9_areFit_3 : decode cX9_areFit 3 = .ok (.aload_n 0, 1) := by decide +kernel
theorem dX9_areFit_4 : decode cX9_areFit 4 = .ok (.invokevirtual 42, 3) := by decide +kernel
theorem dX9_areFit_7 : decode cX9_areFit 7 = .ok (.if_icmp .ge 93, 3) := by decide +kernel
theorem dX9_areFit_10 : decode cX9_areFit 10 = .ok (.iload_n 1, 1) := by decide +kernel
theorem dX9_areFit_11 : decode cX9_areFit 11 = .ok (.iload_n 2, 1) := by decide +kernel
theorem dX9_areFit_12 : decode cX9_areFit 12 = .ok (.ishr, 1) := by decide +kernel
theorem dX9_areFit_13 : decode cX9_areFit 13 = .ok (.iconst 1, 1) := by decide +kernel
theorem dX9_areFit_14 : decode cX9_areFit 14 = .ok (.iand, 1) := by decide +kernel
theorem dX9_areFit_15 : decode cX9_areFit 15 = .ok (.iconst 1, 1) := by decide +kernel
theorem dX9_areFit_16 : decode cX9_areFit 16 = .ok (.if_icmp .ne 78, 3) := by decide +kernel
theorem dX9_areFit_19 : decode cX9_areFit 19 = .ok (.aload_n 0, 1) := by decide +kernel
theorem dX9_areFit_20 : decode cX9_areFit 20 = .ok (.iload_n 2, 1) := by decide +kernel
theorem dX9_areFit_21 : decode cX9_areFit 21 = .ok (.invokevirtual 82, 3) := by decide +kernel
theorem dX9_areFit_24 : decode cX9_areFit 24 = .ok (.ifCond .eq 23, 3) := by decide +kernel
theorem dX9_areFit_27 : decode cX9_areFit 27 = .ok (.aload_n 0, 1) := by decide +kernel
theorem dX9_areFit_28 : decode cX9_areFit 28 = .ok (.iload_n 2, 1) := by decide +kernel
theorem dX9_areFit_29 : decode cX9_areFit 29 = .ok (.aload_n 0, 1) := by decide +kernel
theorem dX9_areFit_30 : decode cX9_areFit 30 = .ok (.iload_n 2, 1) := by decide +kernel
theorem dX9_areFit_31 : decode cX9_areFit 31 = .ok (.iconst 4, 1) := by decide +kernel
theorem dX9_areFit_32 : decode cX9_areFit 32 = .ok (.invokevirtual 50, 3) := by decide +kernel
theorem dX9_areFit_35 : decode cX9_areFit 35 = .ok (.aload_n 0, 1) := by decide +kernel
theorem dX9_areFit_36 : decode cX9_areFit 36 = .ok (.iload_n 2, 1) := by decide +kernel
theorem dX9_areFit_37 : decode cX9_areFit 37 = .ok (.iconst 5, 1) := by decide +kernel
theorem dX9_areFit_38 : decode cX9_areFit 38 = .ok (.invokevirtual 50, 3) := by decide +kernel
theorem dX9_areFit_41 : decode cX9_areFit 41 = .ok (.invokevirtual 78, 3) := by decide +kernel
theorem dX9_areFit_44 : decode cX9_areFit 44 = .ok (.ifCond .ne 5, 3) := by decide +kernel
theorem dX9_areFit_47 : decode cX9_areFit 47 = .ok (.iconst 0, 1) := by decide +kernel
theorem dX9_areFit_48 : decode cX9_areFit 48 = .ok (.ireturn, 1) := by decide +kernel
theorem dX9_areFit_49 : decode cX9_areFit 49 = .ok (.iconst 0, 1) := by decide +kernel
theorem dX9_areFit_50 : decode cX9_areFit 50 = .ok (.istore_n 3, 1) := by decide +kernel
theorem dX9_areFit_51 : decode cX9_areFit 51 = .ok (.iload_n 3, 1) := by decide +kernel
theorem dX9_areFit_52 : decode cX9_areFit 52 = .ok (.iload_n 2, 1) := by decide +kernel
theorem dX9_areFit_53 : decode cX9_areFit 53 = .ok (.if_icmp .ge 41, 3) := by decide +kernel
theorem dX9_areFit_56 : decode cX9_areFit 56 = .ok (.iload_n 1, 1) := by decide +kernel
theorem dX9_areFit_57 : decode cX9_areFit 57 = .ok (.iload_n 3, 1) := by decide +kernel
theorem dX9_areFit_58 : decode cX9_areFit 58 = .ok (.ishr, 1) := by decide +kernel
theorem dX9_areFit_59 : decode cX9_areFit 59 = .ok (.iconst 1, 1) := by decide +kernel
theorem dX9_areFit_60 : decode cX9_areFit 60 = .ok (.iand, 1) := by decide +kernel
theorem dX9_areFit_61 : decode cX9_areFit 61 = .ok (.iconst 1, 1) := by decide +kernel
theorem dX9_areFit_62 : decode cX9_areFit 62 = .ok (.if_icmp .ne 26, 3) := by decide +kernel
theorem dX9_areFit_65 : decode cX9_areFit 65 = .ok (.aload_n 0, 1) := by decide +kernel
theorem dX9_areFit_66 : decode cX9_areFit 66 = .ok (.iload_n 2, 1) := by decide +kernel
theorem dX9_areFit_67 : decode cX9_areFit 67 = .ok (.aload_n 0, 1) := by decide +kernel
theorem dX9_areFit_68 : decode cX9_areFit 68 = .ok (.iload_n 2, 1) := by decide +kernel
theorem dX9_areFit_69 : decode cX9_areFit 69 = .ok (.iconst 4, 1) := by decide +kernel
theorem dX9_areFit_70 : decode cX9_areFit 70 = .ok (.invokevirtual 50, 3) := by decide +kernel
theorem dX9_areFit_73 : decode cX9_areFit 73 = .ok (.aload_n 0, 1) := by decide +kernel
theorem dX9_areFit_74 : decode cX9_areFit 74 = .ok (.iload_n 2, 1) := by decide +kernel
theorem dX9_areFit_75 : decode cX9_areFit 75 = .ok (.iconst 5, 1) := by decide +kernel
theorem dX9_areFit_76 : decode cX9_areFit 76 = .ok (.invokevirtual 50, 3) := by decide +kernel
theorem dX9_areFit_79 : decode cX9_areFit 79 = .ok (.iload_n 3, 1) := by decide +kernel
theorem dX9_areFit_80 : decode cX9_areFit 80 = .ok (.invokevirtual 85, 3) := by decide +kernel
theorem dX9_areFit_83 : decode cX9_areFit 83 = .ok (.ifCond .ne 5, 3) := by decide +kernel
theorem dX9_areFit_86 : decode cX9_areFit 86 = .ok (.iconst 0, 1) := by decide +kernel
theorem dX9_areFit_87 : decode cX9_areFit 87 = .ok (.ireturn, 1) := by decide +kernel
theorem dX9_areFit_88 : decode cX9_areFit 88 = .ok (.iinc 3 1, 3) := by decide +kernel
theorem dX9_areFit_91 : decode cX9_areFit 91 = .ok (.goto (-40), 3) := by decide +kernel
theorem dX9_areFit_94 : decode cX9_areFit 94 = .ok (.iinc 2 1, 3) := by decide +kernel
theorem dX9_areFit_97 : decode cX9_areFit 97 = .ok (.goto (-95), 3) := by decide +kernel
theorem dX9_areFit_100 : decode cX9_areFit 100 = .ok (.iconst 1, 1) := by decide +kernel
theorem dX9_areFit_101 : decode cX9_areFit 101 = .ok (.ireturn, 1) := by decide +kernel
theorem dX9_size_0 : decode cX9_size 0 = .ok (.iconst 0, 1) := by decide +kernel
theorem dX9_size_1 : decode cX9_size 1 = .ok (.istore_n 1, 1) := by decide +kernel
theorem dX9_size_2 : decode cX9_size 2 = .ok (.iconst 0, 1) := by decide +kernel
theorem dX9_size_3 : decode cX9_size 3 = .ok (.istore_n 2, 1) := by decide +kernel
theorem dX9_size_4 : decode cX9_size 4 = .ok (.iload_n 2, 1) := by decide +kernel
theorem dX9_size_5 : decode cX9_size 5 = .ok (.bipush 8, 2) := by decide +kernel
theorem dX9_size_7 : decode cX9_size 7 = .ok (.if_icmp .ge 17, 3) := by decide +kernel
theorem dX9_size_10 : decode cX9_size 10 = .ok (.iload_n 1, 1) := by decide +kernel
theorem dX9_size_11 : decode cX9_size 11 = .ok (.iload_n 0, 1) := by decide +kernel
theorem dX9_size_12 : decode cX9_size 12 = .ok (.iload_n 2, 1) := by decide +kernel
theorem dX9_size_13 : decode cX9_size 13 = .ok (.ishr, 1) := by decide +kernel
theorem dX9_size_14 : decode cX9_size 14 = .ok (.iconst 1, 1) := by decide +kernel
theorem dX9_size_15 : decode cX9_size 15 = .ok (.iand, 1) := by decide +kernel
theorem dX9_size_16 : decode cX9_size 16 = .ok (.iadd, 1) := by decide +kernel
theorem dX9_size_17 : decode cX9_size 17 = .ok (.istore_n 1, 1) := by decide +kernel
theorem dX9_size_18 : decode cX9_size 18 = .ok (.iinc 2 1, 3) := by decide +kernel
theorem dX9_size_21 : decode cX9_size 21 = .ok (.goto (-17), 3) := by decide +kernel
theorem dX9_size_24 : decode cX9_size 24 = .ok (.iload_n 1, 1) := by decide +kernel
theorem dX9_size_25 : decode cX9_size 25 = .ok (.ireturn, 1) := by decide +kernel
theorem dX9_staying_0 : decode cX9_staying 0 = .ok (.iconst 0, 1) := by decide +kernel
theorem dX9_staying_1 : decode cX9_staying 1 = .ok (.istore_n 1, 1) := by decide +kernel
theorem dX9_staying_2 : decode cX9_staying 2 = .ok (.iconst 0, 1) := by decide +kernel
theorem dX9_staying_3 : decode cX9_staying 3 = .ok (.istore_n 2, 1) := by decide +kernel
theorem dX9_staying_4 : decode cX9_staying 4 = .ok (.iconst 1, 1) := by decide +kernel
theorem dX9_staying_5 : decode cX9_staying 5 = .ok (.istore_n 3, 1) := by decide +kernel
theorem dX9_staying_6 : decode cX9_staying 6 = .ok (.iload_n 3, 1) := by decide +kernel
theorem dX9_staying_7 : decode cX9_staying 7 = .ok (.iconst 1, 1) := by decide +kernel
theorem dX9_staying_8 : decode cX9_staying 8 = .ok (.aload_n 0, 1) := by decide +kernel
theorem dX9_staying_9 : decode cX9_staying 9 = .ok (.invokevirtual 42, 3) := by decide +kernel
theorem dX9_staying_12 : decode cX9_staying 12 = .ok (.ishl, 1) := by decide +kernel
theorem dX9_staying_13 : decode cX9_staying 13 = .ok (.if_icmp .ge 91, 3) := by decide +kernel
theorem dX9_staying_16 : decode cX9_staying 16 = .ok (.aload_n 0, 1) := by decide +kernel
theorem dX9_staying_17 : decode cX9_staying 17 = .ok (.iload_n 3, 1) := by decide +kernel
theorem dX9_staying_18 : decode cX9_staying 18 = .ok (.invokevirtual 206, 3) := by decide +kernel
theorem dX9_staying_21 : decode cX9_staying 21 = .ok (.ifCond .eq 77, 3) := by decide +kernel
theorem dX9_staying_24 : decode cX9_staying 24 = .ok (.iconst 0, 1) := by decide +kernel
theorem dX9_staying_25 : decode cX9_staying 25 = .ok (.istore 4, 2) := by decide +kernel
theorem dX9_staying_27 : decode cX9_staying 27 = .ok (.iconst 0, 1) := by decide +kernel
theorem dX9_staying_28 : decode cX9_staying 28 = .ok (.istore 5, 2) := by decide +kernel
theorem dX9_staying_30 : decode cX9_staying 30 = .ok (.iload 5, 2) := by decide +kernel
theorem dX9_staying_32 : decode cX9_staying 32 = .ok (.aload_n 0, 1) := by decide +kernel
theorem dX9_staying_33 : decode cX9_staying 33 = .ok (.invokevirtual 42, 3) := by decide +kernel
theorem dX9_staying_36 : decode cX9_staying 36 = .ok (.if_icmp .ge 34, 3) := by decide +kernel
theorem dX9_staying_39 : decode cX9_staying 39 = .ok (.iload 4, 2) := by decide +kernel
theorem dX9_staying_41 : decode cX9_staying 41 = .ok (.iload_n 3, 1) := by decide +kernel
theorem dX9_staying_42 : decode cX9_staying 42 = .ok (.iload 5, 2) := by decide +kernel
theorem dX9_staying_44 : decode cX9_staying 44 = .ok (.ishr, 1) := by decide +kernel
theorem dX9_staying_45 : decode cX9_staying 45 = .ok (.iconst 1, 1) := by decide +kernel
theorem dX9_staying_46 : decode cX9_staying 46 = .ok (.iand, 1) := by decide +kernel
theorem dX9_staying_47 : decode cX9_staying 47 = .ok (.iconst 1, 1) := by decide +kernel
theorem dX9_staying_48 : decode cX9_staying 48 = .ok (.if_icmp .ne 12, 3) := by decide +kernel
theorem dX9_staying_51 : decode cX9_staying 51 = .ok (.aload_n 0, 1) := by decide +kernel
theorem dX9_staying_52 : decode cX9_staying 52 = .ok (.iload 5, 2) := by decide +kernel
theorem dX9_staying_54 : decode cX9_staying 54 = .ok (.invokevirtual 149, 3) := by decide +kernel
theorem dX9_staying_57 : decode cX9_staying 57 = .ok (.goto 4, 3) := by decide +kernel
theorem dX9_staying_60 : decode cX9_staying 60 = .ok (.iconst 0, 1) := by decide +kernel
theorem dX9_staying_61 : decode cX9_staying 61 = .ok (.iadd, 1) := by decide +kernel
theorem dX9_staying_62 : decode cX9_staying 62 = .ok (.istore 4, 2) := by decide +kernel
theorem dX9_staying_64 : decode cX9_staying 64 = .ok (.iinc 5 1, 3) := by decide +kernel
theorem dX9_staying_67 : decode cX9_staying 67 = .ok (.goto (-37), 3) := by decide +kernel
theorem dX9_staying_70 : decode cX9_staying 70 = .ok (.iload 4, 2) := by decide +kernel
theorem dX9_staying_72 : decode cX9_staying 72 = .ok (.iload_n 2, 1) := by decide +kernel
theorem dX9_staying_73 : decode cX9_staying 73 = .ok (.if_icmp .gt 20, 3) := by decide +kernel
theorem dX9_staying_76 : decode cX9_staying 76 = .ok (.iload 4, 2) := by decide +kernel
theorem dX9_staying_78 : decode cX9_staying 78 = .ok (.iload_n 2, 1) := by decide +kernel
theorem dX9_staying_79 : decode cX9_staying 79 = .ok (.if_icmp .ne 19, 3) := by decide +kernel
theorem dX9_staying_82 : decode cX9_staying 82 = .ok (.iload_n 3, 1) := by decide +kernel
theorem dX9_staying_83 : decode cX9_staying 83 = .ok (.invokestatic 209, 3) := by decide +kernel
theorem dX9_staying_86 : decode cX9_staying 86 = .ok (.iload_n 1, 1) := by decide +kernel
theorem dX9_staying_87 : decode cX9_staying 87 = .ok (.invokestatic 209, 3) := by decide +kernel
theorem dX9_staying_90 : decode cX9_staying 90 = .ok (.if_icmp .le 8, 3) := by decide +kernel
theorem dX9_staying_93 : decode cX9_staying 93 = .ok (.iload_n 3, 1) := by decide +kernel
theorem dX9_staying_94 : decode cX9_staying 94 = .ok (.istore_n 1, 1) := by decide +kernel
theorem dX9_staying_95 : decode cX9_staying 95 = .ok (.iload 4, 2) := by decide +kernel
theorem dX9_staying_97 : decode cX9_staying 97 = .ok (.istore_n 2, 1) := by decide +kernel
theorem dX9_staying_98 : decode cX9_staying 98 = .ok (.iinc 3 1, 3) := by decide +kernel
theorem dX9_staying_101 : decode cX9_staying 101 = .ok (.goto (-95), 3) := by decide +kernel
theorem dX9_staying_104 : decode cX9_staying 104 = .ok (.iload_n 1, 1) := by decide +kernel
theorem dX9_staying_105 : decode cX9_staying 105 = .ok (.ireturn, 1) := by decide +kernel
theorem dX9_stays_0 : decode cX9_stays 0 = .ok (.aload_n 0, 1) := by decide +kernel
theorem dX9_stays_1 : decode cX9_stays 1 = .ok (.invokevirtual 212, 3) := by decide +kernel
theorem dX9_stays_4 : decode cX9_stays 4 = .ok (.ireturn, 1) := by decide +kernel
theorem dX9_nearest_0 : decode cX9_nearest 0 = .ok (.iconst (-1), 1) := by decide +kernel
theorem dX9_nearest_1 : decode cX9_nearest 1 = .ok (.istore 4, 2) := by decide +kernel
theorem dX9_nearest_3 : decode cX9_nearest 3 = .ok (.iconst 0, 1) := by decide +kernel
theorem dX9_nearest_4 : decode cX9_nearest 4 = .ok (.istore 5, 2) := by decide +kernel
theorem dX9_nearest_6 : decode cX9_nearest 6 = .ok (.iconst 0, 1) := by decide +kernel
theorem dX9_nearest_7 : decode cX9_nearest 7 = .ok (.istore 6, 2) := by decide +kernel
theorem dX9_nearest_9 : decode cX9_nearest 9 = .ok (.iload 6, 2) := by decide +kernel
theorem dX9_nearest_11 : decode cX9_nearest 11 = .ok (.sipush 256, 3) := by decide +kernel
theorem dX9_nearest_14 : decode cX9_nearest 14 = .ok (.if_icmp .ge 71, 3) := by decide +kernel
theorem dX9_nearest_17 : decode cX9_nearest 17 = .ok (.iload 6, 2) := by decide +kernel
theorem dX9_nearest_19 : decode cX9_nearest 19 = .ok (.bipush 16, 2) := by decide +kernel
theorem dX9_nearest_21 : decode cX9_nearest 21 = .ok (.irem, 1) := by decide +kernel
theorem dX9_nearest_22 : decode cX9_nearest 22 = .ok (.iload_n 2, 1) := by decide +kernel
theorem dX9_nearest_23 : decode cX9_nearest 23 = .ok (.isub, 1) := by decide +kernel
theorem dX9_nearest_24 : decode cX9_nearest 24 = .ok (.invokestatic 215, 3) := by decide +kernel
theorem dX9_nearest_27 : decode cX9_nearest 27 = .ok (.iload 6, 2) := by decide +kernel
theorem dX9_nearest_29 : decode cX9_nearest 29 = .ok (.bipush 16, 2) := by decide +kernel
theorem dX9_nearest_31 : decode cX9_nearest 31 = .ok (.idiv, 1) := by decide +kernel
theorem dX9_nearest_32 : decode cX9_nearest 32 = .ok (.iload_n 3, 1) := by decide +kernel
theorem dX9_nearest_33 : decode cX9_nearest 33 = .ok (.isub, 1) := by decide +kernel
theorem dX9_nearest_34 : decode cX9_nearest 34 = .ok (.invokestatic 215, 3) := by decide +kernel
theorem dX9_nearest_37 : decode cX9_nearest 37 = .ok (.iadd, 1) := by decide +kernel
theorem dX9_nearest_38 : decode cX9_nearest 38 = .ok (.istore 7, 2) := by decide +kernel
theorem dX9_nearest_40 : decode cX9_nearest 40 = .ok (.iload 4, 2) := by decide +kernel
theorem dX9_nearest_42 : decode cX9_nearest 42 = .ok (.iconst (-1), 1) := by decide +kernel
theorem dX9_nearest_43 : decode cX9_nearest 43 = .ok (.if_icmp .eq 10, 3) := by decide +kernel
theorem dX9_nearest_46 : decode cX9_nearest 46 = .ok (.iload 7, 2) := by decide +kernel
theorem dX9_nearest_48 : decode cX9_nearest 48 = .ok (.iload 5, 2) := by decide +kernel
theorem dX9_nearest_50 : decode cX9_nearest 50 = .ok (.if_icmp .ge 29, 3) := by decide +kernel
theorem dX9_nearest_53 : decode cX9_nearest 53 = .ok (.aload_n 0, 1) := by decide +kernel
theorem dX9_nearest_54 : decode cX9_nearest 54 = .ok (.iload_n 1, 1) := by decide +kernel
theorem dX9_nearest_55 : decode cX9_nearest 55 = .ok (.iload 6, 2) := by decide +kernel
theorem dX9_nearest_57 : decode cX9_nearest 57 = .ok (.bipush 16, 2) := by decide +kernel
theorem dX9_nearest_59 : decode cX9_nearest 59 = .ok (.irem, 1) := by decide +kernel
theorem dX9_nearest_60 : decode cX9_nearest 60 = .ok (.iload 6, 2) := by decide +kernel
theorem dX9_nearest_62 : decode cX9_nearest 62 = .ok (.bipush 16, 2) := by decide +kernel
theorem dX9_nearest_64 : decode cX9_nearest 64 = .ok (.idiv, 1) := by decide +kernel
theorem dX9_nearest_65 : decode cX9_nearest 65 = .ok (.invokevirtual 89, 3) := by decide +kernel
theorem dX9_nearest_68 : decode cX9_nearest 68 = .ok (.ifCond .eq 11, 3) := by decide +kernel
theorem dX9_nearest_71 : decode cX9_nearest 71 = .ok (.iload 6, 2) := by decide +kernel
theorem dX9_nearest_73 : decode cX9_nearest 73 = .ok (.istore 4, 2) := by decide +kernel
theorem dX9_nearest_75 : decode cX9_nearest 75 = .ok (.iload 7, 2) := by decide +kernel
theorem dX9_nearest_77 : decode cX9_nearest 77 = .ok (.istore 5, 2) := by decide +kernel
theorem dX9_nearest_79 : decode cX9_nearest 79 = .ok (.iinc 6 1, 3) := by decide +kernel
theorem dX9_nearest_82 : decode cX9_nearest 82 = .ok (.goto (-73), 3) := by decide +kernel
theorem dX9_nearest_85 : decode cX9_nearest 85 = .ok (.iload 4, 2) := by decide +kernel
theorem dX9_nearest_87 : decode cX9_nearest 87 = .ok (.ireturn, 1) := by decide +kernel
theorem dX9_tidies_0 : decode cX9_tidies 0 = .ok (.aload_n 0, 1) := by decide +kernel
theorem dX9_tidies_1 : decode cX9_tidies 1 = .ok (.invokevirtual 212, 3) := by decide +kernel
theorem dX9_tidies_4 : decode cX9_tidies 4 = .ok (.istore_n 1, 1) := by decide +kernel
theorem dX9_tidies_5 : decode cX9_tidies 5 = .ok (.aload_n 0, 1) := by decide +kernel
theorem dX9_tidies_6 : decode cX9_tidies 6 = .ok (.invokevirtual 111, 3) := by decide +kernel
theorem dX9_tidies_9 : decode cX9_tidies 9 = .ok (.iconst 0, 1) := by decide +kernel
theorem dX9_tidies_10 : decode cX9_tidies 10 = .ok (.istore_n 2, 1) := by decide +kernel
theorem dX9_tidies_11 : decode cX9_tidies 11 = .ok (.iload_n 2, 1) := by decide +kernel
theorem dX9_tidies_12 : decode cX9_tidies 12 = .ok (.aload_n 0, 1) := by decide +kernel
theorem dX9_tidies_13 : decode cX9_tidies 13 = .ok (.invokevirtual 42, 3) := by decide +kernel
theorem dX9_tidies_16 : decode cX9_tidies 16 = .ok (.if_icmp .ge 60, 3) := by decide +kernel
theorem dX9_tidies_19 : decode cX9_tidies 19 = .ok (.aload_n 0, 1) := by decide +kernel
theorem dX9_tidies_20 : decode cX9_tidies 20 = .ok (.getfield 22, 3) := by decide +kernel
theorem dX9_tidies_23 : decode cX9_tidies 23 = .ok (.iload_n 2, 1) := by decide +kernel
theorem dX9_tidies_24 : decode cX9_tidies 24 = .ok (.iconst (-1), 1) := by decide +kernel
theorem dX9_tidies_25 : decode cX9_tidies 25 = .ok (.iastore, 1) := by decide +kernel
theorem dX9_tidies_26 : decode cX9_tidies 26 = .ok (.aload_n 0, 1) := by decide +kernel
theorem dX9_tidies_27 : decode cX9_tidies 27 = .ok (.iload_n 2, 1) := by decide +kernel
theorem dX9_tidies_28 : decode cX9_tidies 28 = .ok (.invokevirtual 82, 3) := by decide +kernel
theorem dX9_tidies_31 : decode cX9_tidies 31 = .ok (.ifCond .eq 39, 3) := by decide +kernel
theorem dX9_tidies_34 : decode cX9_tidies 34 = .ok (.iload_n 1, 1) := by decide +kernel
theorem dX9_tidies_35 : decode cX9_tidies 35 = .ok (.iload_n 2, 1) := by decide +kernel
theorem dX9_tidies_36 : decode cX9_tidies 36 = .ok (.ishr, 1) := by decide +kernel
theorem dX9_tidies_37 : decode cX9_tidies 37 = .ok (.iconst 1, 1) := by decide +kernel
theorem dX9_tidies_38 : decode cX9_tidies 38 = .ok (.iand, 1) := by decide +kernel
theorem dX9_tidies_39 : decode cX9_tidies 39 = .ok (.ifCond .ne 31, 3) := by decide +kernel
theorem dX9_tidies_42 : decode cX9_tidies 42 = .ok (.aload_n 0, 1) := by decide +kernel
theorem dX9_tidies_43 : decode cX9_tidies 43 = .ok (.getfield 22, 3) := by decide +kernel
theorem dX9_tidies_46 : decode cX9_tidies 46 = .ok (.iload_n 2, 1) := by decide +kernel
theorem dX9_tidies_47 : decode cX9_tidies 47 = .ok (.bipush 16, 2) := by decide +kernel
theorem dX9_tidies_49 : decode cX9_tidies 49 = .ok (.aload_n 0, 1) := by decide +kernel
theorem dX9_tidies_50 : decode cX9_tidies 50 = .ok (.iload_n 2, 1) := by decide +kernel
theorem dX9_tidies_51 : decode cX9_tidies 51 = .ok (.iconst 5, 1) := by decide +kernel
theorem dX9_tidies_52 : decode cX9_tidies 52 = .ok (.invokevirtual 50, 3) := by decide +kernel
theorem dX9_tidies_55 : decode cX9_tidies 55 = .ok (.imul, 1) := by decide +kernel
theorem dX9_tidies_56 : decode cX9_tidies 56 = .ok (.aload_n 0, 1) := by decide +kernel
theorem dX9_tidies_57 : decode cX9_tidies 57 = .ok (.iload_n 2, 1) := by decide +kernel
theorem dX9_tidies_58 : decode cX9_tidies 58 = .ok (.iconst 4, 1) := by decide +kernel
theorem dX9_tidies_59 : decode cX9_tidies 59 = .ok (.invokevirtual 50, 3) := by decide +kernel
theorem dX9_tidies_62 : decode cX9_tidies 62 = .ok (.iadd, 1) := by decide +kernel
theorem dX9_tidies_63 : decode cX9_tidies 63 = .ok (.iastore, 1) := by decide +kernel
theorem dX9_tidies_64 : decode cX9_tidies 64 = .ok (.aload_n 0, 1) := by decide +kernel
theorem dX9_tidies_65 : decode cX9_tidies 65 = .ok (.iload_n 2, 1) := by decide +kernel
theorem dX9_tidies_66 : decode cX9_tidies 66 = .ok (.invokevirtual 181, 3) := by decide +kernel
theorem dX9_tidies_69 : decode cX9_tidies 69 = .ok (.istore_n 3, 1) := by decide +kernel
theorem dX9_tidies_70 : decode cX9_tidies 70 = .ok (.iinc 2 1, 3) := by decide +kernel
theorem dX9_tidies_73 : decode cX9_tidies 73 = .ok (.goto (-62), 3) := by decide +kernel
theorem dX9_tidies_76 : decode cX9_tidies 76 = .ok (.iconst 1, 1) := by decide +kernel
theorem dX9_tidies_77 : decode cX9_tidies 77 = .ok (.istore_n 2, 1) := by decide +kernel
theorem dX9_tidies_78 : decode cX9_tidies 78 = .ok (.iload_n 2, 1) := by decide +kernel
theorem dX9_tidies_79 : decode cX9_tidies 79 = .ok (.bipush 6, 2) := by decide +kernel
theorem dX9_tidies_81 : decode cX9_tidies 81 = .ok (.if_icmp .gt 109, 3) := by decide +kernel
theorem dX9_tidies_84 : decode cX9_tidies 84 = .ok (.iconst 0, 1) := by decide +kernel
theorem dX9_tidies_85 : decode cX9_tidies 85 = .ok (.istore_n 3, 1) := by decide +kernel
theorem dX9_tidies_86 : decode cX9_tidies 86 = .ok (.iload_n 3, 1) := by decide +kernel
theorem dX9_tidies_87 : decode cX9_tidies 87 = .ok (.aload_n 0, 1) := by decide +kernel
theorem dX9_tidies_88 : decode cX9_tidies 88 = .ok (.invokevirtual 42, 3) := by decide +kernel
theorem dX9_tidies_91 : decode cX9_tidies 91 = .ok (.if_icmp .ge 93, 3) := by decide +kernel
theorem dX9_tidies_94 : decode cX9_tidies 94 = .ok (.aload_n 0, 1) := by decide +kernel
theorem dX9_tidies_95 : decode cX9_tidies 95 = .ok (.iload_n 3, 1) := by decide +kernel
theorem dX9_tidies_96 : decode cX9_tidies 96 = .ok (.iconst 1, 1) := by decide +kernel
theorem dX9_tidies_97 : decode cX9_tidies 97 = .ok (.invokevirtual 50, 3) := by decide +kernel
theorem dX9_tidies_100 : decode cX9_tidies 100 = .ok (.iload_n 2, 1) := by decide +kernel
theorem dX9_tidies_101 : decode cX9_tidies 101 = .ok (.if_icmp .ne 17, 3) := by decide +kernel
theorem dX9_tidies_104 : decode cX9_tidies 104 = .ok (.aload_n 0, 1) := by decide +kernel
theorem dX9_tidies_105 : decode cX9_tidies 105 = .ok (.getfield 22, 3) := by decide +kernel
theorem dX9_tidies_108 : decode cX9_tidies 108 = .ok (.iload_n 3, 1) := by decide +kernel
theorem dX9_tidies_109 : decode cX9_tidies 109 = .ok (.iaload, 1) := by decide +kernel
theorem dX9_tidies_110 : decode cX9_tidies 110 = .ok (.iconst (-1), 1) := by decide +kernel
theorem dX9_tidies_111 : decode cX9_tidies 111 = .ok (.if_icmp .eq 7, 3) := by decide +kernel
theorem dX9_tidies_114 : decode cX9_tidies 114 = .ok (.iconst 1, 1) := by decide +kernel
theorem dX9_tidies_115 : decode cX9_tidies 115 = .ok (.goto 4, 3) := by decide +kernel
theorem dX9_tidies_118 : decode cX9_tidies 118 = .ok (.iconst 0, 1) := by decide +kernel
theorem dX9_tidies_119 : decode cX9_tidies 119 = .ok (.istore 4, 2) := by decide +kernel
theorem dX9_tidies_121 : decode cX9_tidies 121 = .ok (.iload 4, 2) := by decide +kernel
theorem dX9_tidies_123 : decode cX9_tidies 123 = .ok (.ifCond .eq 29, 3) := by decide +kernel
theorem dX9_tidies_126 : decode cX9_tidies 126 = .ok (.aload_n 0, 1) := by decide +kernel
theorem dX9_tidies_127 : decode cX9_tidies 127 = .ok (.iload_n 3, 1) := by decide +kernel
theorem dX9_tidies_128 : decode cX9_tidies 128 = .ok (.aload_n 0, 1) := by decide +kernel
theorem dX9_tidies_129 : decode cX9_tidies 129 = .ok (.getfield 22, 3) := by decide +kernel
theorem dX9_tidies_132 : decode cX9_tidies 132 = .ok (.iload_n 3, 1) := by decide +kernel
theorem dX9_tidies_133 : decode cX9_tidies 133 = .ok (.iaload, 1) := by decide +kernel
theorem dX9_tidies_134 : decode cX9_tidies 134 = .ok (.bipush 16, 2) := by decide +kernel
theorem dX9_tidies_136 : decode cX9_tidies 136 = .ok (.irem, 1) := by decide +kernel
theorem dX9_tidies_137 : decode cX9_tidies 137 = .ok (.aload_n 0, 1) := by decide +kernel
theorem dX9_tidies_138 : decode cX9_tidies 138 = .ok (.getfield 22, 3) := by decide +kernel
theorem dX9_tidies_141 : decode cX9_tidies 141 = .ok (.iload_n 3, 1) := by decide +kernel
theorem dX9_tidies_142 : decode cX9_tidies 142 = .ok (.iaload, 1) := by decide +kernel
theorem dX9_tidies_143 : decode cX9_tidies 143 = .ok (.bipush 16, 2) := by decide +kernel
theorem dX9_tidies_145 : decode cX9_tidies 145 = .ok (.idiv, 1) := by decide +kernel
theorem dX9_tidies_146 : decode cX9_tidies 146 = .ok (.invokevirtual 218, 3) := by decide +kernel
theorem dX9_tidies_149 : decode cX9_tidies 149 = .ok (.goto 4, 3) := by decide +kernel
theorem dX9_tidies_152 : decode cX9_tidies 152 = .ok (.iconst (-1), 1) := by decide +kernel
theorem dX9_tidies_153 : decode cX9_tidies 153 = .ok (.istore 5, 2) := by decide +kernel
theorem dX9_tidies_155 : decode cX9_tidies 155 = .ok (.iload 5, 2) := by decide +kernel
theorem dX9_tidies_157 : decode cX9_tidies 157 = .ok (.iconst (-1), 1) := by decide +kernel
theorem dX9_tidies_158 : decode cX9_tidies 158 = .ok (.if_icmp .eq 20, 3) := by decide +kernel
theorem dX9_tidies_161 : decode cX9_tidies 161 = .ok (.aload_n 0, 1) := by decide +kernel
theorem dX9_tidies_162 : decode cX9_tidies 162 = .ok (.iload_n 3, 1) := by decide +kernel
theorem dX9_tidies_163 : decode cX9_tidies 163 = .ok (.iload 5, 2) := by decide +kernel
theorem dX9_tidies_165 : decode cX9_tidies 165 = .ok (.bipush 16, 2) := by decide +kernel
theorem dX9_tidies_167 : decode cX9_tidies 167 = .ok (.irem, 1) := by decide +kernel
theorem dX9_tidies_168 : decode cX9_tidies 168 = .ok (.iload 5, 2) := by decide +kernel
theorem dX9_tidies_170 : decode cX9_tidies 170 = .ok (.bipush 16, 2) := by decide +kernel
theorem dX9_tidies_172 : decode cX9_tidies 172 = .ok (.idiv, 1) := by decide +kernel
theorem dX9_tidies_173 : decode cX9_tidies 173 = .ok (.invokevirtual 172, 3) := by decide +kernel
theorem dX9_tidies_176 : decode cX9_tidies 176 = .ok (.istore 6, 2) := by decide +kernel
theorem dX9_tidies_178 : decode cX9_tidies 178 = .ok (.iinc 3 1, 3) := by decide +kernel
theorem dX9_tidies_181 : decode cX9_tidies 181 = .ok (.goto (-95), 3) := by decide +kernel
theorem dX9_tidies_184 : decode cX9_tidies 184 = .ok (.iinc 2 1, 3) := by decide +kernel
theorem dX9_tidies_187 : decode cX9_tidies 187 = .ok (.goto (-109), 3) := by decide +kernel
theorem dX9_tidies_190 : decode cX9_tidies 190 = .ok (.iload_n 1, 1) := by decide +kernel
theorem dX9_tidies_191 : decode cX9_tidies 191 = .ok (.invokestatic 209, 3) := by decide +kernel
theorem dX9_tidies_194 : decode cX9_tidies 194 = .ok (.ireturn, 1) := by decide +kernel
theorem dX9_covers_0 : decode cX9_covers 0 = .ok (.aload_n 0, 1) := by decide +kernel
theorem dX9_covers_1 : decode cX9_covers 1 = .ok (.iload_n 1, 1) := by decide +kernel
theorem dX9_covers_2 : decode cX9_covers 2 = .ok (.invokevirtual 82, 3) := by decide +kernel
theorem dX9_covers_5 : decode cX9_covers 5 = .ok (.ifCond .eq 67, 3) := by decide +kernel
theorem dX9_covers_8 : decode cX9_covers 8 = .ok (.iload_n 2, 1) := by decide +kernel
theorem dX9_covers_9 : decode cX9_covers 9 = .ok (.i2l, 1) := by decide +kernel
theorem dX9_covers_10 : decode cX9_covers 10 = .ok (.aload_n 0, 1) := by decide +kernel
theorem dX9_covers_11 : decode cX9_covers 11 = .ok (.iload_n 1, 1) := by decide +kernel
theorem dX9_covers_12 : decode cX9_covers 12 = .ok (.iconst 4, 1) := by decide +kernel
theorem dX9_covers_13 : decode cX9_covers 13 = .ok (.invokevirtual 50, 3) := by decide +kernel
theorem dX9_covers_16 : decode cX9_covers 16 = .ok (.i2l, 1) := by decide +kernel
theorem dX9_covers_17 : decode cX9_covers 17 = .ok (.aload_n 0, 1) := by decide +kernel
theorem dX9_covers_18 : decode cX9_covers 18 = .ok (.iload_n 1, 1) := by decide +kernel
theorem dX9_covers_19 : decode cX9_covers 19 = .ok (.iconst 4, 1) := by decide +kernel
theorem dX9_covers_20 : decode cX9_covers 20 = .ok (.invokevirtual 50, 3) := by decide +kernel
theorem dX9_covers_23 : decode cX9_covers 23 = .ok (.aload_n 0, 1) := by decide +kernel
theorem dX9_covers_24 : decode cX9_covers 24 = .ok (.iload_n 1, 1) := by decide +kernel
theorem dX9_covers_25 : decode cX9_covers 25 = .ok (.invokevirtual 64, 3) := by decide +kernel
theorem dX9_covers_28 : decode cX9_covers 28 = .ok (.iadd, 1) := by decide +kernel
theorem dX9_covers_29 : decode cX9_covers 29 = .ok (.iconst 1, 1) := by decide +kernel
theorem dX9_covers_30 : decode cX9_covers 30 = .ok (.isub, 1) := by decide +kernel
theorem dX9_covers_31 : decode cX9_covers 31 = .ok (.i2l, 1) := by decide +kernel
theorem dX9_covers_32 : decode cX9_covers 32 = .ok (.invokestatic 46, 3) := by decide +kernel
theorem dX9_covers_35 : decode cX9_covers 35 = .ok (.ifCond .eq 37, 3) := by decide +kernel
theorem dX9_covers_38 : decode cX9_covers 38 = .ok (.iload_n 3, 1) := by decide +kernel
theorem dX9_covers_39 : decode cX9_covers 39 = .ok (.i2l, 1) := by decide +kernel
theorem dX9_covers_40 : decode cX9_covers 40 = .ok (.aload_n 0, 1) := by decide +kernel
theorem dX9_covers_41 : decode cX9_covers 41 = .ok (.iload_n 1, 1) := by decide +kernel
theorem dX9_covers_42 : decode cX9_covers 42 = .ok (.iconst 5, 1) := by decide +kernel
theorem dX9_covers_43 : decode cX9_covers 43 = .ok (.invokevirtual 50, 3) := by decide +kernel
theorem dX9_covers_46 : decode cX9_covers 46 = .ok (.i2l, 1) := by decide +kernel
theorem dX9_covers_47 : decode cX9_covers 47 = .ok (.aload_n 0, 1) := by decide +kernel
theorem dX9_covers_48 : decode cX9_covers 48 = .ok (.iload_n 1, 1) := by decide +kernel
theorem dX9_covers_49 : decode cX9_covers 49 = .ok (.iconst 5, 1) := by decide +kernel
theorem dX9_covers_50 : decode cX9_covers 50 = .ok (.invokevirtual 50, 3) := by decide +kernel
theorem dX9_covers_53 : decode cX9_covers 53 = .ok (.aload_n 0, 1) := by decide +kernel
theorem dX9_covers_54 : decode cX9_covers 54 = .ok (.iload_n 1, 1) := by decide +kernel
theorem dX9_covers_55 : decode cX9_covers 55 = .ok (.invokevirtual 68, 3) := by decide +kernel
theorem dX9_covers_58 : decode cX9_covers 58 = .ok (.iadd, 1) := by decide +kernel
theorem dX9_covers_59 : decode cX9_covers 59 = .ok (.iconst 1, 1) := by decide +kernel
theorem dX9_covers_60 : decode cX9_covers 60 = .ok (.isub, 1) := by decide +kernel
theorem dX9_covers_61 : decode cX9_covers 61 = .ok (.i2l, 1) := by decide +kernel
theorem dX9_covers_62 : decode cX9_covers 62 = .ok (.invokestatic 46, 3) := by decide +kernel
theorem dX9_covers_65 : decode cX9_covers 65 = .ok (.ifCond .eq 7, 3) := by decide +kernel
theorem dX9_covers_68 : decode cX9_covers 68 = .ok (.iconst 1, 1) := by decide +kernel
theorem dX9_covers_69 : decode cX9_covers 69 = .ok (.goto 4, 3) := by decide +kernel
theorem dX9_covers_72 : decode cX9_covers 72 = .ok (.iconst 0, 1) := by decide +kernel
theorem dX9_covers_73 : decode cX9_covers 73 = .ok (.ireturn, 1) := by decide +kernel
theorem dX9_covering_0 : decode cX9_covering 0 = .ok (.iconst 0, 1) := by decide +kernel
theorem dX9_covering_1 : decode cX9_covering 1 = .ok (.istore_n 3, 1) := by decide +kernel
theorem dX9_covering_2 : decode cX9_covering 2 = .ok (.iload_n 3, 1) := by decide +kernel
theorem dX9_covering_3 : decode cX9_covering 3 = .ok (.aload_n 0, 1) := by decide +kernel
theorem dX9_covering_4 : decode cX9_covering 4 = .ok (.invokevirtual 42, 3) := by decide +kernel
theorem dX9_covering_7 : decode cX9_covering 7 = .ok (.if_icmp .ge 21, 3) := by decide +kernel
theorem dX9_covering_10 : decode cX9_covering 10 = .ok (.aload_n 0, 1) := by decide +kernel
theorem dX9_covering_11 : decode cX9_covering 11 = .ok (.iload_n 3, 1) := by decide +kernel
theorem dX9_covering_12 : decode cX9_covering 12 = .ok (.iload_n 1, 1) := by decide +kernel
theorem dX9_covering_13 : decode cX9_covering 13 = .ok (.iload_n 2, 1) := by decide +kernel
theorem dX9_covering_14 : decode cX9_covering 14 = .ok (.invokevirtual 221, 3) := by decide +kernel
theorem dX9_covering_17 : decode cX9_covering 17 = .ok (.ifCond .eq 5, 3) := by decide +kernel
theorem dX9_covering_20 : decode cX9_covering 20 = .ok (.iload_n 3, 1) := by decide +kernel
theorem dX9_covering_21 : decode cX9_covering 21 = .ok (.ireturn, 1) := by decide +kernel
theorem dX9_covering_22 : decode cX9_covering 22 = .ok (.iinc 3 1, 3) := by decide +kernel
theorem dX9_covering_25 : decode cX9_covering 25 = .ok (.goto (-23), 3) := by decide +kernel
theorem dX9_covering_28 : decode cX9_covering 28 = .ok (.iconst (-1), 1) := by decide +kernel
theorem dX9_covering_29 : decode cX9_covering 29 = .ok (.ireturn, 1) := by decide +kernel
theorem dX9_isCell_0 : decode cX9_isCell 0 = .ok (.iload_n 1, 1) := by decide +kernel
theorem dX9_isCell_1 : decode cX9_isCell 1 = .ok (.i2l, 1) := by decide +kernel
theorem dX9_isCell_2 : decode cX9_isCell 2 = .ok (.lconst 0, 1) := by decide +kernel
theorem dX9_isCell_3 : decode cX9_isCell 3 = .ok (.aload_n 0, 1) := by decide +kernel
theorem dX9_isCell_4 : decode cX9_isCell 4 = .ok (.getfield 7, 3) := by decide +kernel
theorem dX9_isCell_7 : decode cX9_isCell 7 = .ok (.iconst 0, 1) := by decide +kernel
theorem dX9_isCell_8 : decode cX9_isCell 8 = .ok (.iaload, 1) := by decide +kernel
theorem dX9_isCell_9 : decode cX9_isCell 9 = .ok (.iconst 1, 1) := by decide +kernel
theorem dX9_isCell_10 : decode cX9_isCell 10 = .ok (.isub, 1) := by decide +kernel
theorem dX9_isCell_11 : decode cX9_isCell 11 = .ok (.i2l, 1) := by decide +kernel
theorem dX9_isCell_12 : decode cX9_isCell 12 = .ok (.invokestatic 46, 3) := by decide +kernel
theorem dX9_isCell_15 : decode cX9_isCell 15 = .ok (.ifCond .eq 25, 3) := by decide +kernel
theorem dX9_isCell_18 : decode cX9_isCell 18 = .ok (.iload_n 2, 1) := by decide +kernel
theorem dX9_isCell_19 : decode cX9_isCell 19 = .ok (.i2l, 1) := by decide +kernel
theorem dX9_isCell_20 : decode cX9_isCell 20 = .ok (.lconst 0, 1) := by decide +kernel
theorem dX9_isCell_21 : decode cX9_isCell 21 = .ok (.aload_n 0, 1) := by decide +kernel
theorem dX9_isCell_22 : decode cX9_isCell 22 = .ok (.getfield 7, 3) := by decide +kernel
theorem dX9_isCell_25 : decode cX9_isCell 25 = .ok (.iconst 1, 1) := by decide +kernel
theorem dX9_isCell_26 : decode cX9_isCell 26 = .ok (.iaload, 1) := by decide +kernel
theorem dX9_isCell_27 : decode cX9_isCell 27 = .ok (.iconst 1, 1) := by decide +kernel
theorem dX9_isCell_28 : decode cX9_isCell 28 = .ok (.isub, 1) := by decide +kernel
theorem dX9_isCell_29 : decode cX9_isCell 29 = .ok (.i2l, 1) := by decide +kernel
theorem dX9_isCell_30 : decode cX9_isCell 30 = .ok (.invokestatic 46, 3) := by decide +kernel
theorem dX9_isCell_33 : decode cX9_isCell 33 = .ok (.ifCond .eq 7, 3) := by decide +kernel
theorem dX9_isCell_36 : decode cX9_isCell 36 = .ok (.iconst 1, 1) := by decide +kernel
theorem dX9_isCell_37 : decode cX9_isCell 37 = .ok (.goto 4, 3) := by decide +kernel
theorem dX9_isCell_40 : decode cX9_isCell 40 = .ok (.iconst 0, 1) := by decide +kernel
theorem dX9_isCell_41 : decode cX9_isCell 41 = .ok (.ireturn, 1) := by decide +kernel
theorem dX9_at_0 : decode cX9_at 0 = .ok (.aload_n 0, 1) := by decide +kernel
theorem dX9_at_1 : decode cX9_at 1 = .ok (.iload_n 1, 1) := by decide +kernel
theorem dX9_at_2 : decode cX9_at 2 = .ok (.iload_n 2, 1) := by decide +kernel
theorem dX9_at_3 : decode cX9_at 3 = .ok (.invokevirtual 224, 3) := by decide +kernel
theorem dX9_at_6 : decode cX9_at 6 = .ok (.ifCond .eq 12, 3) := by decide +kernel
theorem dX9_at_9 : decode cX9_at 9 = .ok (.aload_n 0, 1) := by decide +kernel
theorem dX9_at_10 : decode cX9_at 10 = .ok (.iload_n 1, 1) := by decide +kernel
theorem dX9_at_11 : decode cX9_at 11 = .ok (.iload_n 2, 1) := by decide +kernel
theorem dX9_at_12 : decode cX9_at 12 = .ok (.invokevirtual 227, 3) := by decide +kernel
theorem dX9_at_15 : decode cX9_at 15 = .ok (.goto 9, 3) := by decide +kernel
theorem dX9_at_18 : decode cX9_at 18 = .ok (.aload_n 0, 1) := by decide +kernel
theorem dX9_at_19 : decode cX9_at 19 = .ok (.bipush (-2), 2) := by decide +kernel
theorem dX9_at_21 : decode cX9_at 21 = .ok (.invokevirtual 101, 3) := by decide +kernel
theorem dX9_at_24 : decode cX9_at 24 = .ok (.ireturn, 1) := by decide +kernel
theorem dX9_laysWhite_0 : decode cX9_laysWhite 0 = .ok (.iconst 0, 1) := by decide +kernel
theorem dX9_laysWhite_1 : decode cX9_laysWhite 1 = .ok (.istore_n 1, 1) := by decide +kernel
theorem dX9_laysWhite_2 : decode cX9_laysWhite 2 = .ok (.iconst 0, 1) := by decide +kernel
theorem dX9_laysWhite_3 : decode cX9_laysWhite 3 = .ok (.istore_n 2, 1) := by decide +kernel
theorem dX9_laysWhite_4 : decode cX9_laysWhite 4 = .ok (.iload_n 2, 1) := by decide +kernel
theorem dX9_laysWhite_5 : decode cX9_laysWhite 5 = .ok (.sipush 256, 3) := by decide +kernel
theorem dX9_laysWhite_8 : decode cX9_laysWhite 8 = .ok (.if_icmp .ge 68, 3) := by decide +kernel
theorem dX9_laysWhite_11 : decode cX9_laysWhite 11 = .ok (.aload_n 0, 1) := by decide +kernel
theorem dX9_laysWhite_12 : decode cX9_laysWhite 12 = .ok (.getfield 25, 3) := by decide +kernel
theorem dX9_laysWhite_15 : decode cX9_laysWhite 15 = .ok (.iload_n 2, 1) := by decide +kernel
theorem dX9_laysWhite_16 : decode cX9_laysWhite 16 = .ok (.aload_n 0, 1) := by decide +kernel
theorem dX9_laysWhite_17 : decode cX9_laysWhite 17 = .ok (.iload_n 2, 1) := by decide +kernel
theorem dX9_laysWhite_18 : decode cX9_laysWhite 18 = .ok (.bipush 16, 2) := by decide +kernel
theorem dX9_laysWhite_20 : decode cX9_laysWhite 20 = .ok (.irem, 1) := by decide +kernel
theorem dX9_laysWhite_21 : decode cX9_laysWhite 21 = .ok (.iload_n 2, 1) := by decide +kernel
theorem dX9_laysWhite_22 : decode cX9_laysWhite 22 = .ok (.bipush 16, 2) := by decide +kernel
theorem dX9_laysWhite_24 : decode cX9_laysWhite 24 = .ok (.idiv, 1) := by decide +kernel
theorem dX9_laysWhite_25 : decode cX9_laysWhite 25 = .ok (.invokevirtual 224, 3) := by decide +kernel
theorem dX9_laysWhite_28 : decode cX9_laysWhite 28 = .ok (.ifCond .eq 23, 3) := by decide +kernel
theorem dX9_laysWhite_31 : decode cX9_laysWhite 31 = .ok (.aload_n 0, 1) := by decide +kernel
theorem dX9_laysWhite_32 : decode cX9_laysWhite 32 = .ok (.iload_n 2, 1) := by decide +kernel
theorem dX9_laysWhite_33 : decode cX9_laysWhite 33 = .ok (.bipush 16, 2) := by decide +kernel
theorem dX9_laysWhite_35 : decode cX9_laysWhite 35 = .ok (.irem, 1) := by decide +kernel
theorem dX9_laysWhite_36 : decode cX9_laysWhite 36 = .ok (.iload_n 2, 1) := by decide +kernel
theorem dX9_laysWhite_37 : decode cX9_laysWhite 37 = .ok (.bipush 16, 2) := by decide +kernel
theorem dX9_laysWhite_39 : decode cX9_laysWhite 39 = .ok (.idiv, 1) := by decide +kernel
theorem dX9_laysWhite_40 : decode cX9_laysWhite 40 = .ok (.invokevirtual 227, 3) := by decide +kernel
theorem dX9_laysWhite_43 : decode cX9_laysWhite 43 = .ok (.iconst (-1), 1) := by decide +kernel
theorem dX9_laysWhite_44 : decode cX9_laysWhite 44 = .ok (.if_icmp .ne 7, 3) := by decide +kernel
theorem dX9_laysWhite_47 : decode cX9_laysWhite 47 = .ok (.iconst 1, 1) := by decide +kernel
theorem dX9_laysWhite_48 : decode cX9_laysWhite 48 = .ok (.goto 4, 3) := by decide +kernel
theorem dX9_laysWhite_51 : decode cX9_laysWhite 51 = .ok (.iconst 0, 1) := by decide +kernel
theorem dX9_laysWhite_52 : decode cX9_laysWhite 52 = .ok (.bastore, 1) := by decide +kernel
theorem dX9_laysWhite_53 : decode cX9_laysWhite 53 = .ok (.iload_n 1, 1) := by decide +kernel
theorem dX9_laysWhite_54 : decode cX9_laysWhite 54 = .ok (.aload_n 0, 1) := by decide +kernel
theorem dX9_laysWhite_55 : decode cX9_laysWhite 55 = .ok (.getfield 25, 3) := by decide +kernel
theorem dX9_laysWhite_58 : decode cX9_laysWhite 58 = .ok (.iload_n 2, 1) := by decide +kernel
theorem dX9_laysWhite_59 : decode cX9_laysWhite 59 = .ok (.baload, 1) := by decide +kernel
theorem dX9_laysWhite_60 : decode cX9_laysWhite 60 = .ok (.ifCond .eq 7, 3) := by decide +kernel
theorem dX9_laysWhite_63 : decode cX9_laysWhite 63 = .ok (.iconst 1, 1) := by decide +kernel
theorem dX9_laysWhite_64 : decode cX9_laysWhite 64 = .ok (.goto 4, 3) := by decide +kernel
theorem dX9_laysWhite_67 : decode cX9_laysWhite 67 = .ok (.iconst 0, 1) := by decide +kernel
theorem dX9_laysWhite_68 : decode cX9_laysWhite 68 = .ok (.iadd, 1) := by decide +kernel
theorem dX9_laysWhite_69 : decode cX9_laysWhite 69 = .ok (.istore_n 1, 1) := by decide +kernel
theorem dX9_laysWhite_70 : decode cX9_laysWhite 70 = .ok (.iinc 2 1, 3) := by decide +kernel
theorem dX9_laysWhite_73 : decode cX9_laysWhite 73 = .ok (.goto (-69), 3) := by decide +kernel
theorem dX9_laysWhite_76 : decode cX9_laysWhite 76 = .ok (.iload_n 1, 1) := by decide +kernel
theorem dX9_laysWhite_77 : decode cX9_laysWhite 77 = .ok (.ireturn, 1) := by decide +kernel
theorem dX9_findsBlock_0 : decode cX9_findsBlock 0 = .ok (.aload_n 0, 1) := by decide +kernel
theorem dX9_findsBlock_1 : decode cX9_findsBlock 1 = .ok (.iconst 0, 1) := by decide +kernel
theorem dX9_findsBlock_2 : decode cX9_findsBlock 2 = .ok (.putfield 230, 3) := by decide +kernel
theorem dX9_findsBlock_5 : decode cX9_findsBlock 5 = .ok (.aload_n 0, 1) := by decide +kernel
theorem dX9_findsBlock_6 : decode cX9_findsBlock 6 = .ok (.iconst (-1), 1) := by decide +kernel
theorem dX9_findsBlock_7 : decode cX9_findsBlock 7 = .ok (.putfield 233, 3) := by decide +kernel
theorem dX9_findsBlock_10 : decode cX9_findsBlock 10 = .ok (.aload_n 0, 1) := by decide +kernel
theorem dX9_findsBlock_11 : decode cX9_findsBlock 11 = .ok (.iconst (-1), 1) := by decide +kernel
theorem dX9_findsBlock_12 : decode cX9_findsBlock 12 = .ok (.putfield 236, 3) := by decide +kernel
theorem dX9_findsBlock_15 : decode cX9_findsBlock 15 = .ok (.iconst 0, 1) := by decide +kernel
theorem dX9_findsBlock_16 : decode cX9_findsBlock 16 = .ok (.istore_n 1, 1) := by decide +kernel
theorem dX9_findsBlock_17 : decode cX9_findsBlock 17 = .ok (.iload_n 1, 1) := by decide +kernel
theorem dX9_findsBlock_18 : decode cX9_findsBlock 18 = .ok (.sipush 256, 3) := by decide +kernel
theorem dX9_findsBlock_21 : decode cX9_findsBlock 21 = .ok (.if_icmp .ge 144, 3) := by decide +kernel
theorem dX9_findsBlock_24 : decode cX9_findsBlock 24 = .ok (.bipush 16, 2) := by decide +kernel
theorem dX9_findsBlock_26 : decode cX9_findsBlock 26 = .ok (.iload_n 1, 1) := by decide +kernel
theorem dX9_findsBlock_27 : decode cX9_findsBlock 27 = .ok (.bipush 16, 2) := by decide +kernel
theorem dX9_findsBlock_29 : decode cX9_findsBlock 29 = .ok (.irem, 1) := by decide +kernel
theorem dX9_findsBlock_30 : decode cX9_findsBlock 30 = .ok (.isub, 1) := by decide +kernel
theorem dX9_findsBlock_31 : decode cX9_findsBlock 31 = .ok (.istore_n 2, 1) := by decide +kernel
theorem dX9_findsBlock_32 : decode cX9_findsBlock 32 = .ok (.iload_n 1, 1) := by decide +kernel
theorem dX9_findsBlock_33 : decode cX9_findsBlock 33 = .ok (.istore_n 3, 1) := by decide +kernel
theorem dX9_findsBlock_34 : decode cX9_findsBlock 34 = .ok (.iload_n 3, 1) := by decide +kernel
theorem dX9_findsBlock_35 : decode cX9_findsBlock 35 = .ok (.sipush 256, 3) := by decide +kernel
theorem dX9_findsBlock_38 : decode cX9_findsBlock 38 = .ok (.if_icmp .ge 121, 3) := by decide +kernel
theorem dX9_findsBlock_41 : decode cX9_findsBlock 41 = .ok (.iconst 0, 1) := by decide +kernel
theorem dX9_findsBlock_42 : decode cX9_findsBlock 42 = .ok (.istore 4, 2) := by decide +kernel
theorem dX9_findsBlock_44 : decode cX9_findsBlock 44 = .ok (.iload 4, 2) := by decide +kernel
theorem dX9_findsBlock_46 : decode cX9_findsBlock 46 = .ok (.iload_n 2, 1) := by decide +kernel
theorem dX9_findsBlock_47 : decode cX9_findsBlock 47 = .ok (.if_icmp .ge 21, 3) := by decide +kernel
theorem dX9_findsBlock_50 : decode cX9_findsBlock 50 = .ok (.aload_n 0, 1) := by decide +kernel
theorem dX9_findsBlock_51 : decode cX9_findsBlock 51 = .ok (.getfield 25, 3) := by decide +kernel
theorem dX9_findsBlock_54 : decode cX9_findsBlock 54 = .ok (.iload_n 3, 1) := by decide +kernel
theorem dX9_findsBlock_55 : decode cX9_findsBlock 55 = .ok (.iload 4, 2) := by decide +kernel
theorem dX9_findsBlock_57 : decode cX9_findsBlock 57 = .ok (.iadd, 1) := by decide +kernel
theorem dX9_findsBlock_58 : decode cX9_findsBlock 58 = .ok (.baload, 1) := by decide +kernel
theorem dX9_findsBlock_59 : decode cX9_findsBlock 59 = .ok (.ifCond .eq 9, 3) := by decide +kernel
theorem dX9_findsBlock_62 : decode cX9_findsBlock 62 = .ok (.iinc 4 1, 3) := by decide +kernel
theorem dX9_findsBlock_65 : decode cX9_findsBlock 65 = .ok (.goto (-21), 3) := by decide +kernel
theorem dX9_findsBlock_68 : decode cX9_findsBlock 68 = .ok (.iload 4, 2) := by decide +kernel
theorem dX9_findsBlock_70 : decode cX9_findsBlock 70 = .ok (.istore_n 2, 1) := by decide +kernel
theorem dX9_findsBlock_71 : decode cX9_findsBlock 71 = .ok (.iload_n 3, 1) := by decide +kernel
theorem dX9_findsBlock_72 : decode cX9_findsBlock 72 = .ok (.iload_n 1, 1) := by decide +kernel
theorem dX9_findsBlock_73 : decode cX9_findsBlock 73 = .ok (.isub, 1) := by decide +kernel
theorem dX9_findsBlock_74 : decode cX9_findsBlock 74 = .ok (.bipush 16, 2) := by decide +kernel
theorem dX9_findsBlock_76 : decode cX9_findsBlock 76 = .ok (.idiv, 1) := by decide +kernel
theorem dX9_findsBlock_77 : decode cX9_findsBlock 77 = .ok (.iconst 1, 1) := by decide +kernel
theorem dX9_findsBlock_78 : decode cX9_findsBlock 78 = .ok (.iadd, 1) := by decide +kernel
theorem dX9_findsBlock_79 : decode cX9_findsBlock 79 = .ok (.istore 5, 2) := by decide +kernel
theorem dX9_findsBlock_81 : decode cX9_findsBlock 81 = .ok (.iload_n 2, 1) := by decide +kernel
theorem dX9_findsBlock_82 : decode cX9_findsBlock 82 = .ok (.iload 5, 2) := by decide +kernel
theorem dX9_findsBlock_84 : decode cX9_findsBlock 84 = .ok (.imul, 1) := by decide +kernel
theorem dX9_findsBlock_85 : decode cX9_findsBlock 85 = .ok (.aload_n 0, 1) := by decide +kernel
theorem dX9_findsBlock_86 : decode cX9_findsBlock 86 = .ok (.getfield 230, 3) := by decide +kernel
theorem dX9_findsBlock_89 : decode cX9_findsBlock 89 = .ok (.if_icmp .gt 30, 3) := by decide +kernel
theorem dX9_findsBlock_92 : decode cX9_findsBlock 92 = .ok (.iload_n 2, 1) := by decide +kernel
theorem dX9_findsBlock_93 : decode cX9_findsBlock 93 = .ok (.iload 5, 2) := by decide +kernel
theorem dX9_findsBlock_95 : decode cX9_findsBlock 95 = .ok (.imul, 1) := by decide +kernel
theorem dX9_findsBlock_96 : decode cX9_findsBlock 96 = .ok (.aload_n 0, 1) := by decide +kernel
theorem dX9_findsBlock_97 : decode cX9_findsBlock 97 = .ok (.getfield 230, 3) := by decide +kernel
theorem dX9_findsBlock_100 : decode cX9_findsBlock 100 = .ok (.if_icmp .ne 23, 3) := by decide +kernel
theorem dX9_findsBlock_103 : decode cX9_findsBlock 103 = .ok (.iload_n 1, 1) := by decide +kernel
theorem dX9_findsBlock_104 : decode cX9_findsBlock 104 = .ok (.aload_n 0, 1) := by decide +kernel
theorem dX9_findsBlock_105 : decode cX9_findsBlock 105 = .ok (.getfield 233, 3) := by decide +kernel
theorem dX9_findsBlock_108 : decode cX9_findsBlock 108 = .ok (.if_icmp .ne 15, 3) := by decide +kernel
theorem dX9_findsBlock_111 : decode cX9_findsBlock 111 = .ok (.iload_n 2, 1) := by decide +kernel
theorem dX9_findsBlock_112 : decode cX9_findsBlock 112 = .ok (.aload_n 0, 1) := by decide +kernel
theorem dX9_findsBlock_113 : decode cX9_findsBlock 113 = .ok (.getfield 236, 3) := by decide +kernel
theorem dX9_findsBlock_116 : decode cX9_findsBlock 116 = .ok (.if_icmp .le 7, 3) := by decide +kernel
theorem dX9_findsBlock_119 : decode cX9_findsBlock 119 = .ok (.iconst 1, 1) := by decide +kernel
theorem dX9_findsBlock_120 : decode cX9_findsBlock 120 = .ok (.goto 4, 3) := by decide +kernel
theorem dX9_findsBlock_123 : decode cX9_findsBlock 123 = .ok (.iconst 0, 1) := by decide +kernel
theorem dX9_findsBlock_124 : decode cX9_findsBlock 124 = .ok (.istore 6, 2) := by decide +kernel
theorem dX9_findsBlock_126 : decode cX9_findsBlock 126 = .ok (.iload_n 2, 1) := by decide +kernel
theorem dX9_findsBlock_127 : decode cX9_findsBlock 127 = .ok (.ifCond .le 26, 3) := by decide +kernel
theorem dX9_findsBlock_130 : decode cX9_findsBlock 130 = .ok (.iload 6, 2) := by decide +kernel
theorem dX9_findsBlock_132 : decode cX9_findsBlock 132 = .ok (.ifCond .eq 21, 3) := by decide +kernel
theorem dX9_findsBlock_135 : decode cX9_findsBlock 135 = .ok (.aload_n 0, 1) := by decide +kernel
theorem dX9_findsBlock_136 : decode cX9_findsBlock 136 = .ok (.iload_n 2, 1) := by decide +kernel
theorem dX9_findsBlock_137 : decode cX9_findsBlock 137 = .ok (.iload 5, 2) := by decide +kernel
theorem dX9_findsBlock_139 : decode cX9_findsBlock 139 = .ok (.imul, 1) := by decide +kernel
theorem dX9_findsBlock_140 : decode cX9_findsBlock 140 = .ok (.putfield 230, 3) := by decide +kernel
theorem dX9_findsBlock_143 : decode cX9_findsBlock 143 = .ok (.aload_n 0, 1) := by decide +kernel
theorem dX9_findsBlock_144 : decode cX9_findsBlock 144 = .ok (.iload_n 1, 1) := by decide +kernel
theorem dX9_findsBlock_145 : decode cX9_findsBlock 145 = .ok (.putfield 233, 3) := by decide +kernel
theorem dX9_findsBlock_148 : decode cX9_findsBlock 148 = .ok (.aload_n 0, 1) := by decide +kernel
theorem dX9_findsBlock_149 : decode cX9_findsBlock 149 = .ok (.iload_n 2, 1) := by decide +kernel
theorem dX9_findsBlock_150 : decode cX9_findsBlock 150 = .ok (.putfield 236, 3) := by decide +kernel
theorem dX9_findsBlock_153 : decode cX9_findsBlock 153 = .ok (.iinc 3 16, 3) := by decide +kernel
theorem dX9_findsBlock_156 : decode cX9_findsBlock 156 = .ok (.goto (-122), 3) := by decide +kernel
theorem dX9_findsBlock_159 : decode cX9_findsBlock 159 = .ok (.iinc 1 1, 3) := by decide +kernel
theorem dX9_findsBlock_162 : decode cX9_findsBlock 162 = .ok (.goto (-145), 3) := by decide +kernel
theorem dX9_findsBlock_165 : decode cX9_findsBlock 165 = .ok (.return_, 1) := by decide +kernel
theorem dX9_heapOf_0 : decode cX9_heapOf 0 = .ok (.aload_n 0, 1) := by decide +kernel
theorem dX9_heapOf_1 : decode cX9_heapOf 1 = .ok (.getfield 29, 3) := by decide +kernel
theorem dX9_heapOf_4 : decode cX9_heapOf 4 = .ok (.iload_n 1, 1) := by decide +kernel
theorem dX9_heapOf_5 : decode cX9_heapOf 5 = .ok (.iaload, 1) := by decide +kernel
theorem dX9_heapOf_6 : decode cX9_heapOf 6 = .ok (.istore_n 2, 1) := by decide +kernel
theorem dX9_heapOf_7 : decode cX9_heapOf 7 = .ok (.iload_n 1, 1) := by decide +kernel
theorem dX9_heapOf_8 : decode cX9_heapOf 8 = .ok (.bipush 16, 2) := by decide +kernel
theorem dX9_heapOf_10 : decode cX9_heapOf 10 = .ok (.irem, 1) := by decide +kernel
theorem dX9_heapOf_11 : decode cX9_heapOf 11 = .ok (.istore_n 3, 1) := by decide +kernel
theorem dX9_heapOf_12 : decode cX9_heapOf 12 = .ok (.iload_n 3, 1) := by decide +kernel
theorem dX9_heapOf_13 : decode cX9_heapOf 13 = .ok (.ifCond .le 37, 3) := by decide +kernel
theorem dX9_heapOf_16 : decode cX9_heapOf 16 = .ok (.aload_n 0, 1) := by decide +kernel
theorem dX9_heapOf_17 : decode cX9_heapOf 17 = .ok (.getfield 25, 3) := by decide +kernel
theorem dX9_heapOf_20 : decode cX9_heapOf 20 = .ok (.iload_n 1, 1) := by decide +kernel
theorem dX9_heapOf_21 : decode cX9_heapOf 21 = .ok (.iconst 1, 1) := by decide +kernel
theorem dX9_heapOf_22 : decode cX9_heapOf 22 = .ok (.isub, 1) := by decide +kernel
theorem dX9_heapOf_23 : decode cX9_heapOf 23 = .ok (.baload, 1) := by decide +kernel
theorem dX9_heapOf_24 : decode cX9_heapOf 24 = .ok (.ifCond .eq 26, 3) := by decide +kernel
theorem dX9_heapOf_27 : decode cX9_heapOf 27 = .ok (.aload_n 0, 1) := by decide +kernel
theorem dX9_heapOf_28 : decode cX9_heapOf 28 = .ok (.getfield 29, 3) := by decide +kernel
theorem dX9_heapOf_31 : decode cX9_heapOf 31 = .ok (.iload_n 1, 1) := by decide +kernel
theorem dX9_heapOf_32 : decode cX9_heapOf 32 = .ok (.iconst 1, 1) := by decide +kernel
theorem dX9_heapOf_33 : decode cX9_heapOf 33 = .ok (.isub, 1) := by decide +kernel
theorem dX9_heapOf_34 : decode cX9_heapOf 34 = .ok (.iaload, 1) := by decide +kernel
theorem dX9_heapOf_35 : decode cX9_heapOf 35 = .ok (.iload_n 2, 1) := by decide +kernel
theorem dX9_heapOf_36 : decode cX9_heapOf 36 = .ok (.if_icmp .ge 14, 3) := by decide +kernel
theorem dX9_heapOf_39 : decode cX9_heapOf 39 = .ok (.aload_n 0, 1) := by decide +kernel
theorem dX9_heapOf_40 : decode cX9_heapOf 40 = .ok (.getfield 29, 3) := by decide +kernel
theorem dX9_heapOf_43 : decode cX9_heapOf 43 = .ok (.iload_n 1, 1) := by decide +kernel
theorem dX9_heapOf_44 : decode cX9_heapOf 44 = .ok (.iconst 1, 1) := by decide +kernel
theorem dX9_heapOf_45 : decode cX9_heapOf 45 = .ok (.isub, 1) := by decide +kernel
theorem dX9_heapOf_46 : decode cX9_heapOf 46 = .ok (.iaload, 1) := by decide +kernel
theorem dX9_heapOf_47 : decode cX9_heapOf 47 = .ok (.goto 4, 3) := by decide +kernel
theorem dX9_heapOf_50 : decode cX9_heapOf 50 = .ok (.iload_n 2, 1) := by decide +kernel
theorem dX9_heapOf_51 : decode cX9_heapOf 51 = .ok (.istore_n 2, 1) := by decide +kernel
theorem dX9_heapOf_52 : decode cX9_heapOf 52 = .ok (.iload_n 3, 1) := by decide +kernel
theorem dX9_heapOf_53 : decode cX9_heapOf 53 = .ok (.bipush 15, 2) := by decide +kernel
theorem dX9_heapOf_55 : decode cX9_heapOf 55 = .ok (.if_icmp .ge 37, 3) := by decide +kernel
theorem dX9_heapOf_58 : decode cX9_heapOf 58 = .ok (.aload_n 0, 1) := by decide +kernel
theorem dX9_heapOf_59 : decode cX9_heapOf 59 = .ok (.getfield 25, 3) := by decide +kernel
theorem dX9_heapOf_62 : decode cX9_heapOf 62 = .ok (.iload_n 1, 1) := by decide +kernel
theorem dX9_heapOf_63 : decode cX9_heapOf 63 = .ok (.iconst 1, 1) := by decide +kernel
theorem dX9_heapOf_64 : decode cX9_heapOf 64 = .ok (.iadd, 1) := by decide +kernel
theorem dX9_heapOf_65 : decode cX9_heapOf 65 = .ok (.baload, 1) := by decide +kernel
theorem dX9_heapOf_66 : decode cX9_heapOf 66 = .ok (.ifCond .eq 26, 3) := by decide +kernel
theorem dX9_heapOf_69 : decode cX9_heapOf 69 = .ok (.aload_n 0, 1) := by decide +kernel
theorem dX9_heapOf_70 : decode cX9_heapOf 70 = .ok (.getfield 29, 3) := by decide +kernel
theorem dX9_heapOf_73 : decode cX9_heapOf 73 = .ok (.iload_n 1, 1) := by decide +kernel
theorem dX9_heapOf_74 : decode cX9_heapOf 74 = .ok (.iconst 1, 1) := by decide +kernel
theorem dX9_heapOf_75 : decode cX9_heapOf 75 = .ok (.iadd, 1) := by decide +kernel
theorem dX9_heapOf_76 : decode cX9_heapOf 76 = .ok (.iaload, 1) := by decide +kernel
theorem dX9_heapOf_77 : decode cX9_heapOf 77 = .ok (.iload_n 2, 1) := by decide +kernel
theorem dX9_heapOf_78 : decode cX9_heapOf 78 = .ok (.if_icmp .ge 14, 3) := by decide +kernel
theorem dX9_heapOf_81 : decode cX9_heapOf 81 = .ok (.aload_n 0, 1) := by decide +kernel
theorem dX9_heapOf_82 : decode cX9_heapOf 82 = .ok (.getfield 29, 3) := by decide +kernel
theorem dX9_heapOf_85 : decode cX9_heapOf 85 = .ok (.iload_n 1, 1) := by decide +kernel
theorem dX9_heapOf_86 : decode cX9_heapOf 86 = .ok (.iconst 1, 1) := by decide +kernel
theorem dX9_heapOf_87 : decode cX9_heapOf 87 = .ok (.iadd, 1) := by decide +kernel
theorem dX9_heapOf_88 : decode cX9_heapOf 88 = .ok (.iaload, 1) := by decide +kernel
theorem dX9_heapOf_89 : decode cX9_heapOf 89 = .ok (.goto 4, 3) := by decide +kernel
theorem dX9_heapOf_92 : decode cX9_heapOf 92 = .ok (.iload_n 2, 1) := by decide +kernel
theorem dX9_heapOf_93 : decode cX9_heapOf 93 = .ok (.istore_n 2, 1) := by decide +kernel
theorem dX9_heapOf_94 : decode cX9_heapOf 94 = .ok (.iload_n 1, 1) := by decide +kernel
theorem dX9_heapOf_95 : decode cX9_heapOf 95 = .ok (.bipush 16, 2) := by decide +kernel
theorem dX9_heapOf_97 : decode cX9_heapOf 97 = .ok (.if_icmp .lt 40, 3) := by decide +kernel
theorem dX9_heapOf_100 : decode cX9_heapOf 100 = .ok (.aload_n 0, 1) := by decide +kernel
theorem dX9_heapOf_101 : decode cX9_heapOf 101 = .ok (.getfield 25, 3) := by decide +kernel
theorem dX9_heapOf_104 : decode cX9_heapOf 104 = .ok (.iload_n 1, 1) := by decide +kernel
theorem dX9_heapOf_105 : decode cX9_heapOf 105 = .ok (.bipush 16, 2) := by decide +kernel
theorem dX9_heapOf_107 : decode cX9_heapOf 107 = .ok (.isub, 1) := by decide +kernel
theorem dX9_heapOf_108 : decode cX9_heapOf 108 = .ok (.baload, 1) := by decide +kernel
theorem dX9_heapOf_109 : decode cX9_heapOf 109 = .ok (.ifCond .eq 28, 3) := by decide +kernel
theorem dX9_heapOf_112 : decode cX9_heapOf 112 = .ok (.aload_n 0, 1) := by decide +kernel
theorem dX9_heapOf_113 : decode cX9_heapOf 113 = .ok (.getfield 29, 3) := by decide +kernel
theorem dX9_heapOf_116 : decode cX9_heapOf 116 = .ok (.iload_n 1, 1) := by decide +kernel
theorem dX9_heapOf_117 : decode cX9_heapOf 117 = .ok (.bipush 16, 2) := by decide +kernel
theorem dX9_heapOf_119 : decode cX9_heapOf 119 = .ok (.isub, 1) := by decide +kernel
theorem dX9_heapOf_120 : decode cX9_heapOf 120 = .ok (.iaload, 1) := by decide +kernel
theorem dX9_heapOf_121 : decode cX9_heapOf 121 = .ok (.iload_n 2, 1) := by decide +kernel
theorem dX9_heapOf_122 : decode cX9_heapOf 122 = .ok (.if_icmp .ge 15, 3) := by decide +kernel
theorem dX9_heapOf_125 : decode cX9_heapOf 125 = .ok (.aload_n 0, 1) := by decide +kernel
theorem dX9_heapOf_126 : decode cX9_heapOf 126 = .ok (.getfield 29, 3) := by decide +kernel
theorem dX9_heapOf_129 : decode cX9_heapOf 129 = .ok (.iload_n 1, 1) := by decide +kernel
theorem dX9_heapOf_130 : decode cX9_heapOf 130 = .ok (.bipush 16, 2) := by decide +kernel
theorem dX9_heapOf_132 : decode cX9_heapOf 132 = .ok (.isub, 1) := by decide +kernel
theorem dX9_heapOf_133 : decode cX9_heapOf 133 = .ok (.iaload, 1) := by decide +kernel
theorem dX9_heapOf_134 : decode cX9_heapOf 134 = .ok (.goto 4, 3) := by decide +kernel
theorem dX9_heapOf_137 : decode cX9_heapOf 137 = .ok (.iload_n 2, 1) := by decide +kernel
theorem dX9_heapOf_138 : decode cX9_heapOf 138 = .ok (.istore_n 2, 1) := by decide +kernel
theorem dX9_heapOf_139 : decode cX9_heapOf 139 = .ok (.iload_n 1, 1) := by decide +kernel
theorem dX9_heapOf_140 : decode cX9_heapOf 140 = .ok (.sipush 240, 3) := by decide +kernel
theorem dX9_heapOf_143 : decode cX9_heapOf 143 = .ok (.if_icmp .ge 40, 3) := by decide +kernel
theorem dX9_heapOf_146 : decode cX9_heapOf 146 = .ok (.aload_n 0, 1) := by decide +kernel
theorem dX9_heapOf_147 : decode cX9_heapOf 147 = .ok (.getfield 25, 3) := by decide +kernel
theorem dX9_heapOf_150 : decode cX9_heapOf 150 = .ok (.iload_n 1, 1) := by decide +kernel
theorem dX9_heapOf_151 : decode cX9_heapOf 151 = .ok (.bipush 16, 2) := by decide +kernel
theorem dX9_heapOf_153 : decode cX9_heapOf 153 = .ok (.iadd, 1) := by decide +kernel
theorem dX9_heapOf_154 : decode cX9_heapOf 154 = .ok (.baload, 1) := by decide +kernel
theorem dX9_heapOf_155 : decode cX9_heapOf 155 = .ok (.ifCond .eq 28, 3) := by decide +kernel
theorem dX9_heapOf_158 : decode cX9_heapOf 158 = .ok (.aload_n 0, 1) := by decide +kernel
theorem dX9_heapOf_159 : decode cX9_heapOf 159 = .ok (.getfield 29, 3) := by decide +kernel
theorem dX9_heapOf_162 : decode cX9_heapOf 162 = .ok (.iload_n 1, 1) := by decide +kernel
theorem dX9_heapOf_163 : decode cX9_heapOf 163 = .ok (.bipush 16, 2) := by decide +kernel
theorem dX9_heapOf_165 : decode cX9_heapOf 165 = .ok (.iadd, 1) := by decide +kernel
theorem dX9_heapOf_166 : decode cX9_heapOf 166 = .ok (.iaload, 1) := by decide +kernel
theorem dX9_heapOf_167 : decode cX9_heapOf 167 = .ok (.iload_n 2, 1) := by decide +kernel
theorem dX9_heapOf_168 : decode cX9_heapOf 168 = .ok (.if_icmp .ge 15, 3) := by decide +kernel
theorem dX9_heapOf_171 : decode cX9_heapOf 171 = .ok (.aload_n 0, 1) := by decide +kernel
theorem dX9_heapOf_172 : decode cX9_heapOf 172 = .ok (.getfield 29, 3) := by decide +kernel
theorem dX9_heapOf_175 : decode cX9_heapOf 175 = .ok (.iload_n 1, 1) := by decide +kernel
theorem dX9_heapOf_176 : decode cX9_heapOf 176 = .ok (.bipush 16, 2) := by decide +kernel
theorem dX9_heapOf_178 : decode cX9_heapOf 178 = .ok (.iadd, 1) := by decide +kernel
theorem dX9_heapOf_179 : decode cX9_heapOf 179 = .ok (.iaload, 1) := by decide +kernel
theorem dX9_heapOf_180 : decode cX9_heapOf 180 = .ok (.goto 4, 3) := by decide +kernel
theorem dX9_heapOf_183 : decode cX9_heapOf 183 = .ok (.iload_n 2, 1) := by decide +kernel
theorem dX9_heapOf_184 : decode cX9_heapOf 184 = .ok (.ireturn, 1) := by decide +kernel
theorem dX9_heaps_0 : decode cX9_heaps 0 = .ok (.iconst 1, 1) := by decide +kernel
theorem dX9_heaps_1 : decode cX9_heaps 1 = .ok (.istore_n 1, 1) := by decide +kernel
theorem dX9_heaps_2 : decode cX9_heaps 2 = .ok (.iconst 0, 1) := by decide +kernel
theorem dX9_heaps_3 : decode cX9_heaps 3 = .ok (.istore_n 2, 1) := by decide +kernel
theorem dX9_heaps_4 : decode cX9_heaps 4 = .ok (.iload_n 2, 1) := by decide +kernel
theorem dX9_heaps_5 : decode cX9_heaps 5 = .ok (.sipush 256, 3) := by decide +kernel
theorem dX9_heaps_8 : decode cX9_heaps 8 = .ok (.if_icmp .ge 16, 3) := by decide +kernel
theorem dX9_heaps_11 : decode cX9_heaps 11 = .ok (.aload_n 0, 1) := by decide +kernel
theorem dX9_heaps_12 : decode cX9_heaps 12 = .ok (.getfield 29, 3) := by decide +kernel
theorem dX9_heaps_15 : decode cX9_heaps 15 = .ok (.iload_n 2, 1) := by decide +kernel
theorem dX9_heaps_16 : decode cX9_heaps 16 = .ok (.iload_n 2, 1) := by decide +kernel
theorem dX9_heaps_17 : decode cX9_heaps 17 = .ok (.iastore, 1) := by decide +kernel
theorem dX9_heaps_18 : decode cX9_heaps 18 = .ok (.iinc 2 1, 3) := by decide +kernel
theorem dX9_heaps_21 : decode cX9_heaps 21 = .ok (.goto (-17), 3) := by decide +kernel
theorem dX9_heaps_24 : decode cX9_heaps 24 = .ok (.iload_n 1, 1) := by decide +kernel
theorem dX9_heaps_25 : decode cX9_heaps 25 = .ok (.ifCond .eq 59, 3) := by decide +kernel
theorem dX9_heaps_28 : decode cX9_heaps 28 = .ok (.iconst 0, 1) := by decide +kernel
theorem dX9_heaps_29 : decode cX9_heaps 29 = .ok (.istore_n 1, 1) := by decide +kernel
theorem dX9_heaps_30 : decode cX9_heaps 30 = .ok (.iconst 0, 1) := by decide +kernel
theorem dX9_heaps_31 : decode cX9_heaps 31 = .ok (.istore_n 2, 1) := by decide +kernel
theorem dX9_heaps_32 : decode cX9_heaps 32 = .ok (.iload_n 2, 1) := by decide +kernel
theorem dX9_heaps_33 : decode cX9_heaps 33 = .ok (.sipush 256, 3) := by decide +kernel
theorem dX9_heaps_36 : decode cX9_heaps 36 = .ok (.if_icmp .ge 45, 3) := by decide +kernel
theorem dX9_heaps_39 : decode cX9_heaps 39 = .ok (.aload_n 0, 1) := by decide +kernel
theorem dX9_heaps_40 : decode cX9_heaps 40 = .ok (.getfield 25, 3) := by decide +kernel
theorem dX9_heaps_43 : decode cX9_heaps 43 = .ok (.iload_n 2, 1) := by decide +kernel
theorem dX9_heaps_44 : decode cX9_heaps 44 = .ok (.baload, 1) := by decide +kernel
theorem dX9_heaps_45 : decode cX9_heaps 45 = .ok (.ifCond .eq 30, 3) := by decide +kernel
theorem dX9_heaps_48 : decode cX9_heaps 48 = .ok (.aload_n 0, 1) := by decide +kernel
theorem dX9_heaps_49 : decode cX9_heaps 49 = .ok (.iload_n 2, 1) := by decide +kernel
theorem dX9_heaps_50 : decode cX9_heaps 50 = .ok (.invokevirtual 239, 3) := by decide +kernel
theorem dX9_heaps_53 : decode cX9_heaps 53 = .ok (.aload_n 0, 1) := by decide +kernel
theorem dX9_heaps_54 : decode cX9_heaps 54 = .ok (.getfield 29, 3) := by decide +kernel
theorem dX9_heaps_57 : decode cX9_heaps 57 = .ok (.iload_n 2, 1) := by decide +kernel
theorem dX9_heaps_58 : decode cX9_heaps 58 = .ok (.iaload, 1) := by decide +kernel
theorem dX9_heaps_59 : decode cX9_heaps 59 = .ok (.if_icmp .ge 16, 3) := by decide +kernel
theorem dX9_heaps_62 : decode cX9_heaps 62 = .ok (.aload_n 0, 1) := by decide +kernel
theorem dX9_heaps_63 : decode cX9_heaps 63 = .ok (.getfield 29, 3) := by decide +kernel
theorem dX9_heaps_66 : decode cX9_heaps 66 = .ok (.iload_n 2, 1) := by decide +kernel
theorem dX9_heaps_67 : decode cX9_heaps 67 = .ok (.aload_n 0, 1) := by decide +kernel
theorem dX9_heaps_68 : decode cX9_heaps 68 = .ok (.iload_n 2, 1) := by decide +kernel
theorem dX9_heaps_69 : decode cX9_heaps 69 = .ok (.invokevirtual 239, 3) := by decide +kernel
theorem dX9_heaps_72 : decode cX9_heaps 72 = .ok (.iastore, 1) := by decide +kernel
theorem dX9_heaps_73 : decode cX9_heaps 73 = .ok (.iconst 1, 1) := by decide +kernel
theorem dX9_heaps_74 : decode cX9_heaps 74 = .ok (.istore_n 1, 1) := by decide +kernel
theorem dX9_heaps_75 : decode cX9_heaps 75 = .ok (.iinc 2 1, 3) := by decide +kernel
theorem dX9_heaps_78 : decode cX9_heaps 78 = .ok (.goto (-46), 3) := by decide +kernel
theorem dX9_heaps_81 : decode cX9_heaps 81 = .ok (.goto (-57), 3) := by decide +kernel
theorem dX9_heaps_84 : decode cX9_heaps 84 = .ok (.iconst 0, 1) := by decide +kernel
theorem dX9_heaps_85 : decode cX9_heaps 85 = .ok (.istore_n 2, 1) := by decide +kernel
theorem dX9_heaps_86 : decode cX9_heaps 86 = .ok (.iconst 0, 1) := by decide +kernel
theorem dX9_heaps_87 : decode cX9_heaps 87 = .ok (.istore_n 3, 1) := by decide +kernel
theorem dX9_heaps_88 : decode cX9_heaps 88 = .ok (.iload_n 3, 1) := by decide +kernel
theorem dX9_heaps_89 : decode cX9_heaps 89 = .ok (.sipush 256, 3) := by decide +kernel
theorem dX9_heaps_92 : decode cX9_heaps 92 = .ok (.if_icmp .ge 36, 3) := by decide +kernel
theorem dX9_heaps_95 : decode cX9_heaps 95 = .ok (.iload_n 2, 1) := by decide +kernel
theorem dX9_heaps_96 : decode cX9_heaps 96 = .ok (.aload_n 0, 1) := by decide +kernel
theorem dX9_heaps_97 : decode cX9_heaps 97 = .ok (.getfield 25, 3) := by decide +kernel
theorem dX9_heaps_100 : decode cX9_heaps 100 = .ok (.iload_n 3, 1) := by decide +kernel
theorem dX9_heaps_101 : decode cX9_heaps 101 = .ok (.baload, 1) := by decide +kernel
theorem dX9_heaps_102 : decode cX9_heaps 102 = .ok (.ifCond .eq 17, 3) := by decide +kernel
theorem dX9_heaps_105 : decode cX9_heaps 105 = .ok (.aload_n 0, 1) := by decide +kernel
theorem dX9_heaps_106 : decode cX9_heaps 106 = .ok (.getfield 29, 3) := by decide +kernel
theorem dX9_heaps_109 : decode cX9_heaps 109 = .ok (.iload_n 3, 1) := by decide +kernel
theorem dX9_heaps_110 : decode cX9_heaps 110 = .ok (.iaload, 1) := by decide +kernel
theorem dX9_heaps_111 : decode cX9_heaps 111 = .ok (.iload_n 3, 1) := by decide +kernel
theorem dX9_heaps_112 : decode cX9_heaps 112 = .ok (.if_icmp .ne 7, 3) := by decide +kernel
theorem dX9_heaps_115 : decode cX9_heaps 115 = .ok (.iconst 1, 1) := by decide +kernel
theorem dX9_heaps_116 : decode cX9_heaps 116 = .ok (.goto 4, 3) := by decide +kernel
theorem dX9_heaps_119 : decode cX9_heaps 119 = .ok (.iconst 0, 1) := by decide +kernel
theorem dX9_heaps_120 : decode cX9_heaps 120 = .ok (.iadd, 1) := by decide +kernel
theorem dX9_heaps_121 : decode cX9_heaps 121 = .ok (.istore_n 2, 1) := by decide +kernel
theorem dX9_heaps_122 : decode cX9_heaps 122 = .ok (.iinc 3 1, 3) := by decide +kernel
theorem dX9_heaps_125 : decode cX9_heaps 125 = .ok (.goto (-37), 3) := by decide +kernel
theorem dX9_heaps_128 : decode cX9_heaps 128 = .ok (.iload_n 2, 1) := by decide +kernel
theorem dX9_heaps_129 : decode cX9_heaps 129 = .ok (.ireturn, 1) := by decide +kernel
theorem dX9_whiteNow_0 : decode cX9_whiteNow 0 = .ok (.aload_n 0, 1) := by decide +kernel
theorem dX9_whiteNow_1 : decode cX9_whiteNow 1 = .ok (.invokevirtual 242, 3) := by decide +kernel
theorem dX9_whiteNow_4 : decode cX9_whiteNow 4 = .ok (.istore_n 2, 1) := by decide +kernel
theorem dX9_whiteNow_5 : decode cX9_whiteNow 5 = .ok (.iload_n 1, 1) := by decide +kernel
theorem dX9_whiteNow_6 : decode cX9_whiteNow 6 = .ok (.ifCond .ne 5, 3) := by decide +kernel
theorem dX9_whiteNow_9 : decode cX9_whiteNow 9 = .ok (.iload_n 2, 1) := by decide +kernel
theorem dX9_whiteNow_10 : decode cX9_whiteNow 10 = .ok (.ireturn, 1) := by decide +kernel
theorem dX9_whiteNow_11 : decode cX9_whiteNow 11 = .ok (.iload_n 1, 1) := by decide +kernel
theorem dX9_whiteNow_12 : decode cX9_whiteNow 12 = .ok (.iconst 4, 1) := by decide +kernel
theorem dX9_whiteNow_13 : decode cX9_whiteNow 13 = .ok (.if_icmp .ne 8, 3) := by decide +kernel
theorem dX9_whiteNow_16 : decode cX9_whiteNow 16 = .ok (.aload_n 0, 1) := by decide +kernel
theorem dX9_whiteNow_17 : decode cX9_whiteNow 17 = .ok (.invokevirtual 245, 3) := by decide +kernel
theorem dX9_whiteNow_20 : decode cX9_whiteNow 20 = .ok (.ireturn, 1) := by decide +kernel
theorem dX9_whiteNow_21 : decode cX9_whiteNow 21 = .ok (.iload_n 1, 1) := by decide +kernel
theorem dX9_whiteNow_22 : decode cX9_whiteNow 22 = .ok (.iconst 5, 1) := by decide +kernel
theorem dX9_whiteNow_23 : decode cX9_whiteNow 23 = .ok (.if_icmp .ne 24, 3) := by decide +kernel
theorem dX9_whiteNow_26 : decode cX9_whiteNow 26 = .ok (.iload_n 2, 1) := by decide +kernel
theorem dX9_whiteNow_27 : decode cX9_whiteNow 27 = .ok (.i2f, 1) := by decide +kernel
theorem dX9_whiteNow_28 : decode cX9_whiteNow 28 = .ok (.aload_n 0, 1) := by decide +kernel
theorem dX9_whiteNow_29 : decode cX9_whiteNow 29 = .ok (.getfield 7, 3) := by decide +kernel
theorem dX9_whiteNow_32 : decode cX9_whiteNow 32 = .ok (.iconst 0, 1) := by decide +kernel
theorem dX9_whiteNow_33 : decode cX9_whiteNow 33 = .ok (.iaload, 1) := by decide +kernel
theorem dX9_whiteNow_34 : decode cX9_whiteNow 34 = .ok (.aload_n 0, 1) := by decide +kernel
theorem dX9_whiteNow_35 : decode cX9_whiteNow 35 = .ok (.getfield 7, 3) := by decide +kernel
theorem dX9_whiteNow_38 : decode cX9_whiteNow 38 = .ok (.iconst 1, 1) := by decide +kernel
theorem dX9_whiteNow_39 : decode cX9_whiteNow 39 = .ok (.iaload, 1) := by decide +kernel
theorem dX9_whiteNow_40 : decode cX9_whiteNow 40 = .ok (.imul, 1) := by decide +kernel
theorem dX9_whiteNow_41 : decode cX9_whiteNow 41 = .ok (.i2f, 1) := by decide +kernel
theorem dX9_whiteNow_42 : decode cX9_whiteNow 42 = .ok (.fdiv, 1) := by decide +kernel
theorem dX9_whiteNow_43 : decode cX9_whiteNow 43 = .ok (.invokestatic 160, 3) := by decide +kernel
theorem dX9_whiteNow_46 : decode cX9_whiteNow 46 = .ok (.ireturn, 1) := by decide +kernel
theorem dX9_whiteNow_47 : decode cX9_whiteNow 47 = .ok (.aload_n 0, 1) := by decide +kernel
theorem dX9_whiteNow_48 : decode cX9_whiteNow 48 = .ok (.invokevirtual 248, 3) := by decide +kernel
theorem dX9_whiteNow_51 : decode cX9_whiteNow 51 = .ok (.iload_n 1, 1) := by decide +kernel
theorem dX9_whiteNow_52 : decode cX9_whiteNow 52 = .ok (.iconst 1, 1) := by decide +kernel
theorem dX9_whiteNow_53 : decode cX9_whiteNow 53 = .ok (.if_icmp .ne 10, 3) := by decide +kernel
theorem dX9_whiteNow_56 : decode cX9_whiteNow 56 = .ok (.aload_n 0, 1) := by decide +kernel
theorem dX9_whiteNow_57 : decode cX9_whiteNow 57 = .ok (.getfield 230, 3) := by decide +kernel
theorem dX9_whiteNow_60 : decode cX9_whiteNow 60 = .ok (.goto 19, 3) := by decide +kernel
theorem dX9_whiteNow_63 : decode cX9_whiteNow 63 = .ok (.iload_n 1, 1) := by decide +kernel
theorem dX9_whiteNow_64 : decode cX9_whiteNow 64 = .ok (.iconst 2, 1) := by decide +kernel
theorem dX9_whiteNow_65 : decode cX9_whiteNow 65 = .ok (.if_icmp .ne 10, 3) := by decide +kernel
theorem dX9_whiteNow_68 : decode cX9_whiteNow 68 = .ok (.aload_n 0, 1) := by decide +kernel
theorem dX9_whiteNow_69 : decode cX9_whiteNow 69 = .ok (.getfield 233, 3) := by decide +kernel
theorem dX9_whiteNow_72 : decode cX9_whiteNow 72 = .ok (.goto 7, 3) := by decide +kernel
theorem dX9_whiteNow_75 : decode cX9_whiteNow 75 = .ok (.aload_n 0, 1) := by decide +kernel
theorem dX9_whiteNow_76 : decode cX9_whiteNow 76 = .ok (.getfield 236, 3) := by decide +kernel
theorem dX9_whiteNow_79 : decode cX9_whiteNow 79 = .ok (.ireturn, 1) := by decide +kernel
theorem dX9_white_0 : decode cX9_white 0 = .ok (.iload_n 1, 1) := by decide +kernel
theorem dX9_white_1 : decode cX9_white 1 = .ok (.i2l, 1) := by decide +kernel
theorem dX9_white_2 : decode cX9_white 2 = .ok (.lconst 0, 1) := by decide +kernel
theorem dX9_white_3 : decode cX9_white 3 = .ok (.ldc2_w 251, 3) := by decide +kernel
theorem dX9_white_6 : decode cX9_white 6 = .ok (.invokestatic 46, 3) := by decide +kernel
theorem dX9_white_9 : decode cX9_white 9 = .ok (.ifCond .eq 11, 3) := by decide +kernel
theorem dX9_white_12 : decode cX9_white 12 = .ok (.aload_n 0, 1) := by decide +kernel
theorem dX9_white_13 : decode cX9_white 13 = .ok (.iload_n 1, 1) := by decide +kernel
theorem dX9_white_14 : decode cX9_white 14 = .ok (.invokevirtual 253, 3) := by decide +kernel
theorem dX9_white_17 : decode cX9_white 17 = .ok (.goto 9, 3) := by decide +kernel
theorem dX9_white_20 : decode cX9_white 20 = .ok (.aload_n 0, 1) := by decide +kernel
theorem dX9_white_21 : decode cX9_white 21 = .ok (.bipush (-2), 2) := by decide +kernel
theorem dX9_white_23 : decode cX9_white 23 = .ok (.invokevirtual 101, 3) := by decide +kernel
end
section
theorem dX9_white_26 : decode cX9_white 26 = .ok (.ireturn, 1) := by decide +kernel
theorem dX9_weights_0 : decode cX9_weights 0 = .ok (.iconst 0, 1) := by decide +kernel
theorem dX9_weights_1 : decode cX9_weights 1 = .ok (.istore_n 1, 1) := by decide +kernel
theorem dX9_weights_2 : decode cX9_weights 2 = .ok (.iconst 0, 1) := by decide +kernel
theorem dX9_weights_3 : decode cX9_weights 3 = .ok (.istore_n 2, 1) := by decide +kernel
theorem dX9_weights_4 : decode cX9_weights 4 = .ok (.iload_n 2, 1) := by decide +kernel
theorem dX9_weights_5 : decode cX9_weights 5 = .ok (.aload_n 0, 1) := by decide +kernel
theorem dX9_weights_6 : decode cX9_weights 6 = .ok (.invokevirtual 42, 3) := by decide +kernel
theorem dX9_weights_9 : decode cX9_weights 9 = .ok (.if_icmp .ge 29, 3) := by decide +kernel
theorem dX9_weights_12 : decode cX9_weights 12 = .ok (.iload_n 1, 1) := by decide +kernel
theorem dX9_weights_13 : decode cX9_weights 13 = .ok (.aload_n 0, 1) := by decide +kernel
theorem dX9_weights_14 : decode cX9_weights 14 = .ok (.iload_n 2, 1) := by decide +kernel
theorem dX9_weights_15 : decode cX9_weights 15 = .ok (.invokevirtual 82, 3) := by decide +kernel
theorem dX9_weights_18 : decode cX9_weights 18 = .ok (.ifCond .eq 11, 3) := by decide +kernel
theorem dX9_weights_21 : decode cX9_weights 21 = .ok (.aload_n 0, 1) := by decide +kernel
theorem dX9_weights_22 : decode cX9_weights 22 = .ok (.iload_n 2, 1) := by decide +kernel
theorem dX9_weights_23 : decode cX9_weights 23 = .ok (.invokevirtual 149, 3) := by decide +kernel
theorem dX9_weights_26 : decode cX9_weights 26 = .ok (.goto 4, 3) := by decide +kernel
theorem dX9_weights_29 : decode cX9_weights 29 = .ok (.iconst 0, 1) := by decide +kernel
theorem dX9_weights_30 : decode cX9_weights 30 = .ok (.iadd, 1) := by decide +kernel
theorem dX9_weights_31 : decode cX9_weights 31 = .ok (.istore_n 1, 1) := by decide +kernel
theorem dX9_weights_32 : decode cX9_weights 32 = .ok (.iinc 2 1, 3) := by decide +kernel
theorem dX9_weights_35 : decode cX9_weights 35 = .ok (.goto (-31), 3) := by decide +kernel
theorem dX9_weights_38 : decode cX9_weights 38 = .ok (.iload_n 1, 1) := by decide +kernel
theorem dX9_weights_39 : decode cX9_weights 39 = .ok (.ireturn, 1) := by decide +kernel
theorem dX9_centreOf_0 : decode cX9_centreOf 0 = .ok (.dconst 0, 1) := by decide +kernel
theorem dX9_centreOf_1 : decode cX9_centreOf 1 = .ok (.dstore_n 2, 1) := by decide +kernel
theorem dX9_centreOf_2 : decode cX9_centreOf 2 = .ok (.aload_n 0, 1) := by decide +kernel
theorem dX9_centreOf_3 : decode cX9_centreOf 3 = .ok (.invokevirtual 256, 3) := by decide +kernel
theorem dX9_centreOf_6 : decode cX9_centreOf 6 = .ok (.istore 4, 2) := by decide +kernel
theorem dX9_centreOf_8 : decode cX9_centreOf 8 = .ok (.iconst 0, 1) := by decide +kernel
theorem dX9_centreOf_9 : decode cX9_centreOf 9 = .ok (.istore 5, 2) := by decide +kernel
theorem dX9_centreOf_11 : decode cX9_centreOf 11 = .ok (.iload 5, 2) := by decide +kernel
theorem dX9_centreOf_13 : decode cX9_centreOf 13 = .ok (.aload_n 0, 1) := by decide +kernel
theorem dX9_centreOf_14 : decode cX9_centreOf 14 = .ok (.invokevirtual 42, 3) := by decide +kernel
theorem dX9_centreOf_17 : decode cX9_centreOf 17 = .ok (.if_icmp .ge 74, 3) := by decide +kernel
theorem dX9_centreOf_20 : decode cX9_centreOf 20 = .ok (.aload_n 0, 1) := by decide +kernel
theorem dX9_centreOf_21 : decode cX9_centreOf 21 = .ok (.iload 5, 2) := by decide +kernel
theorem dX9_centreOf_23 : decode cX9_centreOf 23 = .ok (.invokevirtual 82, 3) := by decide +kernel
theorem dX9_centreOf_26 : decode cX9_centreOf 26 = .ok (.ifCond .eq 59, 3) := by decide +kernel
theorem dX9_centreOf_29 : decode cX9_centreOf 29 = .ok (.iload_n 1, 1) := by decide +kernel
theorem dX9_centreOf_30 : decode cX9_centreOf 30 = .ok (.ifCond .eq 12, 3) := by decide +kernel
theorem dX9_centreOf_33 : decode cX9_centreOf 33 = .ok (.aload_n 0, 1) := by decide +kernel
theorem dX9_centreOf_34 : decode cX9_centreOf 34 = .ok (.iload 5, 2) := by decide +kernel
theorem dX9_centreOf_36 : decode cX9_centreOf 36 = .ok (.invokevirtual 68, 3) := by decide +kernel
theorem dX9_centreOf_39 : decode cX9_centreOf 39 = .ok (.goto 9, 3) := by decide +kernel
theorem dX9_centreOf_42 : decode cX9_centreOf 42 = .ok (.aload_n 0, 1) := by decide +kernel
theorem dX9_centreOf_43 : decode cX9_centreOf 43 = .ok (.iload 5, 2) := by decide +kernel
theorem dX9_centreOf_45 : decode cX9_centreOf 45 = .ok (.invokevirtual 64, 3) := by decide +kernel
theorem dX9_centreOf_48 : decode cX9_centreOf 48 = .ok (.i2d, 1) := by decide +kernel
theorem dX9_centreOf_49 : decode cX9_centreOf 49 = .ok (.ldc2_w 259, 3) := by decide +kernel
theorem dX9_centreOf_52 : decode cX9_centreOf 52 = .ok (.ddiv, 1) := by decide +kernel
theorem dX9_centreOf_53 : decode cX9_centreOf 53 = .ok (.dstore 6, 2) := by decide +kernel
theorem dX9_centreOf_55 : decode cX9_centreOf 55 = .ok (.dload_n 2, 1) := by decide +kernel
theorem dX9_centreOf_56 : decode cX9_centreOf 56 = .ok (.aload_n 0, 1) := by decide +kernel
theorem dX9_centreOf_57 : decode cX9_centreOf 57 = .ok (.iload 5, 2) := by decide +kernel
theorem dX9_centreOf_59 : decode cX9_centreOf 59 = .ok (.invokevirtual 149, 3) := by decide +kernel
theorem dX9_centreOf_62 : decode cX9_centreOf 62 = .ok (.i2d, 1) := by decide +kernel
theorem dX9_centreOf_63 : decode cX9_centreOf 63 = .ok (.aload_n 0, 1) := by decide +kernel
theorem dX9_centreOf_64 : decode cX9_centreOf 64 = .ok (.iload 5, 2) := by decide +kernel
theorem dX9_centreOf_66 : decode cX9_centreOf 66 = .ok (.iload_n 1, 1) := by decide +kernel
theorem dX9_centreOf_67 : decode cX9_centreOf 67 = .ok (.ifCond .eq 7, 3) := by decide +kernel
theorem dX9_centreOf_70 : decode cX9_centreOf 70 = .ok (.iconst 5, 1) := by decide +kernel
theorem dX9_centreOf_71 : decode cX9_centreOf 71 = .ok (.goto 4, 3) := by decide +kernel
theorem dX9_centreOf_74 : decode cX9_centreOf 74 = .ok (.iconst 4, 1) := by decide +kernel
theorem dX9_centreOf_75 : decode cX9_centreOf 75 = .ok (.invokevirtual 50, 3) := by decide +kernel
theorem dX9_centreOf_78 : decode cX9_centreOf 78 = .ok (.i2d, 1) := by decide +kernel
theorem dX9_centreOf_79 : decode cX9_centreOf 79 = .ok (.dload 6, 2) := by decide +kernel
theorem dX9_centreOf_81 : decode cX9_centreOf 81 = .ok (.dadd, 1) := by decide +kernel
theorem dX9_centreOf_82 : decode cX9_centreOf 82 = .ok (.dmul, 1) := by decide +kernel
theorem dX9_centreOf_83 : decode cX9_centreOf 83 = .ok (.dadd, 1) := by decide +kernel
theorem dX9_centreOf_84 : decode cX9_centreOf 84 = .ok (.dstore_n 2, 1) := by decide +kernel
theorem dX9_centreOf_85 : decode cX9_centreOf 85 = .ok (.iinc 5 1, 3) := by decide +kernel
theorem dX9_centreOf_88 : decode cX9_centreOf 88 = .ok (.goto (-77), 3) := by decide +kernel
theorem dX9_centreOf_91 : decode cX9_centreOf 91 = .ok (.iload 4, 2) := by decide +kernel
theorem dX9_centreOf_93 : decode cX9_centreOf 93 = .ok (.ifCond .ne 11, 3) := by decide +kernel
theorem dX9_centreOf_96 : decode cX9_centreOf 96 = .ok (.aload_n 0, 1) := by decide +kernel
theorem dX9_centreOf_97 : decode cX9_centreOf 97 = .ok (.iload_n 1, 1) := by decide +kernel
theorem dX9_centreOf_98 : decode cX9_centreOf 98 = .ok (.invokevirtual 261, 3) := by decide +kernel
theorem dX9_centreOf_101 : decode cX9_centreOf 101 = .ok (.goto 8, 3) := by decide +kernel
theorem dX9_centreOf_104 : decode cX9_centreOf 104 = .ok (.dload_n 2, 1) := by decide +kernel
theorem dX9_centreOf_105 : decode cX9_centreOf 105 = .ok (.iload 4, 2) := by decide +kernel
theorem dX9_centreOf_107 : decode cX9_centreOf 107 = .ok (.i2d, 1) := by decide +kernel
theorem dX9_centreOf_108 : decode cX9_centreOf 108 = .ok (.ddiv, 1) := by decide +kernel
theorem dX9_centreOf_109 : decode cX9_centreOf 109 = .ok (.dreturn, 1) := by decide +kernel
theorem dX9_middle_0 : decode cX9_middle 0 = .ok (.iload_n 1, 1) := by decide +kernel
theorem dX9_middle_1 : decode cX9_middle 1 = .ok (.ifCond .eq 12, 3) := by decide +kernel
theorem dX9_middle_4 : decode cX9_middle 4 = .ok (.aload_n 0, 1) := by decide +kernel
theorem dX9_middle_5 : decode cX9_middle 5 = .ok (.getfield 7, 3) := by decide +kernel
theorem dX9_middle_8 : decode cX9_middle 8 = .ok (.iconst 1, 1) := by decide +kernel
theorem dX9_middle_9 : decode cX9_middle 9 = .ok (.iaload, 1) := by decide +kernel
theorem dX9_middle_10 : decode cX9_middle 10 = .ok (.goto 9, 3) := by decide +kernel
theorem dX9_middle_13 : decode cX9_middle 13 = .ok (.aload_n 0, 1) := by decide +kernel
theorem dX9_middle_14 : decode cX9_middle 14 = .ok (.getfield 7, 3) := by decide +kernel
theorem dX9_middle_17 : decode cX9_middle 17 = .ok (.iconst 0, 1) := by decide +kernel
theorem dX9_middle_18 : decode cX9_middle 18 = .ok (.iaload, 1) := by decide +kernel
theorem dX9_middle_19 : decode cX9_middle 19 = .ok (.i2d, 1) := by decide +kernel
theorem dX9_middle_20 : decode cX9_middle 20 = .ok (.ldc2_w 259, 3) := by decide +kernel
theorem dX9_middle_23 : decode cX9_middle 23 = .ok (.ddiv, 1) := by decide +kernel
theorem dX9_middle_24 : decode cX9_middle 24 = .ok (.dreturn, 1) := by decide +kernel
theorem dX9_balance_0 : decode cX9_balance 0 = .ok (.aload_n 0, 1) := by decide +kernel
theorem dX9_balance_1 : decode cX9_balance 1 = .ok (.iconst 0, 1) := by decide +kernel
theorem dX9_balance_2 : decode cX9_balance 2 = .ok (.invokevirtual 265, 3) := by decide +kernel
theorem dX9_balance_5 : decode cX9_balance 5 = .ok (.aload_n 0, 1) := by decide +kernel
theorem dX9_balance_6 : decode cX9_balance 6 = .ok (.iconst 0, 1) := by decide +kernel
theorem dX9_balance_7 : decode cX9_balance 7 = .ok (.invokevirtual 261, 3) := by decide +kernel
theorem dX9_balance_10 : decode cX9_balance 10 = .ok (.dsub, 1) := by decide +kernel
theorem dX9_balance_11 : decode cX9_balance 11 = .ok (.dstore_n 1, 1) := by decide +kernel
theorem dX9_balance_12 : decode cX9_balance 12 = .ok (.aload_n 0, 1) := by decide +kernel
theorem dX9_balance_13 : decode cX9_balance 13 = .ok (.iconst 1, 1) := by decide +kernel
theorem dX9_balance_14 : decode cX9_balance 14 = .ok (.invokevirtual 265, 3) := by decide +kernel
theorem dX9_balance_17 : decode cX9_balance 17 = .ok (.aload_n 0, 1) := by decide +kernel
theorem dX9_balance_18 : decode cX9_balance 18 = .ok (.iconst 1, 1) := by decide +kernel
theorem dX9_balance_19 : decode cX9_balance 19 = .ok (.invokevirtual 261, 3) := by decide +kernel
theorem dX9_balance_22 : decode cX9_balance 22 = .ok (.dsub, 1) := by decide +kernel
theorem dX9_balance_23 : decode cX9_balance 23 = .ok (.dstore_n 3, 1) := by decide +kernel
theorem dX9_balance_24 : decode cX9_balance 24 = .ok (.dload_n 1, 1) := by decide +kernel
theorem dX9_balance_25 : decode cX9_balance 25 = .ok (.dload_n 1, 1) := by decide +kernel
theorem dX9_balance_26 : decode cX9_balance 26 = .ok (.dmul, 1) := by decide +kernel
theorem dX9_balance_27 : decode cX9_balance 27 = .ok (.dload_n 3, 1) := by decide +kernel
theorem dX9_balance_28 : decode cX9_balance 28 = .ok (.dload_n 3, 1) := by decide +kernel
theorem dX9_balance_29 : decode cX9_balance 29 = .ok (.dmul, 1) := by decide +kernel
theorem dX9_balance_30 : decode cX9_balance 30 = .ok (.dadd, 1) := by decide +kernel
theorem dX9_balance_31 : decode cX9_balance 31 = .ok (.dreturn, 1) := by decide +kernel
theorem dX9_centreBits_0 : decode cX9_centreBits 0 = .ok (.iload_n 1, 1) := by decide +kernel
theorem dX9_centreBits_1 : decode cX9_centreBits 1 = .ok (.ifCond .ne 11, 3) := by decide +kernel
theorem dX9_centreBits_4 : decode cX9_centreBits 4 = .ok (.aload_n 0, 1) := by decide +kernel
theorem dX9_centreBits_5 : decode cX9_centreBits 5 = .ok (.iconst 0, 1) := by decide +kernel
theorem dX9_centreBits_6 : decode cX9_centreBits 6 = .ok (.invokevirtual 265, 3) := by decide +kernel
theorem dX9_centreBits_9 : decode cX9_centreBits 9 = .ok (.goto 20, 3) := by decide +kernel
theorem dX9_centreBits_12 : decode cX9_centreBits 12 = .ok (.iload_n 1, 1) := by decide +kernel
theorem dX9_centreBits_13 : decode cX9_centreBits 13 = .ok (.iconst 1, 1) := by decide +kernel
theorem dX9_centreBits_14 : decode cX9_centreBits 14 = .ok (.if_icmp .ne 11, 3) := by decide +kernel
theorem dX9_centreBits_17 : decode cX9_centreBits 17 = .ok (.aload_n 0, 1) := by decide +kernel
theorem dX9_centreBits_18 : decode cX9_centreBits 18 = .ok (.iconst 1, 1) := by decide +kernel
theorem dX9_centreBits_19 : decode cX9_centreBits 19 = .ok (.invokevirtual 265, 3) := by decide +kernel
theorem dX9_centreBits_22 : decode cX9_centreBits 22 = .ok (.goto 7, 3) := by decide +kernel
theorem dX9_centreBits_25 : decode cX9_centreBits 25 = .ok (.aload_n 0, 1) := by decide +kernel
theorem dX9_centreBits_26 : decode cX9_centreBits 26 = .ok (.invokevirtual 184, 3) := by decide +kernel
theorem dX9_centreBits_29 : decode cX9_centreBits 29 = .ok (.invokestatic 268, 3) := by decide +kernel
theorem dX9_centreBits_32 : decode cX9_centreBits 32 = .ok (.lreturn, 1) := by decide +kernel
theorem dX9_centre_0 : decode cX9_centre 0 = .ok (.iload_n 1, 1) := by decide +kernel
theorem dX9_centre_1 : decode cX9_centre 1 = .ok (.i2l, 1) := by decide +kernel
theorem dX9_centre_2 : decode cX9_centre 2 = .ok (.lconst 0, 1) := by decide +kernel
theorem dX9_centre_3 : decode cX9_centre 3 = .ok (.ldc2_w 117, 3) := by decide +kernel
theorem dX9_centre_6 : decode cX9_centre 6 = .ok (.invokestatic 46, 3) := by decide +kernel
theorem dX9_centre_9 : decode cX9_centre 9 = .ok (.ifCond .eq 11, 3) := by decide +kernel
theorem dX9_centre_12 : decode cX9_centre 12 = .ok (.aload_n 0, 1) := by decide +kernel
theorem dX9_centre_13 : decode cX9_centre 13 = .ok (.iload_n 1, 1) := by decide +kernel
theorem dX9_centre_14 : decode cX9_centre 14 = .ok (.invokevirtual 274, 3) := by decide +kernel
theorem dX9_centre_17 : decode cX9_centre 17 = .ok (.goto 10, 3) := by decide +kernel
theorem dX9_centre_20 : decode cX9_centre 20 = .ok (.aload_n 0, 1) := by decide +kernel
theorem dX9_centre_21 : decode cX9_centre 21 = .ok (.bipush (-2), 2) := by decide +kernel
theorem dX9_centre_23 : decode cX9_centre 23 = .ok (.invokevirtual 101, 3) := by decide +kernel
theorem dX9_centre_26 : decode cX9_centre 26 = .ok (.i2l, 1) := by decide +kernel
theorem dX9_centre_27 : decode cX9_centre 27 = .ok (.lreturn, 1) := by decide +kernel
theorem dX9_cells_0 : decode cX9_cells 0 = .ok (.aload_n 0, 1) := by decide +kernel
theorem dX9_cells_1 : decode cX9_cells 1 = .ok (.iload_n 1, 1) := by decide +kernel
theorem dX9_cells_2 : decode cX9_cells 2 = .ok (.invokevirtual 64, 3) := by decide +kernel
theorem dX9_cells_5 : decode cX9_cells 5 = .ok (.aload_n 0, 1) := by decide +kernel
theorem dX9_cells_6 : decode cX9_cells 6 = .ok (.iload_n 1, 1) := by decide +kernel
theorem dX9_cells_7 : decode cX9_cells 7 = .ok (.invokevirtual 68, 3) := by decide +kernel
theorem dX9_cells_10 : decode cX9_cells 10 = .ok (.imul, 1) := by decide +kernel
theorem dX9_cells_11 : decode cX9_cells 11 = .ok (.ireturn, 1) := by decide +kernel
theorem dX9_smallPairs_0 : decode cX9_smallPairs 0 = .ok (.iconst 0, 1) := by decide +kernel
theorem dX9_smallPairs_1 : decode cX9_smallPairs 1 = .ok (.istore_n 1, 1) := by decide +kernel
theorem dX9_smallPairs_2 : decode cX9_smallPairs 2 = .ok (.iconst 0, 1) := by decide +kernel
theorem dX9_smallPairs_3 : decode cX9_smallPairs 3 = .ok (.istore_n 2, 1) := by decide +kernel
theorem dX9_smallPairs_4 : decode cX9_smallPairs 4 = .ok (.iload_n 2, 1) := by decide +kernel
theorem dX9_smallPairs_5 : decode cX9_smallPairs 5 = .ok (.aload_n 0, 1) := by decide +kernel
theorem dX9_smallPairs_6 : decode cX9_smallPairs 6 = .ok (.invokevirtual 42, 3) := by decide +kernel
theorem dX9_smallPairs_9 : decode cX9_smallPairs 9 = .ok (.if_icmp .ge 61, 3) := by decide +kernel
theorem dX9_smallPairs_12 : decode cX9_smallPairs 12 = .ok (.iconst 0, 1) := by decide +kernel
theorem dX9_smallPairs_13 : decode cX9_smallPairs 13 = .ok (.istore_n 3, 1) := by decide +kernel
theorem dX9_smallPairs_14 : decode cX9_smallPairs 14 = .ok (.iload_n 3, 1) := by decide +kernel
theorem dX9_smallPairs_15 : decode cX9_smallPairs 15 = .ok (.aload_n 0, 1) := by decide +kernel
theorem dX9_smallPairs_16 : decode cX9_smallPairs 16 = .ok (.invokevirtual 42, 3) := by decide +kernel
theorem dX9_smallPairs_19 : decode cX9_smallPairs 19 = .ok (.if_icmp .ge 45, 3) := by decide +kernel
theorem dX9_smallPairs_22 : decode cX9_smallPairs 22 = .ok (.iload_n 1, 1) := by decide +kernel
theorem dX9_smallPairs_23 : decode cX9_smallPairs 23 = .ok (.aload_n 0, 1) := by decide +kernel
theorem dX9_smallPairs_24 : decode cX9_smallPairs 24 = .ok (.iload_n 2, 1) := by decide +kernel
theorem dX9_smallPairs_25 : decode cX9_smallPairs 25 = .ok (.iconst 1, 1) := by decide +kernel
theorem dX9_smallPairs_26 : decode cX9_smallPairs 26 = .ok (.invokevirtual 50, 3) := by decide +kernel
theorem dX9_smallPairs_29 : decode cX9_smallPairs 29 = .ok (.aload_n 0, 1) := by decide +kernel
theorem dX9_smallPairs_30 : decode cX9_smallPairs 30 = .ok (.iload_n 3, 1) := by decide +kernel
theorem dX9_smallPairs_31 : decode cX9_smallPairs 31 = .ok (.iconst 1, 1) := by decide +kernel
theorem dX9_smallPairs_32 : decode cX9_smallPairs 32 = .ok (.invokevirtual 50, 3) := by decide +kernel
theorem dX9_smallPairs_35 : decode cX9_smallPairs 35 = .ok (.if_icmp .ge 20, 3) := by decide +kernel
theorem dX9_smallPairs_38 : decode cX9_smallPairs 38 = .ok (.aload_n 0, 1) := by decide +kernel
theorem dX9_smallPairs_39 : decode cX9_smallPairs 39 = .ok (.iload_n 2, 1) := by decide +kernel
theorem dX9_smallPairs_40 : decode cX9_smallPairs 40 = .ok (.invokevirtual 278, 3) := by decide +kernel
theorem dX9_smallPairs_43 : decode cX9_smallPairs 43 = .ok (.aload_n 0, 1) := by decide +kernel
theorem dX9_smallPairs_44 : decode cX9_smallPairs 44 = .ok (.iload_n 3, 1) := by decide +kernel
theorem dX9_smallPairs_45 : decode cX9_smallPairs 45 = .ok (.invokevirtual 278, 3) := by decide +kernel
theorem dX9_smallPairs_48 : decode cX9_smallPairs 48 = .ok (.if_icmp .gt 7, 3) := by decide +kernel
theorem dX9_smallPairs_51 : decode cX9_smallPairs 51 = .ok (.iconst 1, 1) := by decide +kernel
theorem dX9_smallPairs_52 : decode cX9_smallPairs 52 = .ok (.goto 4, 3) := by decide +kernel
theorem dX9_smallPairs_55 : decode cX9_smallPairs 55 = .ok (.iconst 0, 1) := by decide +kernel
theorem dX9_smallPairs_56 : decode cX9_smallPairs 56 = .ok (.iadd, 1) := by decide +kernel
theorem dX9_smallPairs_57 : decode cX9_smallPairs 57 = .ok (.istore_n 1, 1) := by decide +kernel
theorem dX9_smallPairs_58 : decode cX9_smallPairs 58 = .ok (.iinc 3 1, 3) := by decide +kernel
theorem dX9_smallPairs_61 : decode cX9_smallPairs 61 = .ok (.goto (-47), 3) := by decide +kernel
theorem dX9_smallPairs_64 : decode cX9_smallPairs 64 = .ok (.iinc 2 1, 3) := by decide +kernel
theorem dX9_smallPairs_67 : decode cX9_smallPairs 67 = .ok (.goto (-63), 3) := by decide +kernel
theorem dX9_smallPairs_70 : decode cX9_smallPairs 70 = .ok (.iload_n 1, 1) := by decide +kernel
theorem dX9_smallPairs_71 : decode cX9_smallPairs 71 = .ok (.ireturn, 1) := by decide +kernel
theorem dX9_allNow_0 : decode cX9_allNow 0 = .ok (.iload_n 1, 1) := by decide +kernel
theorem dX9_allNow_1 : decode cX9_allNow 1 = .ok (.iconst 1, 1) := by decide +kernel
theorem dX9_allNow_2 : decode cX9_allNow 2 = .ok (.if_icmp .le 20, 3) := by decide +kernel
theorem dX9_allNow_5 : decode cX9_allNow 5 = .ok (.iload_n 1, 1) := by decide +kernel
theorem dX9_allNow_6 : decode cX9_allNow 6 = .ok (.iconst 2, 1) := by decide +kernel
theorem dX9_allNow_7 : decode cX9_allNow 7 = .ok (.if_icmp .ne 10, 3) := by decide +kernel
theorem dX9_allNow_10 : decode cX9_allNow 10 = .ok (.aload_n 0, 1) := by decide +kernel
theorem dX9_allNow_11 : decode cX9_allNow 11 = .ok (.invokevirtual 256, 3) := by decide +kernel
theorem dX9_allNow_14 : decode cX9_allNow 14 = .ok (.goto 7, 3) := by decide +kernel
theorem dX9_allNow_17 : decode cX9_allNow 17 = .ok (.aload_n 0, 1) := by decide +kernel
theorem dX9_allNow_18 : decode cX9_allNow 18 = .ok (.invokevirtual 281, 3) := by decide +kernel
theorem dX9_allNow_21 : decode cX9_allNow 21 = .ok (.ireturn, 1) := by decide +kernel
theorem dX9_allNow_22 : decode cX9_allNow 22 = .ok (.iconst 0, 1) := by decide +kernel
theorem dX9_allNow_23 : decode cX9_allNow 23 = .ok (.istore_n 2, 1) := by decide +kernel
theorem dX9_allNow_24 : decode cX9_allNow 24 = .ok (.iconst 0, 1) := by decide +kernel
theorem dX9_allNow_25 : decode cX9_allNow 25 = .ok (.istore_n 3, 1) := by decide +kernel
theorem dX9_allNow_26 : decode cX9_allNow 26 = .ok (.iload_n 3, 1) := by decide +kernel
theorem dX9_allNow_27 : decode cX9_allNow 27 = .ok (.aload_n 0, 1) := by decide +kernel
theorem dX9_allNow_28 : decode cX9_allNow 28 = .ok (.invokevirtual 42, 3) := by decide +kernel
theorem dX9_allNow_31 : decode cX9_allNow 31 = .ok (.if_icmp .ge 39, 3) := by decide +kernel
theorem dX9_allNow_34 : decode cX9_allNow 34 = .ok (.iload_n 2, 1) := by decide +kernel
theorem dX9_allNow_35 : decode cX9_allNow 35 = .ok (.aload_n 0, 1) := by decide +kernel
theorem dX9_allNow_36 : decode cX9_allNow 36 = .ok (.iload_n 3, 1) := by decide +kernel
theorem dX9_allNow_37 : decode cX9_allNow 37 = .ok (.invokevirtual 82, 3) := by decide +kernel
theorem dX9_allNow_40 : decode cX9_allNow 40 = .ok (.ifCond .eq 21, 3) := by decide +kernel
theorem dX9_allNow_43 : decode cX9_allNow 43 = .ok (.iload_n 1, 1) := by decide +kernel
theorem dX9_allNow_44 : decode cX9_allNow 44 = .ok (.ifCond .eq 11, 3) := by decide +kernel
theorem dX9_allNow_47 : decode cX9_allNow 47 = .ok (.aload_n 0, 1) := by decide +kernel
theorem dX9_allNow_48 : decode cX9_allNow 48 = .ok (.iload_n 3, 1) := by decide +kernel
theorem dX9_allNow_49 : decode cX9_allNow 49 = .ok (.invokevirtual 152, 3) := by decide +kernel
theorem dX9_allNow_52 : decode cX9_allNow 52 = .ok (.ifCond .ne 9, 3) := by decide +kernel
theorem dX9_allNow_55 : decode cX9_allNow 55 = .ok (.iconst 1, 1) := by decide +kernel
theorem dX9_allNow_56 : decode cX9_allNow 56 = .ok (.iload_n 3, 1) := by decide +kernel
theorem dX9_allNow_57 : decode cX9_allNow 57 = .ok (.ishl, 1) := by decide +kernel
theorem dX9_allNow_58 : decode cX9_allNow 58 = .ok (.goto 4, 3) := by decide +kernel
theorem dX9_allNow_61 : decode cX9_allNow 61 = .ok (.iconst 0, 1) := by decide +kernel
theorem dX9_allNow_62 : decode cX9_allNow 62 = .ok (.ior, 1) := by decide +kernel
theorem dX9_allNow_63 : decode cX9_allNow 63 = .ok (.istore_n 2, 1) := by decide +kernel
theorem dX9_allNow_64 : decode cX9_allNow 64 = .ok (.iinc 3 1, 3) := by decide +kernel
theorem dX9_allNow_67 : decode cX9_allNow 67 = .ok (.goto (-41), 3) := by decide +kernel
theorem dX9_allNow_70 : decode cX9_allNow 70 = .ok (.iload_n 2, 1) := by decide +kernel
theorem dX9_allNow_71 : decode cX9_allNow 71 = .ok (.ireturn, 1) := by decide +kernel
theorem dX9_all_0 : decode cX9_all 0 = .ok (.iload_n 1, 1) := by decide +kernel
theorem dX9_all_1 : decode cX9_all 1 = .ok (.i2l, 1) := by decide +kernel
theorem dX9_all_2 : decode cX9_all 2 = .ok (.lconst 0, 1) := by decide +kernel
theorem dX9_all_3 : decode cX9_all 3 = .ok (.ldc2_w 131, 3) := by decide +kernel
theorem dX9_all_6 : decode cX9_all 6 = .ok (.invokestatic 46, 3) := by decide +kernel
theorem dX9_all_9 : decode cX9_all 9 = .ok (.ifCond .eq 11, 3) := by decide +kernel
theorem dX9_all_12 : decode cX9_all 12 = .ok (.aload_n 0, 1) := by decide +kernel
theorem dX9_all_13 : decode cX9_all 13 = .ok (.iload_n 1, 1) := by decide +kernel
theorem dX9_all_14 : decode cX9_all 14 = .ok (.invokevirtual 284, 3) := by decide +kernel
theorem dX9_all_17 : decode cX9_all 17 = .ok (.goto 9, 3) := by decide +kernel
theorem dX9_all_20 : decode cX9_all 20 = .ok (.aload_n 0, 1) := by decide +kernel
theorem dX9_all_21 : decode cX9_all 21 = .ok (.bipush (-2), 2) := by decide +kernel
theorem dX9_all_23 : decode cX9_all 23 = .ok (.invokevirtual 101, 3) := by decide +kernel
theorem dX9_all_26 : decode cX9_all 26 = .ok (.ireturn, 1) := by decide +kernel
theorem dX9_aheadOf_0 : decode cX9_aheadOf 0 = .ok (.iconst 0, 1) := by decide +kernel
theorem dX9_aheadOf_1 : decode cX9_aheadOf 1 = .ok (.istore_n 2, 1) := by decide +kernel
theorem dX9_aheadOf_2 : decode cX9_aheadOf 2 = .ok (.iconst 0, 1) := by decide +kernel
theorem dX9_aheadOf_3 : decode cX9_aheadOf 3 = .ok (.istore_n 3, 1) := by decide +kernel
theorem dX9_aheadOf_4 : decode cX9_aheadOf 4 = .ok (.iload_n 3, 1) := by decide +kernel
theorem dX9_aheadOf_5 : decode cX9_aheadOf 5 = .ok (.aload_n 0, 1) := by decide +kernel
theorem dX9_aheadOf_6 : decode cX9_aheadOf 6 = .ok (.invokevirtual 42, 3) := by decide +kernel
theorem dX9_aheadOf_9 : decode cX9_aheadOf 9 = .ok (.if_icmp .ge 75, 3) := by decide +kernel
theorem dX9_aheadOf_12 : decode cX9_aheadOf 12 = .ok (.aload_n 0, 1) := by decide +kernel
theorem dX9_aheadOf_13 : decode cX9_aheadOf 13 = .ok (.iload_n 3, 1) := by decide +kernel
theorem dX9_aheadOf_14 : decode cX9_aheadOf 14 = .ok (.invokevirtual 149, 3) := by decide +kernel
theorem dX9_aheadOf_17 : decode cX9_aheadOf 17 = .ok (.aload_n 0, 1) := by decide +kernel
theorem dX9_aheadOf_18 : decode cX9_aheadOf 18 = .ok (.iload_n 1, 1) := by decide +kernel
theorem dX9_aheadOf_19 : decode cX9_aheadOf 19 = .ok (.invokevirtual 149, 3) := by decide +kernel
theorem dX9_aheadOf_22 : decode cX9_aheadOf 22 = .ok (.if_icmp .gt 21, 3) := by decide +kernel
theorem dX9_aheadOf_25 : decode cX9_aheadOf 25 = .ok (.aload_n 0, 1) := by decide +kernel
theorem dX9_aheadOf_26 : decode cX9_aheadOf 26 = .ok (.iload_n 3, 1) := by decide +kernel
theorem dX9_aheadOf_27 : decode cX9_aheadOf 27 = .ok (.invokevirtual 149, 3) := by decide +kernel
theorem dX9_aheadOf_30 : decode cX9_aheadOf 30 = .ok (.aload_n 0, 1) := by decide +kernel
theorem dX9_aheadOf_31 : decode cX9_aheadOf 31 = .ok (.iload_n 1, 1) := by decide +kernel
theorem dX9_aheadOf_32 : decode cX9_aheadOf 32 = .ok (.invokevirtual 149, 3) := by decide +kernel
theorem dX9_aheadOf_35 : decode cX9_aheadOf 35 = .ok (.if_icmp .ne 12, 3) := by decide +kernel
theorem dX9_aheadOf_38 : decode cX9_aheadOf 38 = .ok (.iload_n 3, 1) := by decide +kernel
theorem dX9_aheadOf_39 : decode cX9_aheadOf 39 = .ok (.iload_n 1, 1) := by decide +kernel
theorem dX9_aheadOf_40 : decode cX9_aheadOf 40 = .ok (.if_icmp .ge 7, 3) := by decide +kernel
theorem dX9_aheadOf_43 : decode cX9_aheadOf 43 = .ok (.iconst 1, 1) := by decide +kernel
theorem dX9_aheadOf_44 : decode cX9_aheadOf 44 = .ok (.goto 4, 3) := by decide +kernel
theorem dX9_aheadOf_47 : decode cX9_aheadOf 47 = .ok (.iconst 0, 1) := by decide +kernel
theorem dX9_aheadOf_48 : decode cX9_aheadOf 48 = .ok (.istore 4, 2) := by decide +kernel
theorem dX9_aheadOf_50 : decode cX9_aheadOf 50 = .ok (.iload_n 2, 1) := by decide +kernel
theorem dX9_aheadOf_51 : decode cX9_aheadOf 51 = .ok (.aload_n 0, 1) := by decide +kernel
theorem dX9_aheadOf_52 : decode cX9_aheadOf 52 = .ok (.iload_n 3, 1) := by decide +kernel
theorem dX9_aheadOf_53 : decode cX9_aheadOf 53 = .ok (.iconst 0, 1) := by decide +kernel
theorem dX9_aheadOf_54 : decode cX9_aheadOf 54 = .ok (.invokevirtual 50, 3) := by decide +kernel
theorem dX9_aheadOf_57 : decode cX9_aheadOf 57 = .ok (.aload_n 0, 1) := by decide +kernel
theorem dX9_aheadOf_58 : decode cX9_aheadOf 58 = .ok (.iload_n 1, 1) := by decide +kernel
theorem dX9_aheadOf_59 : decode cX9_aheadOf 59 = .ok (.iconst 0, 1) := by decide +kernel
theorem dX9_aheadOf_60 : decode cX9_aheadOf 60 = .ok (.invokevirtual 50, 3) := by decide +kernel
theorem dX9_aheadOf_63 : decode cX9_aheadOf 63 = .ok (.if_icmp .ne 12, 3) := by decide +kernel
theorem dX9_aheadOf_66 : decode cX9_aheadOf 66 = .ok (.iload 4, 2) := by decide +kernel
theorem dX9_aheadOf_68 : decode cX9_aheadOf 68 = .ok (.ifCond .eq 7, 3) := by decide +kernel
theorem dX9_aheadOf_71 : decode cX9_aheadOf 71 = .ok (.iconst 1, 1) := by decide +kernel
theorem dX9_aheadOf_72 : decode cX9_aheadOf 72 = .ok (.goto 4, 3) := by decide +kernel
theorem dX9_aheadOf_75 : decode cX9_aheadOf 75 = .ok (.iconst 0, 1) := by decide +kernel
theorem dX9_aheadOf_76 : decode cX9_aheadOf 76 = .ok (.iadd, 1) := by decide +kernel
theorem dX9_aheadOf_77 : decode cX9_aheadOf 77 = .ok (.istore_n 2, 1) := by decide +kernel
theorem dX9_aheadOf_78 : decode cX9_aheadOf 78 = .ok (.iinc 3 1, 3) := by decide +kernel
theorem dX9_aheadOf_81 : decode cX9_aheadOf 81 = .ok (.goto (-77), 3) := by decide +kernel
theorem dX9_aheadOf_84 : decode cX9_aheadOf 84 = .ok (.iload_n 2, 1) := by decide +kernel
theorem dX9_aheadOf_85 : decode cX9_aheadOf 85 = .ok (.ireturn, 1) := by decide +kernel
theorem dX9_sorted_0 : decode cX9_sorted 0 = .ok (.iload_n 1, 1) := by decide +kernel
theorem dX9_sorted_1 : decode cX9_sorted 1 = .ok (.i2l, 1) := by decide +kernel
theorem dX9_sorted_2 : decode cX9_sorted 2 = .ok (.lconst 0, 1) := by decide +kernel
theorem dX9_sorted_3 : decode cX9_sorted 3 = .ok (.lconst 1, 1) := by decide +kernel
theorem dX9_sorted_4 : decode cX9_sorted 4 = .ok (.invokestatic 46, 3) := by decide +kernel
theorem dX9_sorted_7 : decode cX9_sorted 7 = .ok (.ifCond .eq 7, 3) := by decide +kernel
theorem dX9_sorted_10 : decode cX9_sorted 10 = .ok (.iload_n 2, 1) := by decide +kernel
theorem dX9_sorted_11 : decode cX9_sorted 11 = .ok (.ifCond .ge 10, 3) := by decide +kernel
theorem dX9_sorted_14 : decode cX9_sorted 14 = .ok (.aload_n 0, 1) := by decide +kernel
theorem dX9_sorted_15 : decode cX9_sorted 15 = .ok (.bipush (-2), 2) := by decide +kernel
theorem dX9_sorted_17 : decode cX9_sorted 17 = .ok (.invokevirtual 101, 3) := by decide +kernel
theorem dX9_sorted_20 : decode cX9_sorted 20 = .ok (.ireturn, 1) := by decide +kernel
theorem dX9_sorted_21 : decode cX9_sorted 21 = .ok (.iconst 0, 1) := by decide +kernel
theorem dX9_sorted_22 : decode cX9_sorted 22 = .ok (.istore_n 3, 1) := by decide +kernel
theorem dX9_sorted_23 : decode cX9_sorted 23 = .ok (.iload_n 3, 1) := by decide +kernel
theorem dX9_sorted_24 : decode cX9_sorted 24 = .ok (.aload_n 0, 1) := by decide +kernel
theorem dX9_sorted_25 : decode cX9_sorted 25 = .ok (.invokevirtual 42, 3) := by decide +kernel
theorem dX9_sorted_28 : decode cX9_sorted 28 = .ok (.if_icmp .ge 30, 3) := by decide +kernel
theorem dX9_sorted_31 : decode cX9_sorted 31 = .ok (.aload_n 0, 1) := by decide +kernel
theorem dX9_sorted_32 : decode cX9_sorted 32 = .ok (.iload_n 3, 1) := by decide +kernel
theorem dX9_sorted_33 : decode cX9_sorted 33 = .ok (.iconst 0, 1) := by decide +kernel
theorem dX9_sorted_34 : decode cX9_sorted 34 = .ok (.invokevirtual 50, 3) := by decide +kernel
theorem dX9_sorted_37 : decode cX9_sorted 37 = .ok (.iload_n 1, 1) := by decide +kernel
theorem dX9_sorted_38 : decode cX9_sorted 38 = .ok (.if_icmp .ne 14, 3) := by decide +kernel
theorem dX9_sorted_41 : decode cX9_sorted 41 = .ok (.aload_n 0, 1) := by decide +kernel
theorem dX9_sorted_42 : decode cX9_sorted 42 = .ok (.iload_n 3, 1) := by decide +kernel
theorem dX9_sorted_43 : decode cX9_sorted 43 = .ok (.invokevirtual 287, 3) := by decide +kernel
theorem dX9_sorted_46 : decode cX9_sorted 46 = .ok (.iload_n 2, 1) := by decide +kernel
theorem dX9_sorted_47 : decode cX9_sorted 47 = .ok (.if_icmp .ne 5, 3) := by decide +kernel
theorem dX9_sorted_50 : decode cX9_sorted 50 = .ok (.iload_n 3, 1) := by decide +kernel
theorem dX9_sorted_51 : decode cX9_sorted 51 = .ok (.ireturn, 1) := by decide +kernel
theorem dX9_sorted_52 : decode cX9_sorted 52 = .ok (.iinc 3 1, 3) := by decide +kernel
theorem dX9_sorted_55 : decode cX9_sorted 55 = .ok (.goto (-32), 3) := by decide +kernel
theorem dX9_sorted_58 : decode cX9_sorted 58 = .ok (.iconst (-1), 1) := by decide +kernel
theorem dX9_sorted_59 : decode cX9_sorted 59 = .ok (.ireturn, 1) := by decide +kernel
theorem dX9_kept_0 : decode cX9_kept 0 = .ok (.aload_n 0, 1) := by decide +kernel
theorem dX9_kept_1 : decode cX9_kept 1 = .ok (.getfield 7, 3) := by decide +kernel
theorem dX9_kept_4 : decode cX9_kept 4 = .ok (.bipush 56, 2) := by decide +kernel
theorem dX9_kept_6 : decode cX9_kept 6 = .ok (.bipush 33, 2) := by decide +kernel
theorem dX9_kept_8 : decode cX9_kept 8 = .ok (.iload_n 1, 1) := by decide +kernel
theorem dX9_kept_9 : decode cX9_kept 9 = .ok (.imul, 1) := by decide +kernel
theorem dX9_kept_10 : decode cX9_kept 10 = .ok (.iadd, 1) := by decide +kernel
theorem dX9_kept_11 : decode cX9_kept 11 = .ok (.iconst 1, 1) := by decide +kernel
theorem dX9_kept_12 : decode cX9_kept 12 = .ok (.iadd, 1) := by decide +kernel
theorem dX9_kept_13 : decode cX9_kept 13 = .ok (.iconst 4, 1) := by decide +kernel
theorem dX9_kept_14 : decode cX9_kept 14 = .ok (.iload_n 2, 1) := by decide +kernel
theorem dX9_kept_15 : decode cX9_kept 15 = .ok (.imul, 1) := by decide +kernel
theorem dX9_kept_16 : decode cX9_kept 16 = .ok (.iadd, 1) := by decide +kernel
theorem dX9_kept_17 : decode cX9_kept 17 = .ok (.iload_n 3, 1) := by decide +kernel
theorem dX9_kept_18 : decode cX9_kept 18 = .ok (.iadd, 1) := by decide +kernel
theorem dX9_kept_19 : decode cX9_kept 19 = .ok (.iaload, 1) := by decide +kernel
theorem dX9_kept_20 : decode cX9_kept 20 = .ok (.ireturn, 1) := by decide +kernel
theorem dX9_isKept_0 : decode cX9_isKept 0 = .ok (.aload_n 0, 1) := by decide +kernel
theorem dX9_isKept_1 : decode cX9_isKept 1 = .ok (.getfield 7, 3) := by decide +kernel
theorem dX9_isKept_4 : decode cX9_isKept 4 = .ok (.bipush 56, 2) := by decide +kernel
theorem dX9_isKept_6 : decode cX9_isKept 6 = .ok (.bipush 33, 2) := by decide +kernel
theorem dX9_isKept_8 : decode cX9_isKept 8 = .ok (.iload_n 1, 1) := by decide +kernel
theorem dX9_isKept_9 : decode cX9_isKept 9 = .ok (.imul, 1) := by decide +kernel
theorem dX9_isKept_10 : decode cX9_isKept 10 = .ok (.iadd, 1) := by decide +kernel
theorem dX9_isKept_11 : decode cX9_isKept 11 = .ok (.iaload, 1) := by decide +kernel
theorem dX9_isKept_12 : decode cX9_isKept 12 = .ok (.iconst 1, 1) := by decide +kernel
theorem dX9_isKept_13 : decode cX9_isKept 13 = .ok (.if_icmp .ne 7, 3) := by decide +kernel
theorem dX9_isKept_16 : decode cX9_isKept 16 = .ok (.iconst 1, 1) := by decide +kernel
theorem dX9_isKept_17 : decode cX9_isKept 17 = .ok (.goto 4, 3) := by decide +kernel
theorem dX9_isKept_20 : decode cX9_isKept 20 = .ok (.iconst 0, 1) := by decide +kernel
theorem dX9_isKept_21 : decode cX9_isKept 21 = .ok (.ireturn, 1) := by decide +kernel
theorem dX9_keeps_0 : decode cX9_keeps 0 = .ok (.iload_n 1, 1) := by decide +kernel
theorem dX9_keeps_1 : decode cX9_keeps 1 = .ok (.i2l, 1) := by decide +kernel
theorem dX9_keeps_2 : decode cX9_keeps 2 = .ok (.lconst 0, 1) := by decide +kernel
theorem dX9_keeps_3 : decode cX9_keeps 3 = .ok (.ldc2_w 117, 3) := by decide +kernel
theorem dX9_keeps_6 : decode cX9_keeps 6 = .ok (.invokestatic 46, 3) := by decide +kernel
theorem dX9_keeps_9 : decode cX9_keeps 9 = .ok (.ifCond .ne 10, 3) := by decide +kernel
theorem dX9_keeps_12 : decode cX9_keeps 12 = .ok (.aload_n 0, 1) := by decide +kernel
theorem dX9_keeps_13 : decode cX9_keeps 13 = .ok (.bipush (-2), 2) := by decide +kernel
theorem dX9_keeps_15 : decode cX9_keeps 15 = .ok (.invokevirtual 101, 3) := by decide +kernel
theorem dX9_keeps_18 : decode cX9_keeps 18 = .ok (.ireturn, 1) := by decide +kernel
theorem dX9_keeps_19 : decode cX9_keeps 19 = .ok (.aload_n 0, 1) := by decide +kernel
theorem dX9_keeps_20 : decode cX9_keeps 20 = .ok (.invokevirtual 111, 3) := by decide +kernel
theorem dX9_keeps_23 : decode cX9_keeps 23 = .ok (.bipush 56, 2) := by decide +kernel
theorem dX9_keeps_25 : decode cX9_keeps 25 = .ok (.bipush 33, 2) := by decide +kernel
theorem dX9_keeps_27 : decode cX9_keeps 27 = .ok (.iload_n 1, 1) := by decide +kernel
theorem dX9_keeps_28 : decode cX9_keeps 28 = .ok (.imul, 1) := by decide +kernel
theorem dX9_keeps_29 : decode cX9_keeps 29 = .ok (.iadd, 1) := by decide +kernel
theorem dX9_keeps_30 : decode cX9_keeps 30 = .ok (.istore_n 2, 1) := by decide +kernel
theorem dX9_keeps_31 : decode cX9_keeps 31 = .ok (.aload_n 0, 1) := by decide +kernel
theorem dX9_keeps_32 : decode cX9_keeps 32 = .ok (.getfield 7, 3) := by decide +kernel
theorem dX9_keeps_35 : decode cX9_keeps 35 = .ok (.iload_n 2, 1) := by decide +kernel
theorem dX9_keeps_36 : decode cX9_keeps 36 = .ok (.iconst 1, 1) := by decide +kernel
theorem dX9_keeps_37 : decode cX9_keeps 37 = .ok (.iastore, 1) := by decide +kernel
theorem dX9_keeps_38 : decode cX9_keeps 38 = .ok (.iconst 0, 1) := by decide +kernel
theorem dX9_keeps_39 : decode cX9_keeps 39 = .ok (.istore_n 3, 1) := by decide +kernel
theorem dX9_keeps_40 : decode cX9_keeps 40 = .ok (.iload_n 3, 1) := by decide +kernel
theorem dX9_keeps_41 : decode cX9_keeps 41 = .ok (.bipush 8, 2) := by decide +kernel
theorem dX9_keeps_43 : decode cX9_keeps 43 = .ok (.if_icmp .ge 138, 3) := by decide +kernel
theorem dX9_keeps_46 : decode cX9_keeps 46 = .ok (.iload_n 3, 1) := by decide +kernel
theorem dX9_keeps_47 : decode cX9_keeps 47 = .ok (.aload_n 0, 1) := by decide +kernel
theorem dX9_keeps_48 : decode cX9_keeps 48 = .ok (.invokevirtual 42, 3) := by decide +kernel
theorem dX9_keeps_51 : decode cX9_keeps 51 = .ok (.if_icmp .ge 15, 3) := by decide +kernel
theorem dX9_keeps_54 : decode cX9_keeps 54 = .ok (.aload_n 0, 1) := by decide +kernel
theorem dX9_keeps_55 : decode cX9_keeps 55 = .ok (.iload_n 3, 1) := by decide +kernel
theorem dX9_keeps_56 : decode cX9_keeps 56 = .ok (.invokevirtual 82, 3) := by decide +kernel
theorem dX9_keeps_59 : decode cX9_keeps 59 = .ok (.ifCond .eq 7, 3) := by decide +kernel
theorem dX9_keeps_62 : decode cX9_keeps 62 = .ok (.iconst 1, 1) := by decide +kernel
theorem dX9_keeps_63 : decode cX9_keeps 63 = .ok (.goto 4, 3) := by decide +kernel
theorem dX9_keeps_66 : decode cX9_keeps 66 = .ok (.iconst 0, 1) := by decide +kernel
theorem dX9_keeps_67 : decode cX9_keeps 67 = .ok (.istore 4, 2) := by decide +kernel
theorem dX9_keeps_69 : decode cX9_keeps 69 = .ok (.aload_n 0, 1) := by decide +kernel
theorem dX9_keeps_70 : decode cX9_keeps 70 = .ok (.getfield 7, 3) := by decide +kernel
theorem dX9_keeps_73 : decode cX9_keeps 73 = .ok (.iload_n 2, 1) := by decide +kernel
theorem dX9_keeps_74 : decode cX9_keeps 74 = .ok (.iconst 1, 1) := by decide +kernel
theorem dX9_keeps_75 : decode cX9_keeps 75 = .ok (.iadd, 1) := by decide +kernel
theorem dX9_keeps_76 : decode cX9_keeps 76 = .ok (.iconst 4, 1) := by decide +kernel
theorem dX9_keeps_77 : decode cX9_keeps 77 = .ok (.iload_n 3, 1) := by decide +kernel
theorem dX9_keeps_78 : decode cX9_keeps 78 = .ok (.imul, 1) := by decide +kernel
theorem dX9_keeps_79 : decode cX9_keeps 79 = .ok (.iadd, 1) := by decide +kernel
theorem dX9_keeps_80 : decode cX9_keeps 80 = .ok (.iload 4, 2) := by decide +kernel
theorem dX9_keeps_82 : decode cX9_keeps 82 = .ok (.ifCond .eq 12, 3) := by decide +kernel
theorem dX9_keeps_85 : decode cX9_keeps 85 = .ok (.aload_n 0, 1) := by decide +kernel
theorem dX9_keeps_86 : decode cX9_keeps 86 = .ok (.iload_n 3, 1) := by decide +kernel
theorem dX9_keeps_87 : decode cX9_keeps 87 = .ok (.iconst 4, 1) := by decide +kernel
theorem dX9_keeps_88 : decode cX9_keeps 88 = .ok (.invokevirtual 50, 3) := by decide +kernel
theorem dX9_keeps_91 : decode cX9_keeps 91 = .ok (.goto 4, 3) := by decide +kernel
theorem dX9_keeps_94 : decode cX9_keeps 94 = .ok (.iconst (-1), 1) := by decide +kernel
theorem dX9_keeps_95 : decode cX9_keeps 95 = .ok (.iastore, 1) := by decide +kernel
theorem dX9_keeps_96 : decode cX9_keeps 96 = .ok (.aload_n 0, 1) := by decide +kernel
theorem dX9_keeps_97 : decode cX9_keeps 97 = .ok (.getfield 7, 3) := by decide +kernel
theorem dX9_keeps_100 : decode cX9_keeps 100 = .ok (.iload_n 2, 1) := by decide +kernel
theorem dX9_keeps_101 : decode cX9_keeps 101 = .ok (.iconst 2, 1) := by decide +kernel
theorem dX9_keeps_102 : decode cX9_keeps 102 = .ok (.iadd, 1) := by decide +kernel
theorem dX9_keeps_103 : decode cX9_keeps 103 = .ok (.iconst 4, 1) := by decide +kernel
theorem dX9_keeps_104 : decode cX9_keeps 104 = .ok (.iload_n 3, 1) := by decide +kernel
theorem dX9_keeps_105 : decode cX9_keeps 105 = .ok (.imul, 1) := by decide +kernel
theorem dX9_keeps_106 : decode cX9_keeps 106 = .ok (.iadd, 1) := by decide +kernel
theorem dX9_keeps_107 : decode cX9_keeps 107 = .ok (.iload 4, 2) := by decide +kernel
theorem dX9_keeps_109 : decode cX9_keeps 109 = .ok (.ifCond .eq 12, 3) := by decide +kernel
theorem dX9_keeps_112 : decode cX9_keeps 112 = .ok (.aload_n 0, 1) := by decide +kernel
theorem dX9_keeps_113 : decode cX9_keeps 113 = .ok (.iload_n 3, 1) := by decide +kernel
theorem dX9_keeps_114 : decode cX9_keeps 114 = .ok (.iconst 5, 1) := by decide +kernel
theorem dX9_keeps_115 : decode cX9_keeps 115 = .ok (.invokevirtual 50, 3) := by decide +kernel
theorem dX9_keeps_118 : decode cX9_keeps 118 = .ok (.goto 4, 3) := by decide +kernel
theorem dX9_keeps_121 : decode cX9_keeps 121 = .ok (.iconst (-1), 1) := by decide +kernel
theorem dX9_keeps_122 : decode cX9_keeps 122 = .ok (.iastore, 1) := by decide +kernel
theorem dX9_keeps_123 : decode cX9_keeps 123 = .ok (.aload_n 0, 1) := by decide +kernel
theorem dX9_keeps_124 : decode cX9_keeps 124 = .ok (.getfield 7, 3) := by decide +kernel
theorem dX9_keeps_127 : decode cX9_keeps 127 = .ok (.iload_n 2, 1) := by decide +kernel
theorem dX9_keeps_128 : decode cX9_keeps 128 = .ok (.iconst 3, 1) := by decide +kernel
theorem dX9_keeps_129 : decode cX9_keeps 129 = .ok (.iadd, 1) := by decide +kernel
theorem dX9_keeps_130 : decode cX9_keeps 130 = .ok (.iconst 4, 1) := by decide +kernel
theorem dX9_keeps_131 : decode cX9_keeps 131 = .ok (.iload_n 3, 1) := by decide +kernel
theorem dX9_keeps_132 : decode cX9_keeps 132 = .ok (.imul, 1) := by decide +kernel
theorem dX9_keeps_133 : decode cX9_keeps 133 = .ok (.iadd, 1) := by decide +kernel
theorem dX9_keeps_134 : decode cX9_keeps 134 = .ok (.iload 4, 2) := by decide +kernel
theorem dX9_keeps_136 : decode cX9_keeps 136 = .ok (.ifCond .eq 11, 3) := by decide +kernel
theorem dX9_keeps_139 : decode cX9_keeps 139 = .ok (.aload_n 0, 1) := by decide +kernel
theorem dX9_keeps_140 : decode cX9_keeps 140 = .ok (.iload_n 3, 1) := by decide +kernel
theorem dX9_keeps_141 : decode cX9_keeps 141 = .ok (.invokevirtual 64, 3) := by decide +kernel
theorem dX9_keeps_144 : decode cX9_keeps 144 = .ok (.goto 4, 3) := by decide +kernel
theorem dX9_keeps_147 : decode cX9_keeps 147 = .ok (.iconst 0, 1) := by decide +kernel
theorem dX9_keeps_148 : decode cX9_keeps 148 = .ok (.iastore, 1) := by decide +kernel
theorem dX9_keeps_149 : decode cX9_keeps 149 = .ok (.aload_n 0, 1) := by decide +kernel
theorem dX9_keeps_150 : decode cX9_keeps 150 = .ok (.getfield 7, 3) := by decide +kernel
theorem dX9_keeps_153 : decode cX9_keeps 153 = .ok (.iload_n 2, 1) := by decide +kernel
theorem dX9_keeps_154 : decode cX9_keeps 154 = .ok (.iconst 4, 1) := by decide +kernel
theorem dX9_keeps_155 : decode cX9_keeps 155 = .ok (.iadd, 1) := by decide +kernel
theorem dX9_keeps_156 : decode cX9_keeps 156 = .ok (.iconst 4, 1) := by decide +kernel
theorem dX9_keeps_157 : decode cX9_keeps 157 = .ok (.iload_n 3, 1) := by decide +kernel
theorem dX9_keeps_158 : decode cX9_keeps 158 = .ok (.imul, 1) := by decide +kernel
theorem dX9_keeps_159 : decode cX9_keeps 159 = .ok (.iadd, 1) := by decide +kernel
theorem dX9_keeps_160 : decode cX9_keeps 160 = .ok (.iload 4, 2) := by decide +kernel
theorem dX9_keeps_162 : decode cX9_keeps 162 = .ok (.ifCond .eq 11, 3) := by decide +kernel
theorem dX9_keeps_165 : decode cX9_keeps 165 = .ok (.aload_n 0, 1) := by decide +kernel
theorem dX9_keeps_166 : decode cX9_keeps 166 = .ok (.iload_n 3, 1) := by decide +kernel
theorem dX9_keeps_167 : decode cX9_keeps 167 = .ok (.invokevirtual 68, 3) := by decide +kernel
theorem dX9_keeps_170 : decode cX9_keeps 170 = .ok (.goto 4, 3) := by decide +kernel
theorem dX9_keeps_173 : decode cX9_keeps 173 = .ok (.iconst 0, 1) := by decide +kernel
theorem dX9_keeps_174 : decode cX9_keeps 174 = .ok (.iastore, 1) := by decide +kernel
theorem dX9_keeps_175 : decode cX9_keeps 175 = .ok (.iinc 3 1, 3) := by decide +kernel
theorem dX9_keeps_178 : decode cX9_keeps 178 = .ok (.goto (-138), 3) := by decide +kernel
theorem dX9_keeps_181 : decode cX9_keeps 181 = .ok (.aload_n 0, 1) := by decide +kernel
theorem dX9_keeps_182 : decode cX9_keeps 182 = .ok (.invokevirtual 175, 3) := by decide +kernel
theorem dX9_keeps_185 : decode cX9_keeps 185 = .ok (.ireturn, 1) := by decide +kernel
theorem dX9_takes_0 : decode cX9_takes 0 = .ok (.iload_n 1, 1) := by decide +kernel
theorem dX9_takes_1 : decode cX9_takes 1 = .ok (.i2l, 1) := by decide +kernel
theorem dX9_takes_2 : decode cX9_takes 2 = .ok (.lconst 0, 1) := by decide +kernel
theorem dX9_takes_3 : decode cX9_takes 3 = .ok (.ldc2_w 117, 3) := by decide +kernel
theorem dX9_takes_6 : decode cX9_takes 6 = .ok (.invokestatic 46, 3) := by decide +kernel
theorem dX9_takes_9 : decode cX9_takes 9 = .ok (.ifCond .ne 10, 3) := by decide +kernel
theorem dX9_takes_12 : decode cX9_takes 12 = .ok (.aload_n 0, 1) := by decide +kernel
theorem dX9_takes_13 : decode cX9_takes 13 = .ok (.bipush (-2), 2) := by decide +kernel
theorem dX9_takes_15 : decode cX9_takes 15 = .ok (.invokevirtual 101, 3) := by decide +kernel
theorem dX9_takes_18 : decode cX9_takes 18 = .ok (.ireturn, 1) := by decide +kernel
theorem dX9_takes_19 : decode cX9_takes 19 = .ok (.aload_n 0, 1) := by decide +kernel
theorem dX9_takes_20 : decode cX9_takes 20 = .ok (.iload_n 1, 1) := by decide +kernel
theorem dX9_takes_21 : decode cX9_takes 21 = .ok (.invokevirtual 290, 3) := by decide +kernel
theorem dX9_takes_24 : decode cX9_takes 24 = .ok (.ifCond .ne 10, 3) := by decide +kernel
theorem dX9_takes_27 : decode cX9_takes 27 = .ok (.aload_n 0, 1) := by decide +kernel
theorem dX9_takes_28 : decode cX9_takes 28 = .ok (.bipush (-3), 2) := by decide +kernel
theorem dX9_takes_30 : decode cX9_takes 30 = .ok (.invokevirtual 101, 3) := by decide +kernel
theorem dX9_takes_33 : decode cX9_takes 33 = .ok (.ireturn, 1) := by decide +kernel
theorem dX9_takes_34 : decode cX9_takes 34 = .ok (.aload_n 0, 1) := by decide +kernel
theorem dX9_takes_35 : decode cX9_takes 35 = .ok (.invokevirtual 111, 3) := by decide +kernel
theorem dX9_takes_38 : decode cX9_takes 38 = .ok (.iconst 0, 1) := by decide +kernel
theorem dX9_takes_39 : decode cX9_takes 39 = .ok (.istore_n 2, 1) := by decide +kernel
theorem dX9_takes_40 : decode cX9_takes 40 = .ok (.iload_n 2, 1) := by decide +kernel
theorem dX9_takes_41 : decode cX9_takes 41 = .ok (.aload_n 0, 1) := by decide +kernel
theorem dX9_takes_42 : decode cX9_takes 42 = .ok (.invokevirtual 42, 3) := by decide +kernel
theorem dX9_takes_45 : decode cX9_takes 45 = .ok (.if_icmp .ge 35, 3) := by decide +kernel
theorem dX9_takes_48 : decode cX9_takes 48 = .ok (.aload_n 0, 1) := by decide +kernel
theorem dX9_takes_49 : decode cX9_takes 49 = .ok (.iload_n 2, 1) := by decide +kernel
theorem dX9_takes_50 : decode cX9_takes 50 = .ok (.iconst 4, 1) := by decide +kernel
theorem dX9_takes_51 : decode cX9_takes 51 = .ok (.aload_n 0, 1) := by decide +kernel
theorem dX9_takes_52 : decode cX9_takes 52 = .ok (.iload_n 1, 1) := by decide +kernel
theorem dX9_takes_53 : decode cX9_takes 53 = .ok (.iload_n 2, 1) := by decide +kernel
theorem dX9_takes_54 : decode cX9_takes 54 = .ok (.iconst 0, 1) := by decide +kernel
theorem dX9_takes_55 : decode cX9_takes 55 = .ok (.invokevirtual 293, 3) := by decide +kernel
theorem dX9_takes_58 : decode cX9_takes 58 = .ok (.invokevirtual 138, 3) := by decide +kernel
theorem dX9_takes_61 : decode cX9_takes 61 = .ok (.aload_n 0, 1) := by decide +kernel
theorem dX9_takes_62 : decode cX9_takes 62 = .ok (.iload_n 2, 1) := by decide +kernel
theorem dX9_takes_63 : decode cX9_takes 63 = .ok (.iconst 5, 1) := by decide +kernel
theorem dX9_takes_64 : decode cX9_takes 64 = .ok (.aload_n 0, 1) := by decide +kernel
theorem dX9_takes_65 : decode cX9_takes 65 = .ok (.iload_n 1, 1) := by decide +kernel
theorem dX9_takes_66 : decode cX9_takes 66 = .ok (.iload_n 2, 1) := by decide +kernel
theorem dX9_takes_67 : decode cX9_takes 67 = .ok (.iconst 1, 1) := by decide +kernel
theorem dX9_takes_68 : decode cX9_takes 68 = .ok (.invokevirtual 293, 3) := by decide +kernel
theorem dX9_takes_71 : decode cX9_takes 71 = .ok (.invokevirtual 138, 3) := by decide +kernel
theorem dX9_takes_74 : decode cX9_takes 74 = .ok (.iinc 2 1, 3) := by decide +kernel
theorem dX9_takes_77 : decode cX9_takes 77 = .ok (.goto (-37), 3) := by decide +kernel
theorem dX9_takes_80 : decode cX9_takes 80 = .ok (.aload_n 0, 1) := by decide +kernel
theorem dX9_takes_81 : decode cX9_takes 81 = .ok (.invokevirtual 175, 3) := by decide +kernel
theorem dX9_takes_84 : decode cX9_takes 84 = .ok (.ireturn, 1) := by decide +kernel
theorem dX9_otherwiseNow_0 : decode cX9_otherwiseNow 0 = .ok (.iconst 0, 1) := by decide +kernel
theorem dX9_otherwiseNow_1 : decode cX9_otherwiseNow 1 = .ok (.istore_n 3, 1) := by decide +kernel
theorem dX9_otherwiseNow_2 : decode cX9_otherwiseNow 2 = .ok (.iconst 0, 1) := by decide +kernel
theorem dX9_otherwiseNow_3 : decode cX9_otherwiseNow 3 = .ok (.istore 4, 2) := by decide +kernel
theorem dX9_otherwiseNow_5 : decode cX9_otherwiseNow 5 = .ok (.iconst 0, 1) := by decide +kernel
theorem dX9_otherwiseNow_6 : decode cX9_otherwiseNow 6 = .ok (.istore 5, 2) := by decide +kernel
theorem dX9_otherwiseNow_8 : decode cX9_otherwiseNow 8 = .ok (.iload 5, 2) := by decide +kernel
theorem dX9_otherwiseNow_10 : decode cX9_otherwiseNow 10 = .ok (.bipush 8, 2) := by decide +kernel
theorem dX9_otherwiseNow_12 : decode cX9_otherwiseNow 12 = .ok (.if_icmp .ge 179, 3) := by decide +kernel
theorem dX9_otherwiseNow_15 : decode cX9_otherwiseNow 15 = .ok (.iload 5, 2) := by decide +kernel
theorem dX9_otherwiseNow_17 : decode cX9_otherwiseNow 17 = .ok (.aload_n 0, 1) := by decide +kernel
theorem dX9_otherwiseNow_18 : decode cX9_otherwiseNow 18 = .ok (.invokevirtual 42, 3) := by decide +kernel
theorem dX9_otherwiseNow_21 : decode cX9_otherwiseNow 21 = .ok (.if_icmp .ge 16, 3) := by decide +kernel
theorem dX9_otherwiseNow_24 : decode cX9_otherwiseNow 24 = .ok (.aload_n 0, 1) := by decide +kernel
theorem dX9_otherwiseNow_25 : decode cX9_otherwiseNow 25 = .ok (.iload 5, 2) := by decide +kernel
theorem dX9_otherwiseNow_27 : decode cX9_otherwiseNow 27 = .ok (.invokevirtual 82, 3) := by decide +kernel
theorem dX9_otherwiseNow_30 : decode cX9_otherwiseNow 30 = .ok (.ifCond .eq 7, 3) := by decide +kernel
theorem dX9_otherwiseNow_33 : decode cX9_otherwiseNow 33 = .ok (.iconst 1, 1) := by decide +kernel
theorem dX9_otherwiseNow_34 : decode cX9_otherwiseNow 34 = .ok (.goto 4, 3) := by decide +kernel
theorem dX9_otherwiseNow_37 : decode cX9_otherwiseNow 37 = .ok (.iconst 0, 1) := by decide +kernel
theorem dX9_otherwiseNow_38 : decode cX9_otherwiseNow 38 = .ok (.istore 6, 2) := by decide +kernel
theorem dX9_otherwiseNow_40 : decode cX9_otherwiseNow 40 = .ok (.aload_n 0, 1) := by decide +kernel
theorem dX9_otherwiseNow_41 : decode cX9_otherwiseNow 41 = .ok (.iload_n 1, 1) := by decide +kernel
theorem dX9_otherwiseNow_42 : decode cX9_otherwiseNow 42 = .ok (.iload 5, 2) := by decide +kernel
theorem dX9_otherwiseNow_44 : decode cX9_otherwiseNow 44 = .ok (.iconst 0, 1) := by decide +kernel
theorem dX9_otherwiseNow_45 : decode cX9_otherwiseNow 45 = .ok (.invokevirtual 293, 3) := by decide +kernel
theorem dX9_otherwiseNow_48 : decode cX9_otherwiseNow 48 = .ok (.iconst (-1), 1) := by decide +kernel
theorem dX9_otherwiseNow_49 : decode cX9_otherwiseNow 49 = .ok (.if_icmp .eq 7, 3) := by decide +kernel
theorem dX9_otherwiseNow_52 : decode cX9_otherwiseNow 52 = .ok (.iconst 1, 1) := by decide +kernel
theorem dX9_otherwiseNow_53 : decode cX9_otherwiseNow 53 = .ok (.goto 4, 3) := by decide +kernel
theorem dX9_otherwiseNow_56 : decode cX9_otherwiseNow 56 = .ok (.iconst 0, 1) := by decide +kernel
theorem dX9_otherwiseNow_57 : decode cX9_otherwiseNow 57 = .ok (.istore 7, 2) := by decide +kernel
theorem dX9_otherwiseNow_59 : decode cX9_otherwiseNow 59 = .ok (.iload 6, 2) := by decide +kernel
theorem dX9_otherwiseNow_61 : decode cX9_otherwiseNow 61 = .ok (.ifCond .eq 106, 3) := by decide +kernel
theorem dX9_otherwiseNow_64 : decode cX9_otherwiseNow 64 = .ok (.iload 7, 2) := by decide +kernel
theorem dX9_otherwiseNow_66 : decode cX9_otherwiseNow 66 = .ok (.ifCond .eq 101, 3) := by decide +kernel
theorem dX9_otherwiseNow_69 : decode cX9_otherwiseNow 69 = .ok (.aload_n 0, 1) := by decide +kernel
theorem dX9_otherwiseNow_70 : decode cX9_otherwiseNow 70 = .ok (.iload 5, 2) := by decide +kernel
theorem dX9_otherwiseNow_72 : decode cX9_otherwiseNow 72 = .ok (.iconst 4, 1) := by decide +kernel
theorem dX9_otherwiseNow_73 : decode cX9_otherwiseNow 73 = .ok (.invokevirtual 50, 3) := by decide +kernel
theorem dX9_otherwiseNow_76 : decode cX9_otherwiseNow 76 = .ok (.aload_n 0, 1) := by decide +kernel
theorem dX9_otherwiseNow_77 : decode cX9_otherwiseNow 77 = .ok (.iload_n 1, 1) := by decide +kernel
theorem dX9_otherwiseNow_78 : decode cX9_otherwiseNow 78 = .ok (.iload 5, 2) := by decide +kernel
theorem dX9_otherwiseNow_80 : decode cX9_otherwiseNow 80 = .ok (.iconst 0, 1) := by decide +kernel
theorem dX9_otherwiseNow_81 : decode cX9_otherwiseNow 81 = .ok (.invokevirtual 293, 3) := by decide +kernel
theorem dX9_otherwiseNow_84 : decode cX9_otherwiseNow 84 = .ok (.isub, 1) := by decide +kernel
theorem dX9_otherwiseNow_85 : decode cX9_otherwiseNow 85 = .ok (.invokestatic 215, 3) := by decide +kernel
theorem dX9_otherwiseNow_88 : decode cX9_otherwiseNow 88 = .ok (.aload_n 0, 1) := by decide +kernel
theorem dX9_otherwiseNow_89 : decode cX9_otherwiseNow 89 = .ok (.iload 5, 2) := by decide +kernel
theorem dX9_otherwiseNow_91 : decode cX9_otherwiseNow 91 = .ok (.iconst 5, 1) := by decide +kernel
theorem dX9_otherwiseNow_92 : decode cX9_otherwiseNow 92 = .ok (.invokevirtual 50, 3) := by decide +kernel
theorem dX9_otherwiseNow_95 : decode cX9_otherwiseNow 95 = .ok (.aload_n 0, 1) := by decide +kernel
theorem dX9_otherwiseNow_96 : decode cX9_otherwiseNow 96 = .ok (.iload_n 1, 1) := by decide +kernel
theorem dX9_otherwiseNow_97 : decode cX9_otherwiseNow 97 = .ok (.iload 5, 2) := by decide +kernel
theorem dX9_otherwiseNow_99 : decode cX9_otherwiseNow 99 = .ok (.iconst 1, 1) := by decide +kernel
theorem dX9_otherwiseNow_100 : decode cX9_otherwiseNow 100 = .ok (.invokevirtual 293, 3) := by decide +kernel
theorem dX9_otherwiseNow_103 : decode cX9_otherwiseNow 103 = .ok (.isub, 1) := by decide +kernel
theorem dX9_otherwiseNow_104 : decode cX9_otherwiseNow 104 = .ok (.invokestatic 215, 3) := by decide +kernel
theorem dX9_otherwiseNow_107 : decode cX9_otherwiseNow 107 = .ok (.iadd, 1) := by decide +kernel
theorem dX9_otherwiseNow_108 : decode cX9_otherwiseNow 108 = .ok (.istore 8, 2) := by decide +kernel
theorem dX9_otherwiseNow_110 : decode cX9_otherwiseNow 110 = .ok (.iload 4, 2) := by decide +kernel
theorem dX9_otherwiseNow_112 : decode cX9_otherwiseNow 112 = .ok (.iload 8, 2) := by decide +kernel
theorem dX9_otherwiseNow_114 : decode cX9_otherwiseNow 114 = .ok (.iadd, 1) := by decide +kernel
theorem dX9_otherwiseNow_115 : decode cX9_otherwiseNow 115 = .ok (.istore 4, 2) := by decide +kernel
theorem dX9_otherwiseNow_117 : decode cX9_otherwiseNow 117 = .ok (.iload_n 3, 1) := by decide +kernel
theorem dX9_otherwiseNow_118 : decode cX9_otherwiseNow 118 = .ok (.iload 8, 2) := by decide +kernel
theorem dX9_otherwiseNow_120 : decode cX9_otherwiseNow 120 = .ok (.ifCond .ne 41, 3) := by decide +kernel
theorem dX9_otherwiseNow_123 : decode cX9_otherwiseNow 123 = .ok (.aload_n 0, 1) := by decide +kernel
theorem dX9_otherwiseNow_124 : decode cX9_otherwiseNow 124 = .ok (.iload 5, 2) := by decide +kernel
theorem dX9_otherwiseNow_126 : decode cX9_otherwiseNow 126 = .ok (.invokevirtual 64, 3) := by decide +kernel
theorem dX9_otherwiseNow_129 : decode cX9_otherwiseNow 129 = .ok (.aload_n 0, 1) := by decide +kernel
theorem dX9_otherwiseNow_130 : decode cX9_otherwiseNow 130 = .ok (.iload_n 1, 1) := by decide +kernel
theorem dX9_otherwiseNow_131 : decode cX9_otherwiseNow 131 = .ok (.iload 5, 2) := by decide +kernel
theorem dX9_otherwiseNow_133 : decode cX9_otherwiseNow 133 = .ok (.iconst 2, 1) := by decide +kernel
theorem dX9_otherwiseNow_134 : decode cX9_otherwiseNow 134 = .ok (.invokevirtual 293, 3) := by decide +kernel
theorem dX9_otherwiseNow_137 : decode cX9_otherwiseNow 137 = .ok (.if_icmp .ne 24, 3) := by decide +kernel
theorem dX9_otherwiseNow_140 : decode cX9_otherwiseNow 140 = .ok (.aload_n 0, 1) := by decide +kernel
theorem dX9_otherwiseNow_141 : decode cX9_otherwiseNow 141 = .ok (.iload 5, 2) := by decide +kernel
theorem dX9_otherwiseNow_143 : decode cX9_otherwiseNow 143 = .ok (.invokevirtual 68, 3) := by decide +kernel
theorem dX9_otherwiseNow_146 : decode cX9_otherwiseNow 146 = .ok (.aload_n 0, 1) := by decide +kernel
theorem dX9_otherwiseNow_147 : decode cX9_otherwiseNow 147 = .ok (.iload_n 1, 1) := by decide +kernel
theorem dX9_otherwiseNow_148 : decode cX9_otherwiseNow 148 = .ok (.iload 5, 2) := by decide +kernel
theorem dX9_otherwiseNow_150 : decode cX9_otherwiseNow 150 = .ok (.iconst 3, 1) := by decide +kernel
theorem dX9_otherwiseNow_151 : decode cX9_otherwiseNow 151 = .ok (.invokevirtual 293, 3) := by decide +kernel
theorem dX9_otherwiseNow_154 : decode cX9_otherwiseNow 154 = .ok (.if_icmp .ne 7, 3) := by decide +kernel
theorem dX9_otherwiseNow_157 : decode cX9_otherwiseNow 157 = .ok (.iconst 0, 1) := by decide +kernel
theorem dX9_otherwiseNow_158 : decode cX9_otherwiseNow 158 = .ok (.goto 4, 3) := by decide +kernel
theorem dX9_otherwiseNow_161 : decode cX9_otherwiseNow 161 = .ok (.iconst 1, 1) := by decide +kernel
theorem dX9_otherwiseNow_162 : decode cX9_otherwiseNow 162 = .ok (.iadd, 1) := by decide +kernel
theorem dX9_otherwiseNow_163 : decode cX9_otherwiseNow 163 = .ok (.istore_n 3, 1) := by decide +kernel
theorem dX9_otherwiseNow_164 : decode cX9_otherwiseNow 164 = .ok (.goto 21, 3) := by decide +kernel
theorem dX9_otherwiseNow_167 : decode cX9_otherwiseNow 167 = .ok (.iload_n 3, 1) := by decide +kernel
theorem dX9_otherwiseNow_168 : decode cX9_otherwiseNow 168 = .ok (.iload 6, 2) := by decide +kernel
theorem dX9_otherwiseNow_170 : decode cX9_otherwiseNow 170 = .ok (.ifCond .ne 8, 3) := by decide +kernel
theorem dX9_otherwiseNow_173 : decode cX9_otherwiseNow 173 = .ok (.iload 7, 2) := by decide +kernel
theorem dX9_otherwiseNow_175 : decode cX9_otherwiseNow 175 = .ok (.ifCond .eq 7, 3) := by decide +kernel
theorem dX9_otherwiseNow_178 : decode cX9_otherwiseNow 178 = .ok (.iconst 1, 1) := by decide +kernel
theorem dX9_otherwiseNow_179 : decode cX9_otherwiseNow 179 = .ok (.goto 4, 3) := by decide +kernel
theorem dX9_otherwiseNow_182 : decode cX9_otherwiseNow 182 = .ok (.iconst 0, 1) := by decide +kernel
theorem dX9_otherwiseNow_183 : decode cX9_otherwiseNow 183 = .ok (.iadd, 1) := by decide +kernel
theorem dX9_otherwiseNow_184 : decode cX9_otherwiseNow 184 = .ok (.istore_n 3, 1) := by decide +kernel
theorem dX9_otherwiseNow_185 : decode cX9_otherwiseNow 185 = .ok (.iinc 5 1, 3) := by decide +kernel
theorem dX9_otherwiseNow_188 : decode cX9_otherwiseNow 188 = .ok (.goto (-180), 3) := by decide +kernel
theorem dX9_otherwiseNow_191 : decode cX9_otherwiseNow 191 = .ok (.iload_n 2, 1) := by decide +kernel
theorem dX9_otherwiseNow_192 : decode cX9_otherwiseNow 192 = .ok (.ifCond .ne 7, 3) := by decide +kernel
theorem dX9_otherwiseNow_195 : decode cX9_otherwiseNow 195 = .ok (.iload_n 3, 1) := by decide +kernel
theorem dX9_otherwiseNow_196 : decode cX9_otherwiseNow 196 = .ok (.goto 5, 3) := by decide +kernel
theorem dX9_otherwiseNow_199 : decode cX9_otherwiseNow 199 = .ok (.iload 4, 2) := by decide +kernel
theorem dX9_otherwiseNow_201 : decode cX9_otherwiseNow 201 = .ok (.ireturn, 1) := by decide +kernel
theorem dX9_otherwise_0 : decode cX9_otherwise 0 = .ok (.iload_n 1, 1) := by decide +kernel
theorem dX9_otherwise_1 : decode cX9_otherwise 1 = .ok (.i2l, 1) := by decide +kernel
theorem dX9_otherwise_2 : decode cX9_otherwise 2 = .ok (.lconst 0, 1) := by decide +kernel
theorem dX9_otherwise_3 : decode cX9_otherwise 3 = .ok (.ldc2_w 117, 3) := by decide +kernel
theorem dX9_otherwise_6 : decode cX9_otherwise 6 = .ok (.invokestatic 46, 3) := by decide +kernel
theorem dX9_otherwise_9 : decode cX9_otherwise 9 = .ok (.ifCond .eq 13, 3) := by decide +kernel
theorem dX9_otherwise_12 : decode cX9_otherwise 12 = .ok (.iload_n 2, 1) := by decide +kernel
theorem dX9_otherwise_13 : decode cX9_otherwise 13 = .ok (.i2l, 1) := by decide +kernel
theorem dX9_otherwise_14 : decode cX9_otherwise 14 = .ok (.lconst 0, 1) := by decide +kernel
theorem dX9_otherwise_15 : decode cX9_otherwise 15 = .ok (.lconst 1, 1) := by decide +kernel
theorem dX9_otherwise_16 : decode cX9_otherwise 16 = .ok (.invokestatic 46, 3) := by decide +kernel
theorem dX9_otherwise_19 : decode cX9_otherwise 19 = .ok (.ifCond .ne 10, 3) := by decide +kernel
theorem dX9_otherwise_22 : decode cX9_otherwise 22 = .ok (.aload_n 0, 1) := by decide +kernel
theorem dX9_otherwise_23 : decode cX9_otherwise 23 = .ok (.bipush (-2), 2) := by decide +kernel
theorem dX9_otherwise_25 : decode cX9_otherwise 25 = .ok (.invokevirtual 101, 3) := by decide +kernel
theorem dX9_otherwise_28 : decode cX9_otherwise 28 = .ok (.ireturn, 1) := by decide +kernel
theorem dX9_otherwise_29 : decode cX9_otherwise 29 = .ok (.aload_n 0, 1) := by decide +kernel
theorem dX9_otherwise_30 : decode cX9_otherwise 30 = .ok (.iload_n 1, 1) := by decide +kernel
theorem dX9_otherwise_31 : decode cX9_otherwise 31 = .ok (.invokevirtual 290, 3) := by decide +kernel
theorem dX9_otherwise_34 : decode cX9_otherwise 34 = .ok (.ifCond .eq 12, 3) := by decide +kernel
theorem dX9_otherwise_37 : decode cX9_otherwise 37 = .ok (.aload_n 0, 1) := by decide +kernel
theorem dX9_otherwise_38 : decode cX9_otherwise 38 = .ok (.iload_n 1, 1) := by decide +kernel
theorem dX9_otherwise_39 : decode cX9_otherwise 39 = .ok (.iload_n 2, 1) := by decide +kernel
theorem dX9_otherwise_40 : decode cX9_otherwise 40 = .ok (.invokevirtual 296, 3) := by decide +kernel
theorem dX9_otherwise_43 : decode cX9_otherwise 43 = .ok (.goto 9, 3) := by decide +kernel
theorem dX9_otherwise_46 : decode cX9_otherwise 46 = .ok (.aload_n 0, 1) := by decide +kernel
theorem dX9_otherwise_47 : decode cX9_otherwise 47 = .ok (.bipush (-3), 2) := by decide +kernel
theorem dX9_otherwise_49 : decode cX9_otherwise 49 = .ok (.invokevirtual 101, 3) := by decide +kernel
theorem dX9_otherwise_52 : decode cX9_otherwise 52 = .ok (.ireturn, 1) := by decide +kernel
theorem dX9_type_0 : decode cX9_type 0 = .ok (.iload_n 1, 1) := by decide +kernel
theorem dX9_type_1 : decode cX9_type 1 = .ok (.i2l, 1) := by decide +kernel
theorem dX9_type_2 : decode cX9_type 2 = .ok (.lconst 0, 1) := by decide +kernel
theorem dX9_type_3 : decode cX9_type 3 = .ok (.ldc2_w 299, 3) := by decide +kernel
theorem dX9_type_6 : decode cX9_type 6 = .ok (.invokestatic 46, 3) := by decide +kernel
theorem dX9_type_9 : decode cX9_type 9 = .ok (.ifCond .ne 10, 3) := by decide +kernel
theorem dX9_type_12 : decode cX9_type 12 = .ok (.aload_n 0, 1) := by decide +kernel
theorem dX9_type_13 : decode cX9_type 13 = .ok (.bipush (-2), 2) := by decide +kernel
theorem dX9_type_15 : decode cX9_type 15 = .ok (.invokevirtual 101, 3) := by decide +kernel
theorem dX9_type_18 : decode cX9_type 18 = .ok (.ireturn, 1) := by decide +kernel
theorem dX9_type_19 : decode cX9_type 19 = .ok (.aload_n 0, 1) := by decide +kernel
theorem dX9_type_20 : decode cX9_type 20 = .ok (.getfield 301, 3) := by decide +kernel
theorem dX9_type_23 : decode cX9_type 23 = .ok (.bipush 120, 2) := by decide +kernel
theorem dX9_type_25 : decode cX9_type 25 = .ok (.if_icmp .ne 10, 3) := by decide +kernel
theorem dX9_type_28 : decode cX9_type 28 = .ok (.aload_n 0, 1) := by decide +kernel
theorem dX9_type_29 : decode cX9_type 29 = .ok (.bipush (-4), 2) := by decide +kernel
theorem dX9_type_31 : decode cX9_type 31 = .ok (.invokevirtual 101, 3) := by decide +kernel
theorem dX9_type_34 : decode cX9_type 34 = .ok (.ireturn, 1) := by decide +kernel
theorem dX9_type_35 : decode cX9_type 35 = .ok (.aload_n 0, 1) := by decide +kernel
theorem dX9_type_36 : decode cX9_type 36 = .ok (.getfield 32, 3) := by decide +kernel
theorem dX9_type_39 : decode cX9_type 39 = .ok (.aload_n 0, 1) := by decide +kernel
theorem dX9_type_40 : decode cX9_type 40 = .ok (.getfield 301, 3) := by decide +kernel
theorem dX9_type_43 : decode cX9_type 43 = .ok (.iload_n 1, 1) := by decide +kernel
theorem dX9_type_44 : decode cX9_type 44 = .ok (.iastore, 1) := by decide +kernel
theorem dX9_type_45 : decode cX9_type 45 = .ok (.aload_n 0, 1) := by decide +kernel
theorem dX9_type_46 : decode cX9_type 46 = .ok (.dup, 1) := by decide +kernel
theorem dX9_type_47 : decode cX9_type 47 = .ok (.getfield 301, 3) := by decide +kernel
theorem dX9_type_50 : decode cX9_type 50 = .ok (.iconst 1, 1) := by decide +kernel
theorem dX9_type_51 : decode cX9_type 51 = .ok (.iadd, 1) := by decide +kernel
theorem dX9_type_52 : decode cX9_type 52 = .ok (.putfield 301, 3) := by decide +kernel
theorem dX9_type_55 : decode cX9_type 55 = .ok (.aload_n 0, 1) := by decide +kernel
theorem dX9_type_56 : decode cX9_type 56 = .ok (.getfield 301, 3) := by decide +kernel
theorem dX9_type_59 : decode cX9_type 59 = .ok (.ireturn, 1) := by decide +kernel
theorem dX9_clear_0 : decode cX9_clear 0 = .ok (.aload_n 0, 1) := by decide +kernel
theorem dX9_clear_1 : decode cX9_clear 1 = .ok (.getfield 301, 3) := by decide +kernel
theorem dX9_clear_4 : decode cX9_clear 4 = .ok (.istore_n 1, 1) := by decide +kernel
theorem dX9_clear_5 : decode cX9_clear 5 = .ok (.aload_n 0, 1) := by decide +kernel
theorem dX9_clear_6 : decode cX9_clear 6 = .ok (.iconst 0, 1) := by decide +kernel
theorem dX9_clear_7 : decode cX9_clear 7 = .ok (.putfield 301, 3) := by decide +kernel
theorem dX9_clear_10 : decode cX9_clear 10 = .ok (.iload_n 1, 1) := by decide +kernel
theorem dX9_clear_11 : decode cX9_clear 11 = .ok (.ireturn, 1) := by decide +kernel
theorem dX9_here_0 : decode cX9_here 0 = .ok (.aload_n 0, 1) := by decide +kernel
theorem dX9_here_1 : decode cX9_here 1 = .ok (.getfield 304, 3) := by decide +kernel
theorem dX9_here_4 : decode cX9_here 4 = .ok (.aload_n 0, 1) := by decide +kernel
theorem dX9_here_5 : decode cX9_here 5 = .ok (.getfield 301, 3) := by decide +kernel
theorem dX9_here_8 : decode cX9_here 8 = .ok (.if_icmp .ge 30, 3) := by decide +kernel
theorem dX9_here_11 : decode cX9_here 11 = .ok (.aload_n 0, 1) := by decide +kernel
theorem dX9_here_12 : decode cX9_here 12 = .ok (.getfield 32, 3) := by decide +kernel
theorem dX9_here_15 : decode cX9_here 15 = .ok (.aload_n 0, 1) := by decide +kernel
theorem dX9_here_16 : decode cX9_here 16 = .ok (.getfield 304, 3) := by decide +kernel
theorem dX9_here_19 : decode cX9_here 19 = .ok (.iaload, 1) := by decide +kernel
theorem dX9_here_20 : decode cX9_here 20 = .ok (.bipush 32, 2) := by decide +kernel
theorem dX9_here_22 : decode cX9_here 22 = .ok (.if_icmp .ne 16, 3) := by decide +kernel
theorem dX9_here_25 : decode cX9_here 25 = .ok (.aload_n 0, 1) := by decide +kernel
theorem dX9_here_26 : decode cX9_here 26 = .ok (.dup, 1) := by decide +kernel
theorem dX9_here_27 : decode cX9_here 27 = .ok (.getfield 304, 3) := by decide +kernel
theorem dX9_here_30 : decode cX9_here 30 = .ok (.iconst 1, 1) := by decide +kernel
theorem dX9_here_31 : decode cX9_here 31 = .ok (.iadd, 1) := by decide +kernel
theorem dX9_here_32 : decode cX9_here 32 = .ok (.putfield 304, 3) := by decide +kernel
theorem dX9_here_35 : decode cX9_here 35 = .ok (.goto (-35), 3) := by decide +kernel
theorem dX9_here_38 : decode cX9_here 38 = .ok (.aload_n 0, 1) := by decide +kernel
theorem dX9_here_39 : decode cX9_here 39 = .ok (.getfield 304, 3) := by decide +kernel
theorem dX9_here_42 : decode cX9_here 42 = .ok (.aload_n 0, 1) := by decide +kernel
theorem dX9_here_43 : decode cX9_here 43 = .ok (.getfield 301, 3) := by decide +kernel
theorem dX9_here_46 : decode cX9_here 46 = .ok (.if_icmp .ge 15, 3) := by decide +kernel
theorem dX9_here_49 : decode cX9_here 49 = .ok (.aload_n 0, 1) := by decide +kernel
theorem dX9_here_50 : decode cX9_here 50 = .ok (.getfield 32, 3) := by decide +kernel
theorem dX9_here_53 : decode cX9_here 53 = .ok (.aload_n 0, 1) := by decide +kernel
theorem dX9_here_54 : decode cX9_here 54 = .ok (.getfield 304, 3) := by decide +kernel
theorem dX9_here_57 : decode cX9_here 57 = .ok (.iaload, 1) := by decide +kernel
theorem dX9_here_58 : decode cX9_here 58 = .ok (.goto 4, 3) := by decide +kernel
theorem dX9_here_61 : decode cX9_here 61 = .ok (.iconst (-1), 1) := by decide +kernel
theorem dX9_here_62 : decode cX9_here 62 = .ok (.ireturn, 1) := by decide +kernel
theorem dX9_isFigure_0 : decode cX9_isFigure 0 = .ok (.iload_n 1, 1) := by decide +kernel
theorem dX9_isFigure_1 : decode cX9_isFigure 1 = .ok (.aload_n 0, 1) := by decide +kernel
theorem dX9_isFigure_2 : decode cX9_isFigure 2 = .ok (.getfield 301, 3) := by decide +kernel
theorem dX9_isFigure_5 : decode cX9_isFigure 5 = .ok (.if_icmp .ge 26, 3) := by decide +kernel
theorem dX9_isFigure_8 : decode cX9_isFigure 8 = .ok (.aload_n 0, 1) := by decide +kernel
theorem dX9_isFigure_9 : decode cX9_isFigure 9 = .ok (.getfield 32, 3) := by decide +kernel
theorem dX9_isFigure_12 : decode cX9_isFigure 12 = .ok (.iload_n 1, 1) := by decide +kernel
theorem dX9_isFigure_13 : decode cX9_isFigure 13 = .ok (.iaload, 1) := by decide +kernel
theorem dX9_isFigure_14 : decode cX9_isFigure 14 = .ok (.i2l, 1) := by decide +kernel
theorem dX9_isFigure_15 : decode cX9_isFigure 15 = .ok (.ldc2_w 307, 3) := by decide +kernel
theorem dX9_isFigure_18 : decode cX9_isFigure 18 = .ok (.ldc2_w 309, 3) := by decide +kernel
theorem dX9_isFigure_21 : decode cX9_isFigure 21 = .ok (.invokestatic 46, 3) := by decide +kernel
theorem dX9_isFigure_24 : decode cX9_isFigure 24 = .ok (.ifCond .eq 7, 3) := by decide +kernel
theorem dX9_isFigure_27 : decode cX9_isFigure 27 = .ok (.iconst 1, 1) := by decide +kernel
theorem dX9_isFigure_28 : decode cX9_isFigure 28 = .ok (.goto 4, 3) := by decide +kernel
theorem dX9_isFigure_31 : decode cX9_isFigure 31 = .ok (.iconst 0, 1) := by decide +kernel
theorem dX9_isFigure_32 : decode cX9_isFigure 32 = .ok (.ireturn, 1) := by decide +kernel
theorem dX9_takesAll_0 : decode cX9_takesAll 0 = .ok (.iconst 0, 1) := by decide +kernel
theorem dX9_takesAll_1 : decode cX9_takesAll 1 = .ok (.istore_n 2, 1) := by decide +kernel
theorem dX9_takesAll_2 : decode cX9_takesAll 2 = .ok (.iload_n 2, 1) := by decide +kernel
theorem dX9_takesAll_3 : decode cX9_takesAll 3 = .ok (.iload_n 1, 1) := by decide +kernel
theorem dX9_takesAll_4 : decode cX9_takesAll 4 = .ok (.if_icmp .ge 108, 3) := by decide +kernel
theorem dX9_takesAll_7 : decode cX9_takesAll 7 = .ok (.aload_n 0, 1) := by decide +kernel
theorem dX9_takesAll_8 : decode cX9_takesAll 8 = .ok (.invokevirtual 311, 3) := by decide +kernel
theorem dX9_takesAll_11 : decode cX9_takesAll 11 = .ok (.istore_n 3, 1) := by decide +kernel
theorem dX9_takesAll_12 : decode cX9_takesAll 12 = .ok (.iconst 0, 1) := by decide +kernel
theorem dX9_takesAll_13 : decode cX9_takesAll 13 = .ok (.istore 4, 2) := by decide +kernel
theorem dX9_takesAll_15 : decode cX9_takesAll 15 = .ok (.aload_n 0, 1) := by decide +kernel
theorem dX9_takesAll_16 : decode cX9_takesAll 16 = .ok (.getfield 35, 3) := by decide +kernel
theorem dX9_takesAll_19 : decode cX9_takesAll 19 = .ok (.iload_n 2, 1) := by decide +kernel
theorem dX9_takesAll_20 : decode cX9_takesAll 20 = .ok (.iconst 0, 1) := by decide +kernel
theorem dX9_takesAll_21 : decode cX9_takesAll 21 = .ok (.iastore, 1) := by decide +kernel
theorem dX9_takesAll_22 : decode cX9_takesAll 22 = .ok (.aload_n 0, 1) := by decide +kernel
theorem dX9_takesAll_23 : decode cX9_takesAll 23 = .ok (.aload_n 0, 1) := by decide +kernel
theorem dX9_takesAll_24 : decode cX9_takesAll 24 = .ok (.getfield 304, 3) := by decide +kernel
theorem dX9_takesAll_27 : decode cX9_takesAll 27 = .ok (.invokevirtual 314, 3) := by decide +kernel
theorem dX9_takesAll_30 : decode cX9_takesAll 30 = .ok (.ifCond .eq 53, 3) := by decide +kernel
theorem dX9_takesAll_33 : decode cX9_takesAll 33 = .ok (.iload 4, 2) := by decide +kernel
theorem dX9_takesAll_35 : decode cX9_takesAll 35 = .ok (.iconst 2, 1) := by decide +kernel
theorem dX9_takesAll_36 : decode cX9_takesAll 36 = .ok (.if_icmp .ge 47, 3) := by decide +kernel
theorem dX9_takesAll_39 : decode cX9_takesAll 39 = .ok (.aload_n 0, 1) := by decide +kernel
theorem dX9_takesAll_40 : decode cX9_takesAll 40 = .ok (.getfield 35, 3) := by decide +kernel
theorem dX9_takesAll_43 : decode cX9_takesAll 43 = .ok (.iload_n 2, 1) := by decide +kernel
theorem dX9_takesAll_44 : decode cX9_takesAll 44 = .ok (.bipush 10, 2) := by decide +kernel
theorem dX9_takesAll_46 : decode cX9_takesAll 46 = .ok (.aload_n 0, 1) := by decide +kernel
theorem dX9_takesAll_47 : decode cX9_takesAll 47 = .ok (.getfield 35, 3) := by decide +kernel
theorem dX9_takesAll_50 : decode cX9_takesAll 50 = .ok (.iload_n 2, 1) := by decide +kernel
theorem dX9_takesAll_51 : decode cX9_takesAll 51 = .ok (.iaload, 1) := by decide +kernel
theorem dX9_takesAll_52 : decode cX9_takesAll 52 = .ok (.imul, 1) := by decide +kernel
theorem dX9_takesAll_53 : decode cX9_takesAll 53 = .ok (.aload_n 0, 1) := by decide +kernel
theorem dX9_takesAll_54 : decode cX9_takesAll 54 = .ok (.getfield 32, 3) := by decide +kernel
theorem dX9_takesAll_57 : decode cX9_takesAll 57 = .ok (.aload_n 0, 1) := by decide +kernel
theorem dX9_takesAll_58 : decode cX9_takesAll 58 = .ok (.getfield 304, 3) := by decide +kernel
theorem dX9_takesAll_61 : decode cX9_takesAll 61 = .ok (.iaload, 1) := by decide +kernel
theorem dX9_takesAll_62 : decode cX9_takesAll 62 = .ok (.iadd, 1) := by decide +kernel
theorem dX9_takesAll_63 : decode cX9_takesAll 63 = .ok (.bipush 48, 2) := by decide +kernel
theorem dX9_takesAll_65 : decode cX9_takesAll 65 = .ok (.isub, 1) := by decide +kernel
theorem dX9_takesAll_66 : decode cX9_takesAll 66 = .ok (.iastore, 1) := by decide +kernel
theorem dX9_takesAll_67 : decode cX9_takesAll 67 = .ok (.aload_n 0, 1) := by decide +kernel
theorem dX9_takesAll_68 : decode cX9_takesAll 68 = .ok (.dup, 1) := by decide +kernel
theorem dX9_takesAll_69 : decode cX9_takesAll 69 = .ok (.getfield 304, 3) := by decide +kernel
theorem dX9_takesAll_72 : decode cX9_takesAll 72 = .ok (.iconst 1, 1) := by decide +kernel
theorem dX9_takesAll_73 : decode cX9_takesAll 73 = .ok (.iadd, 1) := by decide +kernel
theorem dX9_takesAll_74 : decode cX9_takesAll 74 = .ok (.putfield 304, 3) := by decide +kernel
theorem dX9_takesAll_77 : decode cX9_takesAll 77 = .ok (.iinc 4 1, 3) := by decide +kernel
theorem dX9_takesAll_80 : decode cX9_takesAll 80 = .ok (.goto (-58), 3) := by decide +kernel
theorem dX9_takesAll_83 : decode cX9_takesAll 83 = .ok (.iload_n 3, 1) := by decide +kernel
theorem dX9_takesAll_84 : decode cX9_takesAll 84 = .ok (.iconst (-1), 1) := by decide +kernel
theorem dX9_takesAll_85 : decode cX9_takesAll 85 = .ok (.if_icmp .eq 19, 3) := by decide +kernel
theorem dX9_takesAll_88 : decode cX9_takesAll 88 = .ok (.iload 4, 2) := by decide +kernel
theorem dX9_takesAll_90 : decode cX9_takesAll 90 = .ok (.ifCond .eq 14, 3) := by decide +kernel
theorem dX9_takesAll_93 : decode cX9_takesAll 93 = .ok (.aload_n 0, 1) := by decide +kernel
theorem dX9_takesAll_94 : decode cX9_takesAll 94 = .ok (.aload_n 0, 1) := by decide +kernel
theorem dX9_takesAll_95 : decode cX9_takesAll 95 = .ok (.getfield 304, 3) := by decide +kernel
theorem dX9_takesAll_98 : decode cX9_takesAll 98 = .ok (.invokevirtual 314, 3) := by decide +kernel
theorem dX9_takesAll_101 : decode cX9_takesAll 101 = .ok (.ifCond .eq 5, 3) := by decide +kernel
theorem dX9_takesAll_104 : decode cX9_takesAll 104 = .ok (.iconst 0, 1) := by decide +kernel
theorem dX9_takesAll_105 : decode cX9_takesAll 105 = .ok (.ireturn, 1) := by decide +kernel
theorem dX9_takesAll_106 : decode cX9_takesAll 106 = .ok (.iinc 2 1, 3) := by decide +kernel
theorem dX9_takesAll_109 : decode cX9_takesAll 109 = .ok (.goto (-107), 3) := by decide +kernel
theorem dX9_takesAll_112 : decode cX9_takesAll 112 = .ok (.iconst 1, 1) := by decide +kernel
theorem dX9_takesAll_113 : decode cX9_takesAll 113 = .ok (.ireturn, 1) := by decide +kernel
theorem dX9_numbersOf_0 : decode cX9_numbersOf 0 = .ok (.iload_n 0, 1) := by decide +kernel
theorem dX9_numbersOf_1 : decode cX9_numbersOf 1 = .ok (.lookupswitch 51 #[(97, 49), (105, 43), (112, 45), (119, 47)], 43) := by decide +kernel
theorem dX9_numbersOf_44 : decode cX9_numbersOf 44 = .ok (.iconst 4, 1) := by decide +kernel
theorem dX9_numbersOf_45 : decode cX9_numbersOf 45 = .ok (.ireturn, 1) := by decide +kernel
theorem dX9_numbersOf_46 : decode cX9_numbersOf 46 = .ok (.iconst 3, 1) := by decide +kernel
theorem dX9_numbersOf_47 : decode cX9_numbersOf 47 = .ok (.ireturn, 1) := by decide +kernel
theorem dX9_numbersOf_48 : decode cX9_numbersOf 48 = .ok (.iconst 2, 1) := by decide +kernel
theorem dX9_numbersOf_49 : decode cX9_numbersOf 49 = .ok (.ireturn, 1) := by decide +kernel
theorem dX9_numbersOf_50 : decode cX9_numbersOf 50 = .ok (.iconst 0, 1) := by decide +kernel
theorem dX9_numbersOf_51 : decode cX9_numbersOf 51 = .ok (.ireturn, 1) := by decide +kernel
theorem dX9_numbersOf_52 : decode cX9_numbersOf 52 = .ok (.iconst 1, 1) := by decide +kernel
theorem dX9_numbersOf_53 : decode cX9_numbersOf 53 = .ok (.ireturn, 1) := by decide +kernel
theorem dX9_settingOf_0 : decode cX9_settingOf 0 = .ok (.iload_n 0, 1) := by decide +kernel
theorem dX9_settingOf_1 : decode cX9_settingOf 1 = .ok (.bipush 109, 2) := by decide +kernel
theorem dX9_settingOf_3 : decode cX9_settingOf 3 = .ok (.if_icmp .ne 7, 3) := by decide +kernel
theorem dX9_settingOf_6 : decode cX9_settingOf 6 = .ok (.iconst 0, 1) := by decide +kernel
theorem dX9_settingOf_7 : decode cX9_settingOf 7 = .ok (.goto 34, 3) := by decide +kernel
theorem dX9_settingOf_10 : decode cX9_settingOf 10 = .ok (.iload_n 0, 1) := by decide +kernel
theorem dX9_settingOf_11 : decode cX9_settingOf 11 = .ok (.bipush 103, 2) := by decide +kernel
theorem dX9_settingOf_13 : decode cX9_settingOf 13 = .ok (.if_icmp .ne 7, 3) := by decide +kernel
theorem dX9_settingOf_16 : decode cX9_settingOf 16 = .ok (.iconst 1, 1) := by decide +kernel
theorem dX9_settingOf_17 : decode cX9_settingOf 17 = .ok (.goto 24, 3) := by decide +kernel
theorem dX9_settingOf_20 : decode cX9_settingOf 20 = .ok (.iload_n 0, 1) := by decide +kernel
theorem dX9_settingOf_21 : decode cX9_settingOf 21 = .ok (.bipush 98, 2) := by decide +kernel
theorem dX9_settingOf_23 : decode cX9_settingOf 23 = .ok (.if_icmp .ne 7, 3) := by decide +kernel
theorem dX9_settingOf_26 : decode cX9_settingOf 26 = .ok (.iconst 2, 1) := by decide +kernel
theorem dX9_settingOf_27 : decode cX9_settingOf 27 = .ok (.goto 14, 3) := by decide +kernel
theorem dX9_settingOf_30 : decode cX9_settingOf 30 = .ok (.iload_n 0, 1) := by decide +kernel
theorem dX9_settingOf_31 : decode cX9_settingOf 31 = .ok (.bipush 114, 2) := by decide +kernel
theorem dX9_settingOf_33 : decode cX9_settingOf 33 = .ok (.if_icmp .ne 7, 3) := by decide +kernel
theorem dX9_settingOf_36 : decode cX9_settingOf 36 = .ok (.iconst 3, 1) := by decide +kernel
theorem dX9_settingOf_37 : decode cX9_settingOf 37 = .ok (.goto 4, 3) := by decide +kernel
theorem dX9_settingOf_40 : decode cX9_settingOf 40 = .ok (.iconst 4, 1) := by decide +kernel
theorem dX9_settingOf_41 : decode cX9_settingOf 41 = .ok (.ireturn, 1) := by decide +kernel
theorem dX9_isOrder_0 : decode cX9_isOrder 0 = .ok (.iload_n 0, 1) := by decide +kernel
theorem dX9_isOrder_1 : decode cX9_isOrder 1 = .ok (.bipush 105, 2) := by decide +kernel
theorem dX9_isOrder_3 : decode cX9_isOrder 3 = .ok (.if_icmp .eq 57, 3) := by decide +kernel
theorem dX9_isOrder_6 : decode cX9_isOrder 6 = .ok (.iload_n 0, 1) := by decide +kernel
theorem dX9_isOrder_7 : decode cX9_isOrder 7 = .ok (.bipush 119, 2) := by decide +kernel
theorem dX9_isOrder_9 : decode cX9_isOrder 9 = .ok (.if_icmp .eq 51, 3) := by decide +kernel
theorem dX9_isOrder_12 : decode cX9_isOrder 12 = .ok (.iload_n 0, 1) := by decide +kernel
theorem dX9_isOrder_13 : decode cX9_isOrder 13 = .ok (.bipush 109, 2) := by decide +kernel
theorem dX9_isOrder_15 : decode cX9_isOrder 15 = .ok (.if_icmp .eq 45, 3) := by decide +kernel
theorem dX9_isOrder_18 : decode cX9_isOrder 18 = .ok (.iload_n 0, 1) := by decide +kernel
theorem dX9_isOrder_19 : decode cX9_isOrder 19 = .ok (.bipush 103, 2) := by decide +kernel
theorem dX9_isOrder_21 : decode cX9_isOrder 21 = .ok (.if_icmp .eq 39, 3) := by decide +kernel
theorem dX9_isOrder_24 : decode cX9_isOrder 24 = .ok (.iload_n 0, 1) := by decide +kernel
theorem dX9_isOrder_25 : decode cX9_isOrder 25 = .ok (.bipush 98, 2) := by decide +kernel
theorem dX9_isOrder_27 : decode cX9_isOrder 27 = .ok (.if_icmp .eq 33, 3) := by decide +kernel
theorem dX9_isOrder_30 : decode cX9_isOrder 30 = .ok (.iload_n 0, 1) := by decide +kernel
theorem dX9_isOrder_31 : decode cX9_isOrder 31 = .ok (.bipush 114, 2) := by decide +kernel
theorem dX9_isOrder_33 : decode cX9_isOrder 33 = .ok (.if_icmp .eq 27, 3) := by decide +kernel
theorem dX9_isOrder_36 : decode cX9_isOrder 36 = .ok (.iload_n 0, 1) := by decide +kernel
theorem dX9_isOrder_37 : decode cX9_isOrder 37 = .ok (.bipush 99, 2) := by decide +kernel
theorem dX9_isOrder_39 : decode cX9_isOrder 39 = .ok (.if_icmp .eq 21, 3) := by decide +kernel
theorem dX9_isOrder_42 : decode cX9_isOrder 42 = .ok (.iload_n 0, 1) := by decide +kernel
theorem dX9_isOrder_43 : decode cX9_isOrder 43 = .ok (.bipush 112, 2) := by decide +kernel
theorem dX9_isOrder_45 : decode cX9_isOrder 45 = .ok (.if_icmp .eq 15, 3) := by decide +kernel
theorem dX9_isOrder_48 : decode cX9_isOrder 48 = .ok (.iload_n 0, 1) := by decide +kernel
theorem dX9_isOrder_49 : decode cX9_isOrder 49 = .ok (.bipush 111, 2) := by decide +kernel
theorem dX9_isOrder_51 : decode cX9_isOrder 51 = .ok (.if_icmp .eq 9, 3) := by decide +kernel
theorem dX9_isOrder_54 : decode cX9_isOrder 54 = .ok (.iload_n 0, 1) := by decide +kernel
theorem dX9_isOrder_55 : decode cX9_isOrder 55 = .ok (.bipush 97, 2) := by decide +kernel
theorem dX9_isOrder_57 : decode cX9_isOrder 57 = .ok (.if_icmp .ne 7, 3) := by decide +kernel
theorem dX9_isOrder_60 : decode cX9_isOrder 60 = .ok (.iconst 1, 1) := by decide +kernel
theorem dX9_isOrder_61 : decode cX9_isOrder 61 = .ok (.goto 4, 3) := by decide +kernel
theorem dX9_isOrder_64 : decode cX9_isOrder 64 = .ok (.iconst 0, 1) := by decide +kernel
theorem dX9_isOrder_65 : decode cX9_isOrder 65 = .ok (.ireturn, 1) := by decide +kernel
theorem dX9_can_0 : decode cX9_can 0 = .ok (.iload_n 1, 1) := by decide +kernel
theorem dX9_can_1 : decode cX9_can 1 = .ok (.lookupswitch 141 #[(97, 139), (105, 51), (111, 128), (112, 105), (119, 80)], 51) := by decide +kernel
theorem dX9_can_52 : decode cX9_can 52 = .ok (.aload_n 0, 1) := by decide +kernel
theorem dX9_can_53 : decode cX9_can 53 = .ok (.aload_n 0, 1) := by decide +kernel
theorem dX9_can_54 : decode cX9_can 54 = .ok (.getfield 35, 3) := by decide +kernel
theorem dX9_can_57 : decode cX9_can 57 = .ok (.iconst 0, 1) := by decide +kernel
theorem dX9_can_58 : decode cX9_can 58 = .ok (.iaload, 1) := by decide +kernel
theorem dX9_can_59 : decode cX9_can 59 = .ok (.aload_n 0, 1) := by decide +kernel
theorem dX9_can_60 : decode cX9_can 60 = .ok (.getfield 35, 3) := by decide +kernel
theorem dX9_can_63 : decode cX9_can 63 = .ok (.iconst 1, 1) := by decide +kernel
theorem dX9_can_64 : decode cX9_can 64 = .ok (.iaload, 1) := by decide +kernel
theorem dX9_can_65 : decode cX9_can 65 = .ok (.aload_n 0, 1) := by decide +kernel
theorem dX9_can_66 : decode cX9_can 66 = .ok (.getfield 35, 3) := by decide +kernel
theorem dX9_can_69 : decode cX9_can 69 = .ok (.iconst 2, 1) := by decide +kernel
theorem dX9_can_70 : decode cX9_can 70 = .ok (.iaload, 1) := by decide +kernel
theorem dX9_can_71 : decode cX9_can 71 = .ok (.aload_n 0, 1) := by decide +kernel
theorem dX9_can_72 : decode cX9_can 72 = .ok (.getfield 35, 3) := by decide +kernel
theorem dX9_can_75 : decode cX9_can 75 = .ok (.iconst 3, 1) := by decide +kernel
theorem dX9_can_76 : decode cX9_can 76 = .ok (.iaload, 1) := by decide +kernel
theorem dX9_can_77 : decode cX9_can 77 = .ok (.invokevirtual 142, 3) := by decide +kernel
theorem dX9_can_80 : decode cX9_can 80 = .ok (.ireturn, 1) := by decide +kernel
theorem dX9_can_81 : decode cX9_can 81 = .ok (.aload_n 0, 1) := by decide +kernel
theorem dX9_can_82 : decode cX9_can 82 = .ok (.getfield 35, 3) := by decide +kernel
theorem dX9_can_85 : decode cX9_can 85 = .ok (.iconst 0, 1) := by decide +kernel
theorem dX9_can_86 : decode cX9_can 86 = .ok (.iaload, 1) := by decide +kernel
theorem dX9_can_87 : decode cX9_can 87 = .ok (.aload_n 0, 1) := by decide +kernel
theorem dX9_can_88 : decode cX9_can 88 = .ok (.getfield 35, 3) := by decide +kernel
theorem dX9_can_91 : decode cX9_can 91 = .ok (.iconst 1, 1) := by decide +kernel
theorem dX9_can_92 : decode cX9_can 92 = .ok (.iaload, 1) := by decide +kernel
theorem dX9_can_93 : decode cX9_can 93 = .ok (.invokestatic 108, 3) := by decide +kernel
theorem dX9_can_96 : decode cX9_can 96 = .ok (.ifCond .eq 7, 3) := by decide +kernel
theorem dX9_can_99 : decode cX9_can 99 = .ok (.iconst 0, 1) := by decide +kernel
theorem dX9_can_100 : decode cX9_can 100 = .ok (.goto 5, 3) := by decide +kernel
theorem dX9_can_103 : decode cX9_can 103 = .ok (.bipush (-2), 2) := by decide +kernel
theorem dX9_can_105 : decode cX9_can 105 = .ok (.ireturn, 1) := by decide +kernel
theorem dX9_can_106 : decode cX9_can 106 = .ok (.aload_n 0, 1) := by decide +kernel
theorem dX9_can_107 : decode cX9_can 107 = .ok (.aload_n 0, 1) := by decide +kernel
theorem dX9_can_108 : decode cX9_can 108 = .ok (.getfield 35, 3) := by decide +kernel
theorem dX9_can_111 : decode cX9_can 111 = .ok (.iconst 0, 1) := by decide +kernel
theorem dX9_can_112 : decode cX9_can 112 = .ok (.iaload, 1) := by decide +kernel
theorem dX9_can_113 : decode cX9_can 113 = .ok (.aload_n 0, 1) := by decide +kernel
theorem dX9_can_114 : decode cX9_can 114 = .ok (.getfield 35, 3) := by decide +kernel
theorem dX9_can_117 : decode cX9_can 117 = .ok (.iconst 1, 1) := by decide +kernel
theorem dX9_can_118 : decode cX9_can 118 = .ok (.iaload, 1) := by decide +kernel
theorem dX9_can_119 : decode cX9_can 119 = .ok (.aload_n 0, 1) := by decide +kernel
theorem dX9_can_120 : decode cX9_can 120 = .ok (.getfield 35, 3) := by decide +kernel
theorem dX9_can_123 : decode cX9_can 123 = .ok (.iconst 2, 1) := by decide +kernel
theorem dX9_can_124 : decode cX9_can 124 = .ok (.iaload, 1) := by decide +kernel
theorem dX9_can_125 : decode cX9_can 125 = .ok (.invokevirtual 168, 3) := by decide +kernel
theorem dX9_can_128 : decode cX9_can 128 = .ok (.ireturn, 1) := by decide +kernel
theorem dX9_can_129 : decode cX9_can 129 = .ok (.aload_n 0, 1) := by decide +kernel
theorem dX9_can_130 : decode cX9_can 130 = .ok (.aload_n 0, 1) := by decide +kernel
theorem dX9_can_131 : decode cX9_can 131 = .ok (.getfield 35, 3) := by decide +kernel
theorem dX9_can_134 : decode cX9_can 134 = .ok (.iconst 0, 1) := by decide +kernel
theorem dX9_can_135 : decode cX9_can 135 = .ok (.iaload, 1) := by decide +kernel
theorem dX9_can_136 : decode cX9_can 136 = .ok (.invokevirtual 178, 3) := by decide +kernel
theorem dX9_can_139 : decode cX9_can 139 = .ok (.ireturn, 1) := by decide +kernel
theorem dX9_can_140 : decode cX9_can 140 = .ok (.iconst 0, 1) := by decide +kernel
theorem dX9_can_141 : decode cX9_can 141 = .ok (.ireturn, 1) := by decide +kernel
theorem dX9_can_142 : decode cX9_can 142 = .ok (.iload_n 1, 1) := by decide +kernel
theorem dX9_can_143 : decode cX9_can 143 = .ok (.invokestatic 317, 3) := by decide +kernel
theorem dX9_can_146 : decode cX9_can 146 = .ok (.aload_n 0, 1) := by decide +kernel
theorem dX9_can_147 : decode cX9_can 147 = .ok (.getfield 35, 3) := by decide +kernel
theorem dX9_can_150 : decode cX9_can 150 = .ok (.iconst 0, 1) := by decide +kernel
theorem dX9_can_151 : decode cX9_can 151 = .ok (.iaload, 1) := by decide +kernel
theorem dX9_can_152 : decode cX9_can 152 = .ok (.invokestatic 125, 3) := by decide +kernel
theorem dX9_can_155 : decode cX9_can 155 = .ok (.ifCond .eq 7, 3) := by decide +kernel
theorem dX9_can_158 : decode cX9_can 158 = .ok (.iconst 0, 1) := by decide +kernel
theorem dX9_can_159 : decode cX9_can 159 = .ok (.goto 5, 3) := by decide +kernel
theorem dX9_can_162 : decode cX9_can 162 = .ok (.bipush (-2), 2) := by decide +kernel
theorem dX9_can_164 : decode cX9_can 164 = .ok (.ireturn, 1) := by decide +kernel
theorem dX9_does_0 : decode cX9_does 0 = .ok (.iload_n 1, 1) := by decide +kernel
theorem dX9_does_1 : decode cX9_does 1 = .ok (.lookupswitch 136 #[(97, 131), (105, 51), (111, 120), (112, 97), (119, 80)], 51) := by decide +kernel
theorem dX9_does_52 : decode cX9_does 52 = .ok (.aload_n 0, 1) := by decide +kernel
theorem dX9_does_53 : decode cX9_does 53 = .ok (.aload_n 0, 1) := by decide +kernel
theorem dX9_does_54 : decode cX9_does 54 = .ok (.getfield 35, 3) := by decide +kernel
theorem dX9_does_57 : decode cX9_does 57 = .ok (.iconst 0, 1) := by decide +kernel
theorem dX9_does_58 : decode cX9_does 58 = .ok (.iaload, 1) := by decide +kernel
theorem dX9_does_59 : decode cX9_does 59 = .ok (.aload_n 0, 1) := by decide +kernel
theorem dX9_does_60 : decode cX9_does 60 = .ok (.getfield 35, 3) := by decide +kernel
theorem dX9_does_63 : decode cX9_does 63 = .ok (.iconst 1, 1) := by decide +kernel
theorem dX9_does_64 : decode cX9_does 64 = .ok (.iaload, 1) := by decide +kernel
theorem dX9_does_65 : decode cX9_does 65 = .ok (.aload_n 0, 1) := by decide +kernel
theorem dX9_does_66 : decode cX9_does 66 = .ok (.getfield 35, 3) := by decide +kernel
theorem dX9_does_69 : decode cX9_does 69 = .ok (.iconst 2, 1) := by decide +kernel
theorem dX9_does_70 : decode cX9_does 70 = .ok (.iaload, 1) := by decide +kernel
theorem dX9_does_71 : decode cX9_does 71 = .ok (.aload_n 0, 1) := by decide +kernel
theorem dX9_does_72 : decode cX9_does 72 = .ok (.getfield 35, 3) := by decide +kernel
theorem dX9_does_75 : decode cX9_does 75 = .ok (.iconst 3, 1) := by decide +kernel
theorem dX9_does_76 : decode cX9_does 76 = .ok (.iaload, 1) := by decide +kernel
theorem dX9_does_77 : decode cX9_does 77 = .ok (.invokevirtual 146, 3) := by decide +kernel
theorem dX9_does_80 : decode cX9_does 80 = .ok (.ireturn, 1) := by decide +kernel
theorem dX9_does_81 : decode cX9_does 81 = .ok (.aload_n 0, 1) := by decide +kernel
theorem dX9_does_82 : decode cX9_does 82 = .ok (.aload_n 0, 1) := by decide +kernel
theorem dX9_does_83 : decode cX9_does 83 = .ok (.getfield 35, 3) := by decide +kernel
theorem dX9_does_86 : decode cX9_does 86 = .ok (.iconst 0, 1) := by decide +kernel
theorem dX9_does_87 : decode cX9_does 87 = .ok (.iaload, 1) := by decide +kernel
theorem dX9_does_88 : decode cX9_does 88 = .ok (.aload_n 0, 1) := by decide +kernel
theorem dX9_does_89 : decode cX9_does 89 = .ok (.getfield 35, 3) := by decide +kernel
theorem dX9_does_92 : decode cX9_does 92 = .ok (.iconst 1, 1) := by decide +kernel
theorem dX9_does_93 : decode cX9_does 93 = .ok (.iaload, 1) := by decide +kernel
theorem dX9_does_94 : decode cX9_does 94 = .ok (.invokevirtual 114, 3) := by decide +kernel
theorem dX9_does_97 : decode cX9_does 97 = .ok (.ireturn, 1) := by decide +kernel
theorem dX9_does_98 : decode cX9_does 98 = .ok (.aload_n 0, 1) := by decide +kernel
theorem dX9_does_99 : decode cX9_does 99 = .ok (.aload_n 0, 1) := by decide +kernel
theorem dX9_does_100 : decode cX9_does 100 = .ok (.getfield 35, 3) := by decide +kernel
theorem dX9_does_103 : decode cX9_does 103 = .ok (.iconst 0, 1) := by decide +kernel
theorem dX9_does_104 : decode cX9_does 104 = .ok (.iaload, 1) := by decide +kernel
theorem dX9_does_105 : decode cX9_does 105 = .ok (.aload_n 0, 1) := by decide +kernel
theorem dX9_does_106 : decode cX9_does 106 = .ok (.getfield 35, 3) := by decide +kernel
theorem dX9_does_109 : decode cX9_does 109 = .ok (.iconst 1, 1) := by decide +kernel
theorem dX9_does_110 : decode cX9_does 110 = .ok (.iaload, 1) := by decide +kernel
theorem dX9_does_111 : decode cX9_does 111 = .ok (.aload_n 0, 1) := by decide +kernel
theorem dX9_does_112 : decode cX9_does 112 = .ok (.getfield 35, 3) := by decide +kernel
theorem dX9_does_115 : decode cX9_does 115 = .ok (.iconst 2, 1) := by decide +kernel
theorem dX9_does_116 : decode cX9_does 116 = .ok (.iaload, 1) := by decide +kernel
theorem dX9_does_117 : decode cX9_does 117 = .ok (.invokevirtual 172, 3) := by decide +kernel
theorem dX9_does_120 : decode cX9_does 120 = .ok (.ireturn, 1) := by decide +kernel
theorem dX9_does_121 : decode cX9_does 121 = .ok (.aload_n 0, 1) := by decide +kernel
theorem dX9_does_122 : decode cX9_does 122 = .ok (.aload_n 0, 1) := by decide +kernel
theorem dX9_does_123 : decode cX9_does 123 = .ok (.getfield 35, 3) := by decide +kernel
theorem dX9_does_126 : decode cX9_does 126 = .ok (.iconst 0, 1) := by decide +kernel
theorem dX9_does_127 : decode cX9_does 127 = .ok (.iaload, 1) := by decide +kernel
theorem dX9_does_128 : decode cX9_does 128 = .ok (.invokevirtual 181, 3) := by decide +kernel
theorem dX9_does_131 : decode cX9_does 131 = .ok (.ireturn, 1) := by decide +kernel
theorem dX9_does_132 : decode cX9_does 132 = .ok (.aload_n 0, 1) := by decide +kernel
theorem dX9_does_133 : decode cX9_does 133 = .ok (.invokevirtual 203, 3) := by decide +kernel
theorem dX9_does_136 : decode cX9_does 136 = .ok (.ireturn, 1) := by decide +kernel
theorem dX9_does_137 : decode cX9_does 137 = .ok (.aload_n 0, 1) := by decide +kernel
theorem dX9_does_138 : decode cX9_does 138 = .ok (.iload_n 1, 1) := by decide +kernel
theorem dX9_does_139 : decode cX9_does 139 = .ok (.invokestatic 317, 3) := by decide +kernel
theorem dX9_does_142 : decode cX9_does 142 = .ok (.aload_n 0, 1) := by decide +kernel
theorem dX9_does_143 : decode cX9_does 143 = .ok (.getfield 35, 3) := by decide +kernel
theorem dX9_does_146 : decode cX9_does 146 = .ok (.iconst 0, 1) := by decide +kernel
theorem dX9_does_147 : decode cX9_does 147 = .ok (.iaload, 1) := by decide +kernel
theorem dX9_does_148 : decode cX9_does 148 = .ok (.invokevirtual 128, 3) := by decide +kernel
theorem dX9_does_151 : decode cX9_does 151 = .ok (.ireturn, 1) := by decide +kernel
theorem dX9_readsOrder_0 : decode cX9_readsOrder 0 = .ok (.aload_n 0, 1) := by decide +kernel
theorem dX9_readsOrder_1 : decode cX9_readsOrder 1 = .ok (.invokevirtual 311, 3) := by decide +kernel
theorem dX9_readsOrder_4 : decode cX9_readsOrder 4 = .ok (.istore_n 2, 1) := by decide +kernel
theorem dX9_readsOrder_5 : decode cX9_readsOrder 5 = .ok (.iload_n 2, 1) := by decide +kernel
theorem dX9_readsOrder_6 : decode cX9_readsOrder 6 = .ok (.invokestatic 320, 3) := by decide +kernel
theorem dX9_readsOrder_9 : decode cX9_readsOrder 9 = .ok (.ifCond .ne 5, 3) := by decide +kernel
theorem dX9_readsOrder_12 : decode cX9_readsOrder 12 = .ok (.iconst 0, 1) := by decide +kernel
theorem dX9_readsOrder_13 : decode cX9_readsOrder 13 = .ok (.ireturn, 1) := by decide +kernel
theorem dX9_readsOrder_14 : decode cX9_readsOrder 14 = .ok (.aload_n 0, 1) := by decide +kernel
theorem dX9_readsOrder_15 : decode cX9_readsOrder 15 = .ok (.dup, 1) := by decide +kernel
theorem dX9_readsOrder_16 : decode cX9_readsOrder 16 = .ok (.getfield 304, 3) := by decide +kernel
theorem dX9_readsOrder_19 : decode cX9_readsOrder 19 = .ok (.iconst 1, 1) := by decide +kernel
theorem dX9_readsOrder_20 : decode cX9_readsOrder 20 = .ok (.iadd, 1) := by decide +kernel
theorem dX9_readsOrder_21 : decode cX9_readsOrder 21 = .ok (.putfield 304, 3) := by decide +kernel
theorem dX9_readsOrder_24 : decode cX9_readsOrder 24 = .ok (.aload_n 0, 1) := by decide +kernel
theorem dX9_readsOrder_25 : decode cX9_readsOrder 25 = .ok (.iload_n 2, 1) := by decide +kernel
theorem dX9_readsOrder_26 : decode cX9_readsOrder 26 = .ok (.invokestatic 323, 3) := by decide +kernel
theorem dX9_readsOrder_29 : decode cX9_readsOrder 29 = .ok (.invokevirtual 326, 3) := by decide +kernel
theorem dX9_readsOrder_32 : decode cX9_readsOrder 32 = .ok (.ifCond .eq 12, 3) := by decide +kernel
theorem dX9_readsOrder_35 : decode cX9_readsOrder 35 = .ok (.aload_n 0, 1) := by decide +kernel
theorem dX9_readsOrder_36 : decode cX9_readsOrder 36 = .ok (.invokevirtual 311, 3) := by decide +kernel
theorem dX9_readsOrder_39 : decode cX9_readsOrder 39 = .ok (.bipush 59, 2) := by decide +kernel
theorem dX9_readsOrder_41 : decode cX9_readsOrder 41 = .ok (.if_icmp .eq 5, 3) := by decide +kernel
theorem dX9_readsOrder_44 : decode cX9_readsOrder 44 = .ok (.iconst 0, 1) := by decide +kernel
theorem dX9_readsOrder_45 : decode cX9_readsOrder 45 = .ok (.ireturn, 1) := by decide +kernel
theorem dX9_readsOrder_46 : decode cX9_readsOrder 46 = .ok (.aload_n 0, 1) := by decide +kernel
theorem dX9_readsOrder_47 : decode cX9_readsOrder 47 = .ok (.dup, 1) := by decide +kernel
theorem dX9_readsOrder_48 : decode cX9_readsOrder 48 = .ok (.getfield 304, 3) := by decide +kernel
theorem dX9_readsOrder_51 : decode cX9_readsOrder 51 = .ok (.iconst 1, 1) := by decide +kernel
theorem dX9_readsOrder_52 : decode cX9_readsOrder 52 = .ok (.iadd, 1) := by decide +kernel
theorem dX9_readsOrder_53 : decode cX9_readsOrder 53 = .ok (.putfield 304, 3) := by decide +kernel
theorem dX9_readsOrder_56 : decode cX9_readsOrder 56 = .ok (.iload_n 1, 1) := by decide +kernel
theorem dX9_readsOrder_57 : decode cX9_readsOrder 57 = .ok (.ifCond .eq 29, 3) := by decide +kernel
theorem dX9_readsOrder_60 : decode cX9_readsOrder 60 = .ok (.aload_n 0, 1) := by decide +kernel
theorem dX9_readsOrder_61 : decode cX9_readsOrder 61 = .ok (.aload_n 0, 1) := by decide +kernel
theorem dX9_readsOrder_62 : decode cX9_readsOrder 62 = .ok (.iload_n 2, 1) := by decide +kernel
theorem dX9_readsOrder_63 : decode cX9_readsOrder 63 = .ok (.invokevirtual 329, 3) := by decide +kernel
theorem dX9_readsOrder_66 : decode cX9_readsOrder 66 = .ok (.putfield 332, 3) := by decide +kernel
theorem dX9_readsOrder_69 : decode cX9_readsOrder 69 = .ok (.aload_n 0, 1) := by decide +kernel
theorem dX9_readsOrder_70 : decode cX9_readsOrder 70 = .ok (.getfield 332, 3) := by decide +kernel
theorem dX9_readsOrder_73 : decode cX9_readsOrder 73 = .ok (.ifCond .ne 11, 3) := by decide +kernel
theorem dX9_readsOrder_76 : decode cX9_readsOrder 76 = .ok (.aload_n 0, 1) := by decide +kernel
theorem dX9_readsOrder_77 : decode cX9_readsOrder 77 = .ok (.iload_n 2, 1) := by decide +kernel
theorem dX9_readsOrder_78 : decode cX9_readsOrder 78 = .ok (.invokevirtual 335, 3) := by decide +kernel
theorem dX9_readsOrder_81 : decode cX9_readsOrder 81 = .ok (.goto 4, 3) := by decide +kernel
theorem dX9_readsOrder_84 : decode cX9_readsOrder 84 = .ok (.iconst 0, 1) := by decide +kernel
theorem dX9_readsOrder_85 : decode cX9_readsOrder 85 = .ok (.istore_n 3, 1) := by decide +kernel
theorem dX9_readsOrder_86 : decode cX9_readsOrder 86 = .ok (.iconst 1, 1) := by decide +kernel
theorem dX9_readsOrder_87 : decode cX9_readsOrder 87 = .ok (.ireturn, 1) := by decide +kernel
theorem dX9_reads_0 : decode cX9_reads 0 = .ok (.aload_n 0, 1) := by decide +kernel
theorem dX9_reads_1 : decode cX9_reads 1 = .ok (.iconst 0, 1) := by decide +kernel
theorem dX9_reads_2 : decode cX9_reads 2 = .ok (.putfield 304, 3) := by decide +kernel
theorem dX9_reads_5 : decode cX9_reads 5 = .ok (.aload_n 0, 1) := by decide +kernel
theorem dX9_reads_6 : decode cX9_reads 6 = .ok (.iconst 0, 1) := by decide +kernel
theorem dX9_reads_7 : decode cX9_reads 7 = .ok (.invokevirtual 338, 3) := by decide +kernel
theorem dX9_reads_10 : decode cX9_reads 10 = .ok (.istore_n 1, 1) := by decide +kernel
theorem dX9_reads_11 : decode cX9_reads 11 = .ok (.iload_n 1, 1) := by decide +kernel
theorem dX9_reads_12 : decode cX9_reads 12 = .ok (.ifCond .eq 20, 3) := by decide +kernel
theorem dX9_reads_15 : decode cX9_reads 15 = .ok (.aload_n 0, 1) := by decide +kernel
theorem dX9_reads_16 : decode cX9_reads 16 = .ok (.invokevirtual 311, 3) := by decide +kernel
theorem dX9_reads_19 : decode cX9_reads 19 = .ok (.iconst (-1), 1) := by decide +kernel
theorem dX9_reads_20 : decode cX9_reads 20 = .ok (.if_icmp .eq 12, 3) := by decide +kernel
theorem dX9_reads_23 : decode cX9_reads 23 = .ok (.aload_n 0, 1) := by decide +kernel
theorem dX9_reads_24 : decode cX9_reads 24 = .ok (.iconst 0, 1) := by decide +kernel
theorem dX9_reads_25 : decode cX9_reads 25 = .ok (.invokevirtual 338, 3) := by decide +kernel
theorem dX9_reads_28 : decode cX9_reads 28 = .ok (.istore_n 1, 1) := by decide +kernel
theorem dX9_reads_29 : decode cX9_reads 29 = .ok (.goto (-18), 3) := by decide +kernel
theorem dX9_reads_32 : decode cX9_reads 32 = .ok (.iload_n 1, 1) := by decide +kernel
theorem dX9_reads_33 : decode cX9_reads 33 = .ok (.ifCond .ne 11, 3) := by decide +kernel
theorem dX9_reads_36 : decode cX9_reads 36 = .ok (.bipush (-10), 2) := by decide +kernel
theorem dX9_reads_38 : decode cX9_reads 38 = .ok (.aload_n 0, 1) := by decide +kernel
theorem dX9_reads_39 : decode cX9_reads 39 = .ok (.getfield 304, 3) := by decide +kernel
theorem dX9_reads_42 : decode cX9_reads 42 = .ok (.isub, 1) := by decide +kernel
theorem dX9_reads_43 : decode cX9_reads 43 = .ok (.ireturn, 1) := by decide +kernel
theorem dX9_reads_44 : decode cX9_reads 44 = .ok (.iconst 0, 1) := by decide +kernel
theorem dX9_reads_45 : decode cX9_reads 45 = .ok (.istore_n 2, 1) := by decide +kernel
theorem dX9_reads_46 : decode cX9_reads 46 = .ok (.iload_n 2, 1) := by decide +kernel
theorem dX9_reads_47 : decode cX9_reads 47 = .ok (.sipush 155, 3) := by decide +kernel
theorem dX9_reads_50 : decode cX9_reads 50 = .ok (.if_icmp .ge 21, 3) := by decide +kernel
theorem dX9_reads_53 : decode cX9_reads 53 = .ok (.aload_n 0, 1) := by decide +kernel
theorem dX9_reads_54 : decode cX9_reads 54 = .ok (.getfield 16, 3) := by decide +kernel
theorem dX9_reads_57 : decode cX9_reads 57 = .ok (.iload_n 2, 1) := by decide +kernel
theorem dX9_reads_58 : decode cX9_reads 58 = .ok (.aload_n 0, 1) := by decide +kernel
theorem dX9_reads_59 : decode cX9_reads 59 = .ok (.getfield 7, 3) := by decide +kernel
theorem dX9_reads_62 : decode cX9_reads 62 = .ok (.iload_n 2, 1) := by decide +kernel
theorem dX9_reads_63 : decode cX9_reads 63 = .ok (.iaload, 1) := by decide +kernel
theorem dX9_reads_64 : decode cX9_reads 64 = .ok (.iastore, 1) := by decide +kernel
theorem dX9_reads_65 : decode cX9_reads 65 = .ok (.iinc 2 1, 3) := by decide +kernel
theorem dX9_reads_68 : decode cX9_reads 68 = .ok (.goto (-22), 3) := by decide +kernel
theorem dX9_reads_71 : decode cX9_reads 71 = .ok (.iconst 0, 1) := by decide +kernel
theorem dX9_reads_72 : decode cX9_reads 72 = .ok (.istore_n 2, 1) := by decide +kernel
theorem dX9_reads_73 : decode cX9_reads 73 = .ok (.aload_n 0, 1) := by decide +kernel
theorem dX9_reads_74 : decode cX9_reads 74 = .ok (.iconst 0, 1) := by decide +kernel
theorem dX9_reads_75 : decode cX9_reads 75 = .ok (.putfield 304, 3) := by decide +kernel
theorem dX9_reads_78 : decode cX9_reads 78 = .ok (.aload_n 0, 1) := by decide +kernel
theorem dX9_reads_79 : decode cX9_reads 79 = .ok (.iconst 0, 1) := by decide +kernel
theorem dX9_reads_80 : decode cX9_reads 80 = .ok (.putfield 332, 3) := by decide +kernel
theorem dX9_reads_83 : decode cX9_reads 83 = .ok (.aload_n 0, 1) := by decide +kernel
theorem dX9_reads_84 : decode cX9_reads 84 = .ok (.invokevirtual 311, 3) := by decide +kernel
theorem dX9_reads_87 : decode cX9_reads 87 = .ok (.iconst (-1), 1) := by decide +kernel
theorem dX9_reads_88 : decode cX9_reads 88 = .ok (.if_icmp .eq 55, 3) := by decide +kernel
theorem dX9_reads_91 : decode cX9_reads 91 = .ok (.aload_n 0, 1) := by decide +kernel
theorem dX9_reads_92 : decode cX9_reads 92 = .ok (.iconst 1, 1) := by decide +kernel
theorem dX9_reads_93 : decode cX9_reads 93 = .ok (.invokevirtual 338, 3) := by decide +kernel
theorem dX9_reads_96 : decode cX9_reads 96 = .ok (.istore_n 1, 1) := by decide +kernel
theorem dX9_reads_97 : decode cX9_reads 97 = .ok (.aload_n 0, 1) := by decide +kernel
theorem dX9_reads_98 : decode cX9_reads 98 = .ok (.getfield 332, 3) := by decide +kernel
theorem dX9_reads_101 : decode cX9_reads 101 = .ok (.ifCond .ge 36, 3) := by decide +kernel
theorem dX9_reads_104 : decode cX9_reads 104 = .ok (.iconst 0, 1) := by decide +kernel
theorem dX9_reads_105 : decode cX9_reads 105 = .ok (.istore_n 3, 1) := by decide +kernel
theorem dX9_reads_106 : decode cX9_reads 106 = .ok (.iload_n 3, 1) := by decide +kernel
theorem dX9_reads_107 : decode cX9_reads 107 = .ok (.sipush 155, 3) := by decide +kernel
theorem dX9_reads_110 : decode cX9_reads 110 = .ok (.if_icmp .ge 21, 3) := by decide +kernel
theorem dX9_reads_113 : decode cX9_reads 113 = .ok (.aload_n 0, 1) := by decide +kernel
theorem dX9_reads_114 : decode cX9_reads 114 = .ok (.getfield 7, 3) := by decide +kernel
theorem dX9_reads_117 : decode cX9_reads 117 = .ok (.iload_n 3, 1) := by decide +kernel
theorem dX9_reads_118 : decode cX9_reads 118 = .ok (.aload_n 0, 1) := by decide +kernel
theorem dX9_reads_119 : decode cX9_reads 119 = .ok (.getfield 16, 3) := by decide +kernel
theorem dX9_reads_122 : decode cX9_reads 122 = .ok (.iload_n 3, 1) := by decide +kernel
theorem dX9_reads_123 : decode cX9_reads 123 = .ok (.iaload, 1) := by decide +kernel
theorem dX9_reads_124 : decode cX9_reads 124 = .ok (.iastore, 1) := by decide +kernel
theorem dX9_reads_125 : decode cX9_reads 125 = .ok (.iinc 3 1, 3) := by decide +kernel
theorem dX9_reads_128 : decode cX9_reads 128 = .ok (.goto (-22), 3) := by decide +kernel
theorem dX9_reads_131 : decode cX9_reads 131 = .ok (.sipush (-1000), 3) := by decide +kernel
theorem dX9_reads_134 : decode cX9_reads 134 = .ok (.iload_n 2, 1) := by decide +kernel
theorem dX9_reads_135 : decode cX9_reads 135 = .ok (.isub, 1) := by decide +kernel
theorem dX9_reads_136 : decode cX9_reads 136 = .ok (.ireturn, 1) := by decide +kernel
theorem dX9_reads_137 : decode cX9_reads 137 = .ok (.iinc 2 1, 3) := by decide +kernel
theorem dX9_reads_140 : decode cX9_reads 140 = .ok (.goto (-57), 3) := by decide +kernel
theorem dX9_reads_143 : decode cX9_reads 143 = .ok (.aload_n 0, 1) := by decide +kernel
theorem dX9_reads_144 : decode cX9_reads 144 = .ok (.invokevirtual 342, 3) := by decide +kernel
theorem dX9_reads_147 : decode cX9_reads 147 = .ok (.iload_n 2, 1) := by decide +kernel
theorem dX9_reads_148 : decode cX9_reads 148 = .ok (.ireturn, 1) := by decide +kernel
theorem dX9_keepsAside_0 : decode cX9_keepsAside 0 = .ok (.iconst 0, 1) := by decide +kernel
theorem dX9_keepsAside_1 : decode cX9_keepsAside 1 = .ok (.istore_n 1, 1) := by decide +kernel
theorem dX9_keepsAside_2 : decode cX9_keepsAside 2 = .ok (.iload_n 1, 1) := by decide +kernel
theorem dX9_keepsAside_3 : decode cX9_keepsAside 3 = .ok (.sipush 155, 3) := by decide +kernel
theorem dX9_keepsAside_6 : decode cX9_keepsAside 6 = .ok (.if_icmp .ge 35, 3) := by decide +kernel
theorem dX9_keepsAside_9 : decode cX9_keepsAside 9 = .ok (.aload_n 0, 1) := by decide +kernel
theorem dX9_keepsAside_10 : decode cX9_keepsAside 10 = .ok (.getfield 7, 3) := by decide +kernel
theorem dX9_keepsAside_13 : decode cX9_keepsAside 13 = .ok (.iload_n 1, 1) := by decide +kernel
theorem dX9_keepsAside_14 : decode cX9_keepsAside 14 = .ok (.iaload, 1) := by decide +kernel
theorem dX9_keepsAside_15 : decode cX9_keepsAside 15 = .ok (.istore_n 2, 1) := by decide +kernel
theorem dX9_keepsAside_16 : decode cX9_keepsAside 16 = .ok (.aload_n 0, 1) := by decide +kernel
theorem dX9_keepsAside_17 : decode cX9_keepsAside 17 = .ok (.getfield 7, 3) := by decide +kernel
theorem dX9_keepsAside_20 : decode cX9_keepsAside 20 = .ok (.iload_n 1, 1) := by decide +kernel
theorem dX9_keepsAside_21 : decode cX9_keepsAside 21 = .ok (.aload_n 0, 1) := by decide +kernel
theorem dX9_keepsAside_22 : decode cX9_keepsAside 22 = .ok (.getfield 16, 3) := by decide +kernel
theorem dX9_keepsAside_25 : decode cX9_keepsAside 25 = .ok (.iload_n 1, 1) := by decide +kernel
theorem dX9_keepsAside_26 : decode cX9_keepsAside 26 = .ok (.iaload, 1) := by decide +kernel
theorem dX9_keepsAside_27 : decode cX9_keepsAside 27 = .ok (.iastore, 1) := by decide +kernel
theorem dX9_keepsAside_28 : decode cX9_keepsAside 28 = .ok (.aload_n 0, 1) := by decide +kernel
theorem dX9_keepsAside_29 : decode cX9_keepsAside 29 = .ok (.getfield 16, 3) := by decide +kernel
theorem dX9_keepsAside_32 : decode cX9_keepsAside 32 = .ok (.iload_n 1, 1) := by decide +kernel
theorem dX9_keepsAside_33 : decode cX9_keepsAside 33 = .ok (.iload_n 2, 1) := by decide +kernel
theorem dX9_keepsAside_34 : decode cX9_keepsAside 34 = .ok (.iastore, 1) := by decide +kernel
theorem dX9_keepsAside_35 : decode cX9_keepsAside 35 = .ok (.iinc 1 1, 3) := by decide +kernel
theorem dX9_keepsAside_38 : decode cX9_keepsAside 38 = .ok (.goto (-36), 3) := by decide +kernel
theorem dX9_keepsAside_41 : decode cX9_keepsAside 41 = .ok (.aload_n 0, 1) := by decide +kernel
theorem dX9_keepsAside_42 : decode cX9_keepsAside 42 = .ok (.invokevirtual 111, 3) := by decide +kernel
theorem dX9_keepsAside_45 : decode cX9_keepsAside 45 = .ok (.iconst 0, 1) := by decide +kernel
theorem dX9_keepsAside_46 : decode cX9_keepsAside 46 = .ok (.istore_n 1, 1) := by decide +kernel
theorem dX9_keepsAside_47 : decode cX9_keepsAside 47 = .ok (.iload_n 1, 1) := by decide +kernel
theorem dX9_keepsAside_48 : decode cX9_keepsAside 48 = .ok (.sipush 155, 3) := by decide +kernel
theorem dX9_keepsAside_51 : decode cX9_keepsAside 51 = .ok (.if_icmp .ge 21, 3) := by decide +kernel
theorem dX9_keepsAside_54 : decode cX9_keepsAside 54 = .ok (.aload_n 0, 1) := by decide +kernel
theorem dX9_keepsAside_55 : decode cX9_keepsAside 55 = .ok (.getfield 7, 3) := by decide +kernel
theorem dX9_keepsAside_58 : decode cX9_keepsAside 58 = .ok (.iload_n 1, 1) := by decide +kernel
theorem dX9_keepsAside_59 : decode cX9_keepsAside 59 = .ok (.aload_n 0, 1) := by decide +kernel
theorem dX9_keepsAside_60 : decode cX9_keepsAside 60 = .ok (.getfield 16, 3) := by decide +kernel
theorem dX9_keepsAside_63 : decode cX9_keepsAside 63 = .ok (.iload_n 1, 1) := by decide +kernel
theorem dX9_keepsAside_64 : decode cX9_keepsAside 64 = .ok (.iaload, 1) := by decide +kernel
theorem dX9_keepsAside_65 : decode cX9_keepsAside 65 = .ok (.iastore, 1) := by decide +kernel
theorem dX9_keepsAside_66 : decode cX9_keepsAside 66 = .ok (.iinc 1 1, 3) := by decide +kernel
theorem dX9_keepsAside_69 : decode cX9_keepsAside 69 = .ok (.goto (-22), 3) := by decide +kernel
theorem dX9_keepsAside_72 : decode cX9_keepsAside 72 = .ok (.return_, 1) := by decide +kernel
theorem dX9_back_0 : decode cX9_back 0 = .ok (.aload_n 0, 1) := by decide +kernel
theorem dX9_back_1 : decode cX9_back 1 = .ok (.getfield 38, 3) := by decide +kernel
theorem dX9_back_4 : decode cX9_back 4 = .ok (.ifCond .ne 10, 3) := by decide +kernel
theorem dX9_back_7 : decode cX9_back 7 = .ok (.aload_n 0, 1) := by decide +kernel
theorem dX9_back_8 : decode cX9_back 8 = .ok (.bipush (-3), 2) := by decide +kernel
theorem dX9_back_10 : decode cX9_back 10 = .ok (.invokevirtual 101, 3) := by decide +kernel
theorem dX9_back_13 : decode cX9_back 13 = .ok (.ireturn, 1) := by decide +kernel
theorem dX9_back_14 : decode cX9_back 14 = .ok (.aload_n 0, 1) := by decide +kernel
theorem dX9_back_15 : decode cX9_back 15 = .ok (.dup, 1) := by decide +kernel
theorem dX9_back_16 : decode cX9_back 16 = .ok (.getfield 38, 3) := by decide +kernel
theorem dX9_back_19 : decode cX9_back 19 = .ok (.iconst 1, 1) := by decide +kernel
theorem dX9_back_20 : decode cX9_back 20 = .ok (.isub, 1) := by decide +kernel
theorem dX9_back_21 : decode cX9_back 21 = .ok (.putfield 38, 3) := by decide +kernel
theorem dX9_back_24 : decode cX9_back 24 = .ok (.iconst 0, 1) := by decide +kernel
theorem dX9_back_25 : decode cX9_back 25 = .ok (.istore_n 1, 1) := by decide +kernel
theorem dX9_back_26 : decode cX9_back 26 = .ok (.iload_n 1, 1) := by decide +kernel
theorem dX9_back_27 : decode cX9_back 27 = .ok (.sipush 155, 3) := by decide +kernel
theorem dX9_back_30 : decode cX9_back 30 = .ok (.if_icmp .ge 30, 3) := by decide +kernel
theorem dX9_back_33 : decode cX9_back 33 = .ok (.aload_n 0, 1) := by decide +kernel
theorem dX9_back_34 : decode cX9_back 34 = .ok (.getfield 7, 3) := by decide +kernel
theorem dX9_back_37 : decode cX9_back 37 = .ok (.iload_n 1, 1) := by decide +kernel
theorem dX9_back_38 : decode cX9_back 38 = .ok (.aload_n 0, 1) := by decide +kernel
theorem dX9_back_39 : decode cX9_back 39 = .ok (.getfield 13, 3) := by decide +kernel
theorem dX9_back_42 : decode cX9_back 42 = .ok (.sipush 155, 3) := by decide +kernel
theorem dX9_back_45 : decode cX9_back 45 = .ok (.aload_n 0, 1) := by decide +kernel
theorem dX9_back_46 : decode cX9_back 46 = .ok (.getfield 38, 3) := by decide +kernel
theorem dX9_back_49 : decode cX9_back 49 = .ok (.imul, 1) := by decide +kernel
theorem dX9_back_50 : decode cX9_back 50 = .ok (.iload_n 1, 1) := by decide +kernel
theorem dX9_back_51 : decode cX9_back 51 = .ok (.iadd, 1) := by decide +kernel
theorem dX9_back_52 : decode cX9_back 52 = .ok (.iaload, 1) := by decide +kernel
theorem dX9_back_53 : decode cX9_back 53 = .ok (.iastore, 1) := by decide +kernel
theorem dX9_back_54 : decode cX9_back 54 = .ok (.iinc 1 1, 3) := by decide +kernel
theorem dX9_back_57 : decode cX9_back 57 = .ok (.goto (-31), 3) := by decide +kernel
theorem dX9_back_60 : decode cX9_back 60 = .ok (.aload_n 0, 1) := by decide +kernel
theorem dX9_back_61 : decode cX9_back 61 = .ok (.getfield 38, 3) := by decide +kernel
theorem dX9_back_64 : decode cX9_back 64 = .ok (.ireturn, 1) := by decide +kernel
theorem dX9_keptSet_0 : decode cX9_keptSet 0 = .ok (.aload_n 0, 1) := by decide +kernel
theorem dX9_keptSet_1 : decode cX9_keptSet 1 = .ok (.iconst 0, 1) := by decide +kernel
theorem dX9_keptSet_2 : decode cX9_keptSet 2 = .ok (.invokevirtual 290, 3) := by decide +kernel
theorem dX9_keptSet_5 : decode cX9_keptSet 5 = .ok (.ifCond .eq 7, 3) := by decide +kernel
theorem dX9_keptSet_8 : decode cX9_keptSet 8 = .ok (.iconst 1, 1) := by decide +kernel
theorem dX9_keptSet_9 : decode cX9_keptSet 9 = .ok (.goto 4, 3) := by decide +kernel
theorem dX9_keptSet_12 : decode cX9_keptSet 12 = .ok (.iconst 0, 1) := by decide +kernel
theorem dX9_keptSet_13 : decode cX9_keptSet 13 = .ok (.aload_n 0, 1) := by decide +kernel
theorem dX9_keptSet_14 : decode cX9_keptSet 14 = .ok (.iconst 1, 1) := by decide +kernel
theorem dX9_keptSet_15 : decode cX9_keptSet 15 = .ok (.invokevirtual 290, 3) := by decide +kernel
theorem dX9_keptSet_18 : decode cX9_keptSet 18 = .ok (.ifCond .eq 7, 3) := by decide +kernel
theorem dX9_keptSet_21 : decode cX9_keptSet 21 = .ok (.iconst 2, 1) := by decide +kernel
theorem dX9_keptSet_22 : decode cX9_keptSet 22 = .ok (.goto 4, 3) := by decide +kernel
theorem dX9_keptSet_25 : decode cX9_keptSet 25 = .ok (.iconst 0, 1) := by decide +kernel
theorem dX9_keptSet_26 : decode cX9_keptSet 26 = .ok (.ior, 1) := by decide +kernel
theorem dX9_keptSet_27 : decode cX9_keptSet 27 = .ok (.aload_n 0, 1) := by decide +kernel
theorem dX9_keptSet_28 : decode cX9_keptSet 28 = .ok (.iconst 2, 1) := by decide +kernel
theorem dX9_keptSet_29 : decode cX9_keptSet 29 = .ok (.invokevirtual 290, 3) := by decide +kernel
theorem dX9_keptSet_32 : decode cX9_keptSet 32 = .ok (.ifCond .eq 7, 3) := by decide +kernel
theorem dX9_keptSet_35 : decode cX9_keptSet 35 = .ok (.iconst 4, 1) := by decide +kernel
theorem dX9_keptSet_36 : decode cX9_keptSet 36 = .ok (.goto 4, 3) := by decide +kernel
theorem dX9_keptSet_39 : decode cX9_keptSet 39 = .ok (.iconst 0, 1) := by decide +kernel
theorem dX9_keptSet_40 : decode cX9_keptSet 40 = .ok (.ior, 1) := by decide +kernel
theorem dX9_keptSet_41 : decode cX9_keptSet 41 = .ok (.ireturn, 1) := by decide +kernel
theorem dX9_toldOf_0 : decode cX9_toldOf 0 = .ok (.iload_n 1, 1) := by decide +kernel
theorem dX9_toldOf_1 : decode cX9_toldOf 1 = .ok (.lookupswitch 63 #[(3, 43), (4, 48), (12, 53), (13, 58)], 43) := by decide +kernel
theorem dX9_toldOf_44 : decode cX9_toldOf 44 = .ok (.aload_n 0, 1) := by decide +kernel
theorem dX9_toldOf_45 : decode cX9_toldOf 45 = .ok (.getfield 301, 3) := by decide +kernel
theorem dX9_toldOf_48 : decode cX9_toldOf 48 = .ok (.ireturn, 1) := by decide +kernel
theorem dX9_toldOf_49 : decode cX9_toldOf 49 = .ok (.aload_n 0, 1) := by decide +kernel
theorem dX9_toldOf_50 : decode cX9_toldOf 50 = .ok (.invokevirtual 42, 3) := by decide +kernel
theorem dX9_toldOf_53 : decode cX9_toldOf 53 = .ok (.ireturn, 1) := by decide +kernel
theorem dX9_toldOf_54 : decode cX9_toldOf 54 = .ok (.aload_n 0, 1) := by decide +kernel
theorem dX9_toldOf_55 : decode cX9_toldOf 55 = .ok (.invokevirtual 345, 3) := by decide +kernel
theorem dX9_toldOf_58 : decode cX9_toldOf 58 = .ok (.ireturn, 1) := by decide +kernel
theorem dX9_toldOf_59 : decode cX9_toldOf 59 = .ok (.aload_n 0, 1) := by decide +kernel
theorem dX9_toldOf_60 : decode cX9_toldOf 60 = .ok (.getfield 38, 3) := by decide +kernel
theorem dX9_toldOf_63 : decode cX9_toldOf 63 = .ok (.ireturn, 1) := by decide +kernel
theorem dX9_toldOf_64 : decode cX9_toldOf 64 = .ok (.iload_n 1, 1) := by decide +kernel
theorem dX9_toldOf_65 : decode cX9_toldOf 65 = .ok (.iconst 3, 1) := by decide +kernel
theorem dX9_toldOf_66 : decode cX9_toldOf 66 = .ok (.if_icmp .ge 12, 3) := by decide +kernel
theorem dX9_toldOf_69 : decode cX9_toldOf 69 = .ok (.aload_n 0, 1) := by decide +kernel
theorem dX9_toldOf_70 : decode cX9_toldOf 70 = .ok (.getfield 19, 3) := by decide +kernel
theorem dX9_toldOf_73 : decode cX9_toldOf 73 = .ok (.iload_n 1, 1) := by decide +kernel
theorem dX9_toldOf_74 : decode cX9_toldOf 74 = .ok (.iaload, 1) := by decide +kernel
theorem dX9_toldOf_75 : decode cX9_toldOf 75 = .ok (.goto 11, 3) := by decide +kernel
theorem dX9_toldOf_78 : decode cX9_toldOf 78 = .ok (.aload_n 0, 1) := by decide +kernel
theorem dX9_toldOf_79 : decode cX9_toldOf 79 = .ok (.getfield 7, 3) := by decide +kernel
theorem dX9_toldOf_82 : decode cX9_toldOf 82 = .ok (.iload_n 1, 1) := by decide +kernel
theorem dX9_toldOf_83 : decode cX9_toldOf 83 = .ok (.iconst 5, 1) := by decide +kernel
theorem dX9_toldOf_84 : decode cX9_toldOf 84 = .ok (.isub, 1) := by decide +kernel
theorem dX9_toldOf_85 : decode cX9_toldOf 85 = .ok (.iaload, 1) := by decide +kernel
theorem dX9_toldOf_86 : decode cX9_toldOf 86 = .ok (.ireturn, 1) := by decide +kernel
theorem dX9_told_0 : decode cX9_told 0 = .ok (.iload_n 1, 1) := by decide +kernel
theorem dX9_told_1 : decode cX9_told 1 = .ok (.i2l, 1) := by decide +kernel
theorem dX9_told_2 : decode cX9_told 2 = .ok (.lconst 0, 1) := by decide +kernel
theorem dX9_told_3 : decode cX9_told 3 = .ok (.ldc2_w 348, 3) := by decide +kernel
theorem dX9_told_6 : decode cX9_told 6 = .ok (.invokestatic 46, 3) := by decide +kernel
theorem dX9_told_9 : decode cX9_told 9 = .ok (.ifCond .eq 11, 3) := by decide +kernel
theorem dX9_told_12 : decode cX9_told 12 = .ok (.aload_n 0, 1) := by decide +kernel
theorem dX9_told_13 : decode cX9_told 13 = .ok (.iload_n 1, 1) := by decide +kernel
theorem dX9_told_14 : decode cX9_told 14 = .ok (.invokevirtual 350, 3) := by decide +kernel
theorem dX9_told_17 : decode cX9_told 17 = .ok (.goto 9, 3) := by decide +kernel
theorem dX9_told_20 : decode cX9_told 20 = .ok (.aload_n 0, 1) := by decide +kernel
theorem dX9_told_21 : decode cX9_told 21 = .ok (.bipush (-2), 2) := by decide +kernel
theorem dX9_told_23 : decode cX9_told 23 = .ok (.invokevirtual 101, 3) := by decide +kernel
theorem dX9_told_26 : decode cX9_told 26 = .ok (.ireturn, 1) := by decide +kernel
theorem dX9_digest_0 : decode cX9_digest 0 = .ok (.ldc2_w 353, 3) := by decide +kernel
theorem dX9_digest_3 : decode cX9_digest 3 = .ok (.lstore_n 1, 1) := by decide +kernel
theorem dX9_digest_4 : decode cX9_digest 4 = .ok (.iconst 0, 1) := by decide +kernel
theorem dX9_digest_5 : decode cX9_digest 5 = .ok (.istore_n 3, 1) := by decide +kernel
theorem dX9_digest_6 : decode cX9_digest 6 = .ok (.iload_n 3, 1) := by decide +kernel
theorem dX9_digest_7 : decode cX9_digest 7 = .ok (.bipush 14, 2) := by decide +kernel
theorem dX9_digest_9 : decode cX9_digest 9 = .ok (.if_icmp .ge 22, 3) := by decide +kernel
theorem dX9_digest_12 : decode cX9_digest 12 = .ok (.ldc2_w 355, 3) := by decide +kernel
theorem dX9_digest_15 : decode cX9_digest 15 = .ok (.lload_n 1, 1) := by decide +kernel
theorem dX9_digest_16 : decode cX9_digest 16 = .ok (.lmul, 1) := by decide +kernel
theorem dX9_digest_17 : decode cX9_digest 17 = .ok (.aload_n 0, 1) := by decide +kernel
theorem dX9_digest_18 : decode cX9_digest 18 = .ok (.iload_n 3, 1) := by decide +kernel
theorem dX9_digest_19 : decode cX9_digest 19 = .ok (.invokevirtual 350, 3) := by decide +kernel
theorem dX9_digest_22 : decode cX9_digest 22 = .ok (.i2l, 1) := by decide +kernel
theorem dX9_digest_23 : decode cX9_digest 23 = .ok (.ladd, 1) := by decide +kernel
theorem dX9_digest_24 : decode cX9_digest 24 = .ok (.lstore_n 1, 1) := by decide +kernel
theorem dX9_digest_25 : decode cX9_digest 25 = .ok (.iinc 3 1, 3) := by decide +kernel
theorem dX9_digest_28 : decode cX9_digest 28 = .ok (.goto (-22), 3) := by decide +kernel
theorem dX9_digest_31 : decode cX9_digest 31 = .ok (.iconst 0, 1) := by decide +kernel
theorem dX9_digest_32 : decode cX9_digest 32 = .ok (.istore_n 3, 1) := by decide +kernel
theorem dX9_digest_33 : decode cX9_digest 33 = .ok (.iload_n 3, 1) := by decide +kernel
theorem dX9_digest_34 : decode cX9_digest 34 = .ok (.bipush 10, 2) := by decide +kernel
theorem dX9_digest_36 : decode cX9_digest 36 = .ok (.aload_n 0, 1) := by decide +kernel
theorem dX9_digest_37 : decode cX9_digest 37 = .ok (.invokevirtual 42, 3) := by decide +kernel
theorem dX9_digest_40 : decode cX9_digest 40 = .ok (.imul, 1) := by decide +kernel
theorem dX9_digest_41 : decode cX9_digest 41 = .ok (.if_icmp .ge 29, 3) := by decide +kernel
theorem dX9_digest_44 : decode cX9_digest 44 = .ok (.ldc2_w 355, 3) := by decide +kernel
theorem dX9_digest_47 : decode cX9_digest 47 = .ok (.lload_n 1, 1) := by decide +kernel
theorem dX9_digest_48 : decode cX9_digest 48 = .ok (.lmul, 1) := by decide +kernel
theorem dX9_digest_49 : decode cX9_digest 49 = .ok (.aload_n 0, 1) := by decide +kernel
theorem dX9_digest_50 : decode cX9_digest 50 = .ok (.iload_n 3, 1) := by decide +kernel
theorem dX9_digest_51 : decode cX9_digest 51 = .ok (.bipush 10, 2) := by decide +kernel
theorem dX9_digest_53 : decode cX9_digest 53 = .ok (.idiv, 1) := by decide +kernel
theorem dX9_digest_54 : decode cX9_digest 54 = .ok (.iload_n 3, 1) := by decide +kernel
theorem dX9_digest_55 : decode cX9_digest 55 = .ok (.bipush 10, 2) := by decide +kernel
theorem dX9_digest_57 : decode cX9_digest 57 = .ok (.irem, 1) := by decide +kernel
theorem dX9_digest_58 : decode cX9_digest 58 = .ok (.invokevirtual 157, 3) := by decide +kernel
theorem dX9_digest_61 : decode cX9_digest 61 = .ok (.i2l, 1) := by decide +kernel
theorem dX9_digest_62 : decode cX9_digest 62 = .ok (.ladd, 1) := by decide +kernel
theorem dX9_digest_63 : decode cX9_digest 63 = .ok (.lstore_n 1, 1) := by decide +kernel
theorem dX9_digest_64 : decode cX9_digest 64 = .ok (.iinc 3 1, 3) := by decide +kernel
theorem dX9_digest_67 : decode cX9_digest 67 = .ok (.goto (-34), 3) := by decide +kernel
theorem dX9_digest_70 : decode cX9_digest 70 = .ok (.iconst 1, 1) := by decide +kernel
theorem dX9_digest_71 : decode cX9_digest 71 = .ok (.istore_n 3, 1) := by decide +kernel
theorem dX9_digest_72 : decode cX9_digest 72 = .ok (.iload_n 3, 1) := by decide +kernel
theorem dX9_digest_73 : decode cX9_digest 73 = .ok (.bipush 6, 2) := by decide +kernel
theorem dX9_digest_75 : decode cX9_digest 75 = .ok (.if_icmp .gt 22, 3) := by decide +kernel
theorem dX9_digest_78 : decode cX9_digest 78 = .ok (.ldc2_w 355, 3) := by decide +kernel
theorem dX9_digest_81 : decode cX9_digest 81 = .ok (.lload_n 1, 1) := by decide +kernel
theorem dX9_digest_82 : decode cX9_digest 82 = .ok (.lmul, 1) := by decide +kernel
theorem dX9_digest_83 : decode cX9_digest 83 = .ok (.aload_n 0, 1) := by decide +kernel
theorem dX9_digest_84 : decode cX9_digest 84 = .ok (.iload_n 3, 1) := by decide +kernel
theorem dX9_digest_85 : decode cX9_digest 85 = .ok (.invokevirtual 165, 3) := by decide +kernel
theorem dX9_digest_88 : decode cX9_digest 88 = .ok (.i2l, 1) := by decide +kernel
theorem dX9_digest_89 : decode cX9_digest 89 = .ok (.ladd, 1) := by decide +kernel
theorem dX9_digest_90 : decode cX9_digest 90 = .ok (.lstore_n 1, 1) := by decide +kernel
theorem dX9_digest_91 : decode cX9_digest 91 = .ok (.iinc 3 1, 3) := by decide +kernel
theorem dX9_digest_94 : decode cX9_digest 94 = .ok (.goto (-22), 3) := by decide +kernel
theorem dX9_digest_97 : decode cX9_digest 97 = .ok (.ldc2_w 355, 3) := by decide +kernel
theorem dX9_digest_100 : decode cX9_digest 100 = .ok (.ldc2_w 355, 3) := by decide +kernel
theorem dX9_digest_103 : decode cX9_digest 103 = .ok (.ldc2_w 355, 3) := by decide +kernel
theorem dX9_digest_106 : decode cX9_digest 106 = .ok (.lload_n 1, 1) := by decide +kernel
theorem dX9_digest_107 : decode cX9_digest 107 = .ok (.lmul, 1) := by decide +kernel
theorem dX9_digest_108 : decode cX9_digest 108 = .ok (.aload_n 0, 1) := by decide +kernel
theorem dX9_digest_109 : decode cX9_digest 109 = .ok (.iconst 0, 1) := by decide +kernel
theorem dX9_digest_110 : decode cX9_digest 110 = .ok (.invokevirtual 253, 3) := by decide +kernel
theorem dX9_digest_113 : decode cX9_digest 113 = .ok (.i2l, 1) := by decide +kernel
theorem dX9_digest_114 : decode cX9_digest 114 = .ok (.ladd, 1) := by decide +kernel
theorem dX9_digest_115 : decode cX9_digest 115 = .ok (.lmul, 1) := by decide +kernel
theorem dX9_digest_116 : decode cX9_digest 116 = .ok (.aload_n 0, 1) := by decide +kernel
theorem dX9_digest_117 : decode cX9_digest 117 = .ok (.iconst 1, 1) := by decide +kernel
theorem dX9_digest_118 : decode cX9_digest 118 = .ok (.invokevirtual 253, 3) := by decide +kernel
theorem dX9_digest_121 : decode cX9_digest 121 = .ok (.i2l, 1) := by decide +kernel
theorem dX9_digest_122 : decode cX9_digest 122 = .ok (.ladd, 1) := by decide +kernel
theorem dX9_digest_123 : decode cX9_digest 123 = .ok (.lmul, 1) := by decide +kernel
theorem dX9_digest_124 : decode cX9_digest 124 = .ok (.aload_n 0, 1) := by decide +kernel
theorem dX9_digest_125 : decode cX9_digest 125 = .ok (.iconst 4, 1) := by decide +kernel
theorem dX9_digest_126 : decode cX9_digest 126 = .ok (.invokevirtual 253, 3) := by decide +kernel
theorem dX9_digest_129 : decode cX9_digest 129 = .ok (.i2l, 1) := by decide +kernel
theorem dX9_digest_130 : decode cX9_digest 130 = .ok (.ladd, 1) := by decide +kernel
theorem dX9_digest_131 : decode cX9_digest 131 = .ok (.lstore_n 1, 1) := by decide +kernel
theorem dX9_digest_132 : decode cX9_digest 132 = .ok (.iconst 0, 1) := by decide +kernel
theorem dX9_digest_133 : decode cX9_digest 133 = .ok (.istore_n 3, 1) := by decide +kernel
theorem dX9_digest_134 : decode cX9_digest 134 = .ok (.iload_n 3, 1) := by decide +kernel
theorem dX9_digest_135 : decode cX9_digest 135 = .ok (.iconst 3, 1) := by decide +kernel
theorem dX9_digest_136 : decode cX9_digest 136 = .ok (.if_icmp .ge 21, 3) := by decide +kernel
theorem dX9_digest_139 : decode cX9_digest 139 = .ok (.ldc2_w 355, 3) := by decide +kernel
theorem dX9_digest_142 : decode cX9_digest 142 = .ok (.lload_n 1, 1) := by decide +kernel
theorem dX9_digest_143 : decode cX9_digest 143 = .ok (.lmul, 1) := by decide +kernel
theorem dX9_digest_144 : decode cX9_digest 144 = .ok (.aload_n 0, 1) := by decide +kernel
theorem dX9_digest_145 : decode cX9_digest 145 = .ok (.iload_n 3, 1) := by decide +kernel
theorem dX9_digest_146 : decode cX9_digest 146 = .ok (.invokevirtual 274, 3) := by decide +kernel
theorem dX9_digest_149 : decode cX9_digest 149 = .ok (.ladd, 1) := by decide +kernel
theorem dX9_digest_150 : decode cX9_digest 150 = .ok (.lstore_n 1, 1) := by decide +kernel
theorem dX9_digest_151 : decode cX9_digest 151 = .ok (.iinc 3 1, 3) := by decide +kernel
theorem dX9_digest_154 : decode cX9_digest 154 = .ok (.goto (-20), 3) := by decide +kernel
theorem dX9_digest_157 : decode cX9_digest 157 = .ok (.ldc2_w 355, 3) := by decide +kernel
theorem dX9_digest_160 : decode cX9_digest 160 = .ok (.lload_n 1, 1) := by decide +kernel
theorem dX9_digest_161 : decode cX9_digest 161 = .ok (.lmul, 1) := by decide +kernel
theorem dX9_digest_162 : decode cX9_digest 162 = .ok (.aload_n 0, 1) := by decide +kernel
theorem dX9_digest_163 : decode cX9_digest 163 = .ok (.invokevirtual 212, 3) := by decide +kernel
theorem dX9_digest_166 : decode cX9_digest 166 = .ok (.i2l, 1) := by decide +kernel
theorem dX9_digest_167 : decode cX9_digest 167 = .ok (.ladd, 1) := by decide +kernel
theorem dX9_digest_168 : decode cX9_digest 168 = .ok (.lreturn, 1) := by decide +kernel
theorem dJxe99ae_isNaN_b9ae7_0 : decode cJxe99ae_isNaN_b9ae7 0 = .ok (.dload_n 0, 1) := by decide +kernel
theorem dJxe99ae_isNaN_b9ae7_1 : decode cJxe99ae_isNaN_b9ae7 1 = .ok (.dload_n 0, 1) := by decide +kernel
theorem dJxe99ae_isNaN_b9ae7_2 : decode cJxe99ae_isNaN_b9ae7 2 = .ok (.dcmp .l, 1) := by decide +kernel
theorem dJxe99ae_isNaN_b9ae7_3 : decode cJxe99ae_isNaN_b9ae7 3 = .ok (.ifCond .eq 7, 3) := by decide +kernel
theorem dJxe99ae_isNaN_b9ae7_6 : decode cJxe99ae_isNaN_b9ae7 6 = .ok (.iconst 1, 1) := by decide +kernel
theorem dJxe99ae_isNaN_b9ae7_7 : decode cJxe99ae_isNaN_b9ae7 7 = .ok (.goto 4, 3) := by decide +kernel
theorem dJxe99ae_isNaN_b9ae7_10 : decode cJxe99ae_isNaN_b9ae7 10 = .ok (.iconst 0, 1) := by decide +kernel
theorem dJxe99ae_isNaN_b9ae7_11 : decode cJxe99ae_isNaN_b9ae7 11 = .ok (.ireturn, 1) := by decide +kernel
theorem dJxe99ae_doubleToLongBits_ccdee_0 : decode cJxe99ae_doubleToLongBits_ccdee 0 = .ok (.dload_n 0, 1) := by decide +kernel
theorem dJxe99ae_doubleToLongBits_ccdee_1 : decode cJxe99ae_doubleToLongBits_ccdee 1 = .ok (.invokestatic 122, 3) := by decide +kernel
theorem dJxe99ae_doubleToLongBits_ccdee_4 : decode cJxe99ae_doubleToLongBits_ccdee 4 = .ok (.ifCond .ne 8, 3) := by decide +kernel
theorem dJxe99ae_doubleToLongBits_ccdee_7 : decode cJxe99ae_doubleToLongBits_ccdee 7 = .ok (.dload_n 0, 1) := by decide +kernel
theorem dJxe99ae_doubleToLongBits_ccdee_8 : decode cJxe99ae_doubleToLongBits_ccdee 8 = .ok (.invokestatic 134, 3) := by decide +kernel
theorem dJxe99ae_doubleToLongBits_ccdee_11 : decode cJxe99ae_doubleToLongBits_ccdee 11 = .ok (.lreturn, 1) := by decide +kernel
theorem dJxe99ae_doubleToLongBits_ccdee_12 : decode cJxe99ae_doubleToLongBits_ccdee 12 = .ok (.ldc2_w 137, 3) := by decide +kernel
theorem dJxe99ae_doubleToLongBits_ccdee_15 : decode cJxe99ae_doubleToLongBits_ccdee 15 = .ok (.lreturn, 1) := by decide +kernel
theorem dJxf58ca_isNaN_12338_0 : decode cJxf58ca_isNaN_12338 0 = .ok (.fload_n 0, 1) := by decide +kernel
theorem dJxf58ca_isNaN_12338_1 : decode cJxf58ca_isNaN_12338 1 = .ok (.fload_n 0, 1) := by decide +kernel
theorem dJxf58ca_isNaN_12338_2 : decode cJxf58ca_isNaN_12338 2 = .ok (.fcmp .l, 1) := by decide +kernel
theorem dJxf58ca_isNaN_12338_3 : decode cJxf58ca_isNaN_12338 3 = .ok (.ifCond .eq 7, 3) := by decide +kernel
theorem dJxf58ca_isNaN_12338_6 : decode cJxf58ca_isNaN_12338 6 = .ok (.iconst 1, 1) := by decide +kernel
theorem dJxf58ca_isNaN_12338_7 : decode cJxf58ca_isNaN_12338 7 = .ok (.goto 4, 3) := by decide +kernel
theorem dJxf58ca_isNaN_12338_10 : decode cJxf58ca_isNaN_12338 10 = .ok (.iconst 0, 1) := by decide +kernel
theorem dJxf58ca_isNaN_12338_11 : decode cJxf58ca_isNaN_12338 11 = .ok (.ireturn, 1) := by decide +kernel
theorem dJxf58ca_floatToIntBits_5c35a_0 : decode cJxf58ca_floatToIntBits_5c35a 0 = .ok (.fload_n 0, 1) := by decide +kernel
theorem dJxf58ca_floatToIntBits_5c35a_1 : decode cJxf58ca_floatToIntBits_5c35a 1 = .ok (.invokestatic 59, 3) := by decide +kernel
theorem dJxf58ca_floatToIntBits_5c35a_4 : decode cJxf58ca_floatToIntBits_5c35a 4 = .ok (.ifCond .ne 8, 3) := by decide +kernel
theorem dJxf58ca_floatToIntBits_5c35a_7 : decode cJxf58ca_floatToIntBits_5c35a 7 = .ok (.fload_n 0, 1) := by decide +kernel
theorem dJxf58ca_floatToIntBits_5c35a_8 : decode cJxf58ca_floatToIntBits_5c35a 8 = .ok (.invokestatic 74, 3) := by decide +kernel
theorem dJxf58ca_floatToIntBits_5c35a_11 : decode cJxf58ca_floatToIntBits_5c35a 11 = .ok (.ireturn, 1) := by decide +kernel
theorem dJxf58ca_floatToIntBits_5c35a_12 : decode cJxf58ca_floatToIntBits_5c35a 12 = .ok (.ldc 77, 2) := by decide +kernel
theorem dJxf58ca_floatToIntBits_5c35a_14 : decode cJxf58ca_floatToIntBits_5c35a 14 = .ok (.ireturn, 1) := by decide +kernel
theorem dJ6_bitCount_0f7a4_0 : decode cJ6_bitCount_0f7a4 0 = .ok (.iload_n 0, 1) := by decide +kernel
theorem dJ6_bitCount_0f7a4_1 : decode cJ6_bitCount_0f7a4 1 = .ok (.iload_n 0, 1) := by decide +kernel
theorem dJ6_bitCount_0f7a4_2 : decode cJ6_bitCount_0f7a4 2 = .ok (.iconst 1, 1) := by decide +kernel
theorem dJ6_bitCount_0f7a4_3 : decode cJ6_bitCount_0f7a4 3 = .ok (.iushr, 1) := by decide +kernel
theorem dJ6_bitCount_0f7a4_4 : decode cJ6_bitCount_0f7a4 4 = .ok (.ldc_w 265, 3) := by decide +kernel
theorem dJ6_bitCount_0f7a4_7 : decode cJ6_bitCount_0f7a4 7 = .ok (.iand, 1) := by decide +kernel
theorem dJ6_bitCount_0f7a4_8 : decode cJ6_bitCount_0f7a4 8 = .ok (.isub, 1) := by decide +kernel
theorem dJ6_bitCount_0f7a4_9 : decode cJ6_bitCount_0f7a4 9 = .ok (.istore_n 0, 1) := by decide +kernel
theorem dJ6_bitCount_0f7a4_10 : decode cJ6_bitCount_0f7a4 10 = .ok (.iload_n 0, 1) := by decide +kernel
theorem dJ6_bitCount_0f7a4_11 : decode cJ6_bitCount_0f7a4 11 = .ok (.ldc_w 266, 3) := by decide +kernel
theorem dJ6_bitCount_0f7a4_14 : decode cJ6_bitCount_0f7a4 14 = .ok (.iand, 1) := by decide +kernel
theorem dJ6_bitCount_0f7a4_15 : decode cJ6_bitCount_0f7a4 15 = .ok (.iload_n 0, 1) := by decide +kernel
theorem dJ6_bitCount_0f7a4_16 : decode cJ6_bitCount_0f7a4 16 = .ok (.iconst 2, 1) := by decide +kernel
theorem dJ6_bitCount_0f7a4_17 : decode cJ6_bitCount_0f7a4 17 = .ok (.iushr, 1) := by decide +kernel
theorem dJ6_bitCount_0f7a4_18 : decode cJ6_bitCount_0f7a4 18 = .ok (.ldc_w 266, 3) := by decide +kernel
theorem dJ6_bitCount_0f7a4_21 : decode cJ6_bitCount_0f7a4 21 = .ok (.iand, 1) := by decide +kernel
theorem dJ6_bitCount_0f7a4_22 : decode cJ6_bitCount_0f7a4 22 = .ok (.iadd, 1) := by decide +kernel
theorem dJ6_bitCount_0f7a4_23 : decode cJ6_bitCount_0f7a4 23 = .ok (.istore_n 0, 1) := by decide +kernel
theorem dJ6_bitCount_0f7a4_24 : decode cJ6_bitCount_0f7a4 24 = .ok (.iload_n 0, 1) := by decide +kernel
theorem dJ6_bitCount_0f7a4_25 : decode cJ6_bitCount_0f7a4 25 = .ok (.iload_n 0, 1) := by decide +kernel
theorem dJ6_bitCount_0f7a4_26 : decode cJ6_bitCount_0f7a4 26 = .ok (.iconst 4, 1) := by decide +kernel
theorem dJ6_bitCount_0f7a4_27 : decode cJ6_bitCount_0f7a4 27 = .ok (.iushr, 1) := by decide +kernel
theorem dJ6_bitCount_0f7a4_28 : decode cJ6_bitCount_0f7a4 28 = .ok (.iadd, 1) := by decide +kernel
theorem dJ6_bitCount_0f7a4_29 : decode cJ6_bitCount_0f7a4 29 = .ok (.ldc_w 267, 3) := by decide +kernel
theorem dJ6_bitCount_0f7a4_32 : decode cJ6_bitCount_0f7a4 32 = .ok (.iand, 1) := by decide +kernel
theorem dJ6_bitCount_0f7a4_33 : decode cJ6_bitCount_0f7a4 33 = .ok (.istore_n 0, 1) := by decide +kernel
theorem dJ6_bitCount_0f7a4_34 : decode cJ6_bitCount_0f7a4 34 = .ok (.iload_n 0, 1) := by decide +kernel
theorem dJ6_bitCount_0f7a4_35 : decode cJ6_bitCount_0f7a4 35 = .ok (.iload_n 0, 1) := by decide +kernel
theorem dJ6_bitCount_0f7a4_36 : decode cJ6_bitCount_0f7a4 36 = .ok (.bipush 8, 2) := by decide +kernel
theorem dJ6_bitCount_0f7a4_38 : decode cJ6_bitCount_0f7a4 38 = .ok (.iushr, 1) := by decide +kernel
theorem dJ6_bitCount_0f7a4_39 : decode cJ6_bitCount_0f7a4 39 = .ok (.iadd, 1) := by decide +kernel
theorem dJ6_bitCount_0f7a4_40 : decode cJ6_bitCount_0f7a4 40 = .ok (.istore_n 0, 1) := by decide +kernel
theorem dJ6_bitCount_0f7a4_41 : decode cJ6_bitCount_0f7a4 41 = .ok (.iload_n 0, 1) := by decide +kernel
theorem dJ6_bitCount_0f7a4_42 : decode cJ6_bitCount_0f7a4 42 = .ok (.iload_n 0, 1) := by decide +kernel
theorem dJ6_bitCount_0f7a4_43 : decode cJ6_bitCount_0f7a4 43 = .ok (.bipush 16, 2) := by decide +kernel
theorem dJ6_bitCount_0f7a4_45 : decode cJ6_bitCount_0f7a4 45 = .ok (.iushr, 1) := by decide +kernel
theorem dJ6_bitCount_0f7a4_46 : decode cJ6_bitCount_0f7a4 46 = .ok (.iadd, 1) := by decide +kernel
theorem dJ6_bitCount_0f7a4_47 : decode cJ6_bitCount_0f7a4 47 = .ok (.istore_n 0, 1) := by decide +kernel
theorem dJ6_bitCount_0f7a4_48 : decode cJ6_bitCount_0f7a4 48 = .ok (.iload_n 0, 1) := by decide +kernel
theorem dJ6_bitCount_0f7a4_49 : decode cJ6_bitCount_0f7a4 49 = .ok (.bipush 63, 2) := by decide +kernel
theorem dJ6_bitCount_0f7a4_51 : decode cJ6_bitCount_0f7a4 51 = .ok (.iand, 1) := by decide +kernel
theorem dJ6_bitCount_0f7a4_52 : decode cJ6_bitCount_0f7a4 52 = .ok (.ireturn, 1) := by decide +kernel
theorem dJ9_max_7cf53_0 : decode cJ9_max_7cf53 0 = .ok (.iload_n 0, 1) := by decide +kernel
theorem dJ9_max_7cf53_1 : decode cJ9_max_7cf53 1 = .ok (.iload_n 1, 1) := by decide +kernel
theorem dJ9_max_7cf53_2 : decode cJ9_max_7cf53 2 = .ok (.if_icmp .lt 7, 3) := by decide +kernel
theorem dJ9_max_7cf53_5 : decode cJ9_max_7cf53 5 = .ok (.iload_n 0, 1) := by decide +kernel
theorem dJ9_max_7cf53_6 : decode cJ9_max_7cf53 6 = .ok (.goto 4, 3) := by decide +kernel
theorem dJ9_max_7cf53_9 : decode cJ9_max_7cf53 9 = .ok (.iload_n 1, 1) := by decide +kernel
theorem dJ9_max_7cf53_10 : decode cJ9_max_7cf53 10 = .ok (.ireturn, 1) := by decide +kernel
theorem dJ9_min_7cf53_0 : decode cJ9_min_7cf53 0 = .ok (.iload_n 0, 1) := by decide +kernel
theorem dJ9_min_7cf53_1 : decode cJ9_min_7cf53 1 = .ok (.iload_n 1, 1) := by decide +kernel
theorem dJ9_min_7cf53_2 : decode cJ9_min_7cf53 2 = .ok (.if_icmp .gt 7, 3) := by decide +kernel
theorem dJ9_min_7cf53_5 : decode cJ9_min_7cf53 5 = .ok (.iload_n 0, 1) := by decide +kernel
theorem dJ9_min_7cf53_6 : decode cJ9_min_7cf53 6 = .ok (.goto 4, 3) := by decide +kernel
theorem dJ9_min_7cf53_9 : decode cJ9_min_7cf53 9 = .ok (.iload_n 1, 1) := by decide +kernel
theorem dJ9_min_7cf53_10 : decode cJ9_min_7cf53 10 = .ok (.ireturn, 1) := by decide +kernel
theorem dJ7_fill_53178_0 : decode cJ7_fill_53178 0 = .ok (.iconst 0, 1) := by decide +kernel
theorem dJ7_fill_53178_1 : decode cJ7_fill_53178 1 = .ok (.istore_n 2, 1) := by decide +kernel
theorem dJ7_fill_53178_2 : decode cJ7_fill_53178 2 = .ok (.aload_n 0, 1) := by decide +kernel
theorem dJ7_fill_53178_3 : decode cJ7_fill_53178 3 = .ok (.arraylength, 1) := by decide +kernel
theorem dJ7_fill_53178_4 : decode cJ7_fill_53178 4 = .ok (.istore_n 3, 1) := by decide +kernel
theorem dJ7_fill_53178_5 : decode cJ7_fill_53178 5 = .ok (.iload_n 2, 1) := by decide +kernel
theorem dJ7_fill_53178_6 : decode cJ7_fill_53178 6 = .ok (.iload_n 3, 1) := by decide +kernel
theorem dJ7_fill_53178_7 : decode cJ7_fill_53178 7 = .ok (.if_icmp .ge 13, 3) := by decide +kernel
theorem dJ7_fill_53178_10 : decode cJ7_fill_53178 10 = .ok (.aload_n 0, 1) := by decide +kernel
theorem dJ7_fill_53178_11 : decode cJ7_fill_53178 11 = .ok (.iload_n 2, 1) := by decide +kernel
theorem dJ7_fill_53178_12 : decode cJ7_fill_53178 12 = .ok (.iload_n 1, 1) := by decide +kernel
theorem dJ7_fill_53178_13 : decode cJ7_fill_53178 13 = .ok (.iastore, 1) := by decide +kernel
theorem dJ7_fill_53178_14 : decode cJ7_fill_53178 14 = .ok (.iinc 2 1, 3) := by decide +kernel
theorem dJ7_fill_53178_17 : decode cJ7_fill_53178 17 = .ok (.goto (-12), 3) := by decide +kernel
theorem dJ7_fill_53178_20 : decode cJ7_fill_53178 20 = .ok (.return_, 1) := by decide +kernel
theorem dL_law_0 : decode cL_law 0 = .ok (.new 7, 3) := by decide +kernel
theorem dL_law_3 : decode cL_law 3 = .ok (.dup, 1) := by decide +kernel
theorem dL_law_4 : decode cL_law 4 = .ok (.invokespecial 9, 3) := by decide +kernel
theorem dL_law_7 : decode cL_law 7 = .ok (.astore_n 1, 1) := by decide +kernel
theorem dL_law_8 : decode cL_law 8 = .ok (.new 10, 3) := by decide +kernel
theorem dL_law_11 : decode cL_law 11 = .ok (.dup, 1) := by decide +kernel
theorem dL_law_12 : decode cL_law 12 = .ok (.invokespecial 12, 3) := by decide +kernel
theorem dL_law_15 : decode cL_law 15 = .ok (.astore_n 2, 1) := by decide +kernel
theorem dL_law_16 : decode cL_law 16 = .ok (.iconst 0, 1) := by decide +kernel
theorem dL_law_17 : decode cL_law 17 = .ok (.istore_n 3, 1) := by decide +kernel
theorem dL_law_18 : decode cL_law 18 = .ok (.iload_n 3, 1) := by decide +kernel
theorem dL_law_19 : decode cL_law 19 = .ok (.aload_n 0, 1) := by decide +kernel
theorem dL_law_20 : decode cL_law 20 = .ok (.arraylength, 1) := by decide +kernel
theorem dL_law_21 : decode cL_law 21 = .ok (.iconst 5, 1) := by decide +kernel
theorem dL_law_22 : decode cL_law 22 = .ok (.isub, 1) := by decide +kernel
theorem dL_law_23 : decode cL_law 23 = .ok (.if_icmp .gt 943, 3) := by decide +kernel
theorem dL_law_26 : decode cL_law 26 = .ok (.aload_n 0, 1) := by decide +kernel
theorem dL_law_27 : decode cL_law 27 = .ok (.iload_n 3, 1) := by decide +kernel
theorem dL_law_28 : decode cL_law 28 = .ok (.iaload, 1) := by decide +kernel
theorem dL_law_29 : decode cL_law 29 = .ok (.bipush 31, 2) := by decide +kernel
theorem dL_law_31 : decode cL_law 31 = .ok (.iand, 1) := by decide +kernel
theorem dL_law_32 : decode cL_law 32 = .ok (.tableswitch 928 0 29 #[136, 169, 202, 255, 278, 321, 354, 377, 400, 443, 466, 499, 542, 575, 588, 601, 614, 647, 670, 694, 717, 750, 773, 796, 829, 852, 865, 878, 891, 914], 136) := by decide +kernel
theorem dL_law_168 : decode cL_law 168 = .ok (.aload_n 1, 1) := by decide +kernel
theorem dL_law_169 : decode cL_law 169 = .ok (.aload_n 0, 1) := by decide +kernel
theorem dL_law_170 : decode cL_law 170 = .ok (.iload_n 3, 1) := by decide +kernel
theorem dL_law_171 : decode cL_law 171 = .ok (.iconst 1, 1) := by decide +kernel
theorem dL_law_172 : decode cL_law 172 = .ok (.iadd, 1) := by decide +kernel
theorem dL_law_173 : decode cL_law 173 = .ok (.iaload, 1) := by decide +kernel
theorem dL_law_174 : decode cL_law 174 = .ok (.aload_n 0, 1) := by decide +kernel
theorem dL_law_175 : decode cL_law 175 = .ok (.iload_n 3, 1) := by decide +kernel
theorem dL_law_176 : decode cL_law 176 = .ok (.iconst 2, 1) := by decide +kernel
theorem dL_law_177 : decode cL_law 177 = .ok (.iadd, 1) := by decide +kernel
theorem dL_law_178 : decode cL_law 178 = .ok (.iaload, 1) := by decide +kernel
theorem dL_law_179 : decode cL_law 179 = .ok (.invokevirtual 13, 3) := by decide +kernel
theorem dL_law_182 : decode cL_law 182 = .ok (.aload_n 2, 1) := by decide +kernel
theorem dL_law_183 : decode cL_law 183 = .ok (.aload_n 0, 1) := by decide +kernel
theorem dL_law_184 : decode cL_law 184 = .ok (.iload_n 3, 1) := by decide +kernel
theorem dL_law_185 : decode cL_law 185 = .ok (.iconst 1, 1) := by decide +kernel
theorem dL_law_186 : decode cL_law 186 = .ok (.iadd, 1) := by decide +kernel
theorem dL_law_187 : decode cL_law 187 = .ok (.iaload, 1) := by decide +kernel
theorem dL_law_188 : decode cL_law 188 = .ok (.aload_n 0, 1) := by decide +kernel
theorem dL_law_189 : decode cL_law 189 = .ok (.iload_n 3, 1) := by decide +kernel
theorem dL_law_190 : decode cL_law 190 = .ok (.iconst 2, 1) := by decide +kernel
theorem dL_law_191 : decode cL_law 191 = .ok (.iadd, 1) := by decide +kernel
theorem dL_law_192 : decode cL_law 192 = .ok (.iaload, 1) := by decide +kernel
theorem dL_law_193 : decode cL_law 193 = .ok (.invokevirtual 17, 3) := by decide +kernel
theorem dL_law_196 : decode cL_law 196 = .ok (.if_icmp .eq 764, 3) := by decide +kernel
theorem dL_law_199 : decode cL_law 199 = .ok (.iconst 0, 1) := by decide +kernel
theorem dL_law_200 : decode cL_law 200 = .ok (.ireturn, 1) := by decide +kernel
theorem dL_law_201 : decode cL_law 201 = .ok (.aload_n 1, 1) := by decide +kernel
theorem dL_law_202 : decode cL_law 202 = .ok (.aload_n 0, 1) := by decide +kernel
theorem dL_law_203 : decode cL_law 203 = .ok (.iload_n 3, 1) := by decide +kernel
theorem dL_law_204 : decode cL_law 204 = .ok (.iconst 1, 1) := by decide +kernel
theorem dL_law_205 : decode cL_law 205 = .ok (.iadd, 1) := by decide +kernel
theorem dL_law_206 : decode cL_law 206 = .ok (.iaload, 1) := by decide +kernel
theorem dL_law_207 : decode cL_law 207 = .ok (.aload_n 0, 1) := by decide +kernel
theorem dL_law_208 : decode cL_law 208 = .ok (.iload_n 3, 1) := by decide +kernel
theorem dL_law_209 : decode cL_law 209 = .ok (.iconst 2, 1) := by decide +kernel
theorem dL_law_210 : decode cL_law 210 = .ok (.iadd, 1) := by decide +kernel
theorem dL_law_211 : decode cL_law 211 = .ok (.iaload, 1) := by decide +kernel
theorem dL_law_212 : decode cL_law 212 = .ok (.invokevirtual 18, 3) := by decide +kernel
theorem dL_law_215 : decode cL_law 215 = .ok (.aload_n 2, 1) := by decide +kernel
theorem dL_law_216 : decode cL_law 216 = .ok (.aload_n 0, 1) := by decide +kernel
theorem dL_law_217 : decode cL_law 217 = .ok (.iload_n 3, 1) := by decide +kernel
theorem dL_law_218 : decode cL_law 218 = .ok (.iconst 1, 1) := by decide +kernel
theorem dL_law_219 : decode cL_law 219 = .ok (.iadd, 1) := by decide +kernel
theorem dL_law_220 : decode cL_law 220 = .ok (.iaload, 1) := by decide +kernel
theorem dL_law_221 : decode cL_law 221 = .ok (.aload_n 0, 1) := by decide +kernel
theorem dL_law_222 : decode cL_law 222 = .ok (.iload_n 3, 1) := by decide +kernel
theorem dL_law_223 : decode cL_law 223 = .ok (.iconst 2, 1) := by decide +kernel
theorem dL_law_224 : decode cL_law 224 = .ok (.iadd, 1) := by decide +kernel
theorem dL_law_225 : decode cL_law 225 = .ok (.iaload, 1) := by decide +kernel
theorem dL_law_226 : decode cL_law 226 = .ok (.invokevirtual 21, 3) := by decide +kernel
theorem dL_law_229 : decode cL_law 229 = .ok (.if_icmp .eq 731, 3) := by decide +kernel
theorem dL_law_232 : decode cL_law 232 = .ok (.iconst 0, 1) := by decide +kernel
theorem dL_law_233 : decode cL_law 233 = .ok (.ireturn, 1) := by decide +kernel
theorem dL_law_234 : decode cL_law 234 = .ok (.aload_n 1, 1) := by decide +kernel
theorem dL_law_235 : decode cL_law 235 = .ok (.aload_n 0, 1) := by decide +kernel
theorem dL_law_236 : decode cL_law 236 = .ok (.iload_n 3, 1) := by decide +kernel
theorem dL_law_237 : decode cL_law 237 = .ok (.iconst 1, 1) := by decide +kernel
theorem dL_law_238 : decode cL_law 238 = .ok (.iadd, 1) := by decide +kernel
theorem dL_law_239 : decode cL_law 239 = .ok (.iaload, 1) := by decide +kernel
theorem dL_law_240 : decode cL_law 240 = .ok (.aload_n 0, 1) := by decide +kernel
theorem dL_law_241 : decode cL_law 241 = .ok (.iload_n 3, 1) := by decide +kernel
theorem dL_law_242 : decode cL_law 242 = .ok (.iconst 2, 1) := by decide +kernel
theorem dL_law_243 : decode cL_law 243 = .ok (.iadd, 1) := by decide +kernel
theorem dL_law_244 : decode cL_law 244 = .ok (.iaload, 1) := by decide +kernel
theorem dL_law_245 : decode cL_law 245 = .ok (.aload_n 0, 1) := by decide +kernel
theorem dL_law_246 : decode cL_law 246 = .ok (.iload_n 3, 1) := by decide +kernel
theorem dL_law_247 : decode cL_law 247 = .ok (.iconst 3, 1) := by decide +kernel
theorem dL_law_248 : decode cL_law 248 = .ok (.iadd, 1) := by decide +kernel
theorem dL_law_249 : decode cL_law 249 = .ok (.iaload, 1) := by decide +kernel
theorem dL_law_250 : decode cL_law 250 = .ok (.aload_n 0, 1) := by decide +kernel
theorem dL_law_251 : decode cL_law 251 = .ok (.iload_n 3, 1) := by decide +kernel
theorem dL_law_252 : decode cL_law 252 = .ok (.iconst 4, 1) := by decide +kernel
theorem dL_law_253 : decode cL_law 253 = .ok (.iadd, 1) := by decide +kernel
theorem dL_law_254 : decode cL_law 254 = .ok (.iaload, 1) := by decide +kernel
theorem dL_law_255 : decode cL_law 255 = .ok (.invokevirtual 22, 3) := by decide +kernel
theorem dL_law_258 : decode cL_law 258 = .ok (.aload_n 2, 1) := by decide +kernel
theorem dL_law_259 : decode cL_law 259 = .ok (.aload_n 0, 1) := by decide +kernel
theorem dL_law_260 : decode cL_law 260 = .ok (.iload_n 3, 1) := by decide +kernel
theorem dL_law_261 : decode cL_law 261 = .ok (.iconst 1, 1) := by decide +kernel
theorem dL_law_262 : decode cL_law 262 = .ok (.iadd, 1) := by decide +kernel
theorem dL_law_263 : decode cL_law 263 = .ok (.iaload, 1) := by decide +kernel
theorem dL_law_264 : decode cL_law 264 = .ok (.aload_n 0, 1) := by decide +kernel
theorem dL_law_265 : decode cL_law 265 = .ok (.iload_n 3, 1) := by decide +kernel
theorem dL_law_266 : decode cL_law 266 = .ok (.iconst 2, 1) := by decide +kernel
theorem dL_law_267 : decode cL_law 267 = .ok (.iadd, 1) := by decide +kernel
theorem dL_law_268 : decode cL_law 268 = .ok (.iaload, 1) := by decide +kernel
theorem dL_law_269 : decode cL_law 269 = .ok (.aload_n 0, 1) := by decide +kernel
theorem dL_law_270 : decode cL_law 270 = .ok (.iload_n 3, 1) := by decide +kernel
theorem dL_law_271 : decode cL_law 271 = .ok (.iconst 3, 1) := by decide +kernel
theorem dL_law_272 : decode cL_law 272 = .ok (.iadd, 1) := by decide +kernel
theorem dL_law_273 : decode cL_law 273 = .ok (.iaload, 1) := by decide +kernel
theorem dL_law_274 : decode cL_law 274 = .ok (.aload_n 0, 1) := by decide +kernel
theorem dL_law_275 : decode cL_law 275 = .ok (.iload_n 3, 1) := by decide +kernel
theorem dL_law_276 : decode cL_law 276 = .ok (.iconst 4, 1) := by decide +kernel
theorem dL_law_277 : decode cL_law 277 = .ok (.iadd, 1) := by decide +kernel
theorem dL_law_278 : decode cL_law 278 = .ok (.iaload, 1) := by decide +kernel
theorem dL_law_279 : decode cL_law 279 = .ok (.invokevirtual 26, 3) := by decide +kernel
theorem dL_law_282 : decode cL_law 282 = .ok (.if_icmp .eq 678, 3) := by decide +kernel
theorem dL_law_285 : decode cL_law 285 = .ok (.iconst 0, 1) := by decide +kernel
theorem dL_law_286 : decode cL_law 286 = .ok (.ireturn, 1) := by decide +kernel
theorem dL_law_287 : decode cL_law 287 = .ok (.aload_n 1, 1) := by decide +kernel
theorem dL_law_288 : decode cL_law 288 = .ok (.aload_n 0, 1) := by decide +kernel
theorem dL_law_289 : decode cL_law 289 = .ok (.iload_n 3, 1) := by decide +kernel
theorem dL_law_290 : decode cL_law 290 = .ok (.iconst 1, 1) := by decide +kernel
theorem dL_law_291 : decode cL_law 291 = .ok (.iadd, 1) := by decide +kernel
theorem dL_law_292 : decode cL_law 292 = .ok (.iaload, 1) := by decide +kernel
theorem dL_law_293 : decode cL_law 293 = .ok (.invokevirtual 27, 3) := by decide +kernel
theorem dL_law_296 : decode cL_law 296 = .ok (.aload_n 2, 1) := by decide +kernel
theorem dL_law_297 : decode cL_law 297 = .ok (.aload_n 0, 1) := by decide +kernel
theorem dL_law_298 : decode cL_law 298 = .ok (.iload_n 3, 1) := by decide +kernel
theorem dL_law_299 : decode cL_law 299 = .ok (.iconst 1, 1) := by decide +kernel
theorem dL_law_300 : decode cL_law 300 = .ok (.iadd, 1) := by decide +kernel
theorem dL_law_301 : decode cL_law 301 = .ok (.iaload, 1) := by decide +kernel
theorem dL_law_302 : decode cL_law 302 = .ok (.invokevirtual 31, 3) := by decide +kernel
theorem dL_law_305 : decode cL_law 305 = .ok (.if_icmp .eq 655, 3) := by decide +kernel
theorem dL_law_308 : decode cL_law 308 = .ok (.iconst 0, 1) := by decide +kernel
theorem dL_law_309 : decode cL_law 309 = .ok (.ireturn, 1) := by decide +kernel
theorem dL_law_310 : decode cL_law 310 = .ok (.aload_n 1, 1) := by decide +kernel
theorem dL_law_311 : decode cL_law 311 = .ok (.aload_n 0, 1) := by decide +kernel
theorem dL_law_312 : decode cL_law 312 = .ok (.iload_n 3, 1) := by decide +kernel
theorem dL_law_313 : decode cL_law 313 = .ok (.iconst 1, 1) := by decide +kernel
theorem dL_law_314 : decode cL_law 314 = .ok (.iadd, 1) := by decide +kernel
theorem dL_law_315 : decode cL_law 315 = .ok (.iaload, 1) := by decide +kernel
theorem dL_law_316 : decode cL_law 316 = .ok (.aload_n 0, 1) := by decide +kernel
theorem dL_law_317 : decode cL_law 317 = .ok (.iload_n 3, 1) := by decide +kernel
theorem dL_law_318 : decode cL_law 318 = .ok (.iconst 2, 1) := by decide +kernel
theorem dL_law_319 : decode cL_law 319 = .ok (.iadd, 1) := by decide +kernel
theorem dL_law_320 : decode cL_law 320 = .ok (.iaload, 1) := by decide +kernel
theorem dL_law_321 : decode cL_law 321 = .ok (.aload_n 0, 1) := by decide +kernel
theorem dL_law_322 : decode cL_law 322 = .ok (.iload_n 3, 1) := by decide +kernel
theorem dL_law_323 : decode cL_law 323 = .ok (.iconst 3, 1) := by decide +kernel
theorem dL_law_324 : decode cL_law 324 = .ok (.iadd, 1) := by decide +kernel
theorem dL_law_325 : decode cL_law 325 = .ok (.iaload, 1) := by decide +kernel
theorem dL_law_326 : decode cL_law 326 = .ok (.invokevirtual 32, 3) := by decide +kernel
theorem dL_law_329 : decode cL_law 329 = .ok (.aload_n 2, 1) := by decide +kernel
theorem dL_law_330 : decode cL_law 330 = .ok (.aload_n 0, 1) := by decide +kernel
theorem dL_law_331 : decode cL_law 331 = .ok (.iload_n 3, 1) := by decide +kernel
theorem dL_law_332 : decode cL_law 332 = .ok (.iconst 1, 1) := by decide +kernel
theorem dL_law_333 : decode cL_law 333 = .ok (.iadd, 1) := by decide +kernel
theorem dL_law_334 : decode cL_law 334 = .ok (.iaload, 1) := by decide +kernel
theorem dL_law_335 : decode cL_law 335 = .ok (.aload_n 0, 1) := by decide +kernel
theorem dL_law_336 : decode cL_law 336 = .ok (.iload_n 3, 1) := by decide +kernel
theorem dL_law_337 : decode cL_law 337 = .ok (.iconst 2, 1) := by decide +kernel
theorem dL_law_338 : decode cL_law 338 = .ok (.iadd, 1) := by decide +kernel
theorem dL_law_339 : decode cL_law 339 = .ok (.iaload, 1) := by decide +kernel
theorem dL_law_340 : decode cL_law 340 = .ok (.aload_n 0, 1) := by decide +kernel
theorem dL_law_341 : decode cL_law 341 = .ok (.iload_n 3, 1) := by decide +kernel
theorem dL_law_342 : decode cL_law 342 = .ok (.iconst 3, 1) := by decide +kernel
theorem dL_law_343 : decode cL_law 343 = .ok (.iadd, 1) := by decide +kernel
theorem dL_law_344 : decode cL_law 344 = .ok (.iaload, 1) := by decide +kernel
theorem dL_law_345 : decode cL_law 345 = .ok (.invokevirtual 36, 3) := by decide +kernel
theorem dL_law_348 : decode cL_law 348 = .ok (.if_icmp .eq 612, 3) := by decide +kernel
theorem dL_law_351 : decode cL_law 351 = .ok (.iconst 0, 1) := by decide +kernel
theorem dL_law_352 : decode cL_law 352 = .ok (.ireturn, 1) := by decide +kernel
theorem dL_law_353 : decode cL_law 353 = .ok (.aload_n 1, 1) := by decide +kernel
theorem dL_law_354 : decode cL_law 354 = .ok (.aload_n 0, 1) := by decide +kernel
theorem dL_law_355 : decode cL_law 355 = .ok (.iload_n 3, 1) := by decide +kernel
theorem dL_law_356 : decode cL_law 356 = .ok (.iconst 1, 1) := by decide +kernel
theorem dL_law_357 : decode cL_law 357 = .ok (.iadd, 1) := by decide +kernel
theorem dL_law_358 : decode cL_law 358 = .ok (.iaload, 1) := by decide +kernel
theorem dL_law_359 : decode cL_law 359 = .ok (.aload_n 0, 1) := by decide +kernel
theorem dL_law_360 : decode cL_law 360 = .ok (.iload_n 3, 1) := by decide +kernel
theorem dL_law_361 : decode cL_law 361 = .ok (.iconst 2, 1) := by decide +kernel
theorem dL_law_362 : decode cL_law 362 = .ok (.iadd, 1) := by decide +kernel
theorem dL_law_363 : decode cL_law 363 = .ok (.iaload, 1) := by decide +kernel
theorem dL_law_364 : decode cL_law 364 = .ok (.invokevirtual 37, 3) := by decide +kernel
theorem dL_law_367 : decode cL_law 367 = .ok (.aload_n 2, 1) := by decide +kernel
theorem dL_law_368 : decode cL_law 368 = .ok (.aload_n 0, 1) := by decide +kernel
theorem dL_law_369 : decode cL_law 369 = .ok (.iload_n 3, 1) := by decide +kernel
theorem dL_law_370 : decode cL_law 370 = .ok (.iconst 1, 1) := by decide +kernel
theorem dL_law_371 : decode cL_law 371 = .ok (.iadd, 1) := by decide +kernel
theorem dL_law_372 : decode cL_law 372 = .ok (.iaload, 1) := by decide +kernel
theorem dL_law_373 : decode cL_law 373 = .ok (.aload_n 0, 1) := by decide +kernel
theorem dL_law_374 : decode cL_law 374 = .ok (.iload_n 3, 1) := by decide +kernel
theorem dL_law_375 : decode cL_law 375 = .ok (.iconst 2, 1) := by decide +kernel
theorem dL_law_376 : decode cL_law 376 = .ok (.iadd, 1) := by decide +kernel
theorem dL_law_377 : decode cL_law 377 = .ok (.iaload, 1) := by decide +kernel
theorem dL_law_378 : decode cL_law 378 = .ok (.invokevirtual 40, 3) := by decide +kernel
theorem dL_law_381 : decode cL_law 381 = .ok (.if_icmp .eq 579, 3) := by decide +kernel
theorem dL_law_384 : decode cL_law 384 = .ok (.iconst 0, 1) := by decide +kernel
theorem dL_law_385 : decode cL_law 385 = .ok (.ireturn, 1) := by decide +kernel
theorem dL_law_386 : decode cL_law 386 = .ok (.aload_n 1, 1) := by decide +kernel
theorem dL_law_387 : decode cL_law 387 = .ok (.aload_n 0, 1) := by decide +kernel
theorem dL_law_388 : decode cL_law 388 = .ok (.iload_n 3, 1) := by decide +kernel
theorem dL_law_389 : decode cL_law 389 = .ok (.iconst 1, 1) := by decide +kernel
theorem dL_law_390 : decode cL_law 390 = .ok (.iadd, 1) := by decide +kernel
theorem dL_law_391 : decode cL_law 391 = .ok (.iaload, 1) := by decide +kernel
theorem dL_law_392 : decode cL_law 392 = .ok (.invokevirtual 41, 3) := by decide +kernel
theorem dL_law_395 : decode cL_law 395 = .ok (.aload_n 2, 1) := by decide +kernel
theorem dL_law_396 : decode cL_law 396 = .ok (.aload_n 0, 1) := by decide +kernel
theorem dL_law_397 : decode cL_law 397 = .ok (.iload_n 3, 1) := by decide +kernel
theorem dL_law_398 : decode cL_law 398 = .ok (.iconst 1, 1) := by decide +kernel
theorem dL_law_399 : decode cL_law 399 = .ok (.iadd, 1) := by decide +kernel
theorem dL_law_400 : decode cL_law 400 = .ok (.iaload, 1) := by decide +kernel
theorem dL_law_401 : decode cL_law 401 = .ok (.invokevirtual 44, 3) := by decide +kernel
theorem dL_law_404 : decode cL_law 404 = .ok (.if_icmp .eq 556, 3) := by decide +kernel
theorem dL_law_407 : decode cL_law 407 = .ok (.iconst 0, 1) := by decide +kernel
theorem dL_law_408 : decode cL_law 408 = .ok (.ireturn, 1) := by decide +kernel
theorem dL_law_409 : decode cL_law 409 = .ok (.aload_n 1, 1) := by decide +kernel
theorem dL_law_410 : decode cL_law 410 = .ok (.aload_n 0, 1) := by decide +kernel
theorem dL_law_411 : decode cL_law 411 = .ok (.iload_n 3, 1) := by decide +kernel
theorem dL_law_412 : decode cL_law 412 = .ok (.iconst 1, 1) := by decide +kernel
theorem dL_law_413 : decode cL_law 413 = .ok (.iadd, 1) := by decide +kernel
theorem dL_law_414 : decode cL_law 414 = .ok (.iaload, 1) := by decide +kernel
theorem dL_law_415 : decode cL_law 415 = .ok (.invokevirtual 45, 3) := by decide +kernel
theorem dL_law_418 : decode cL_law 418 = .ok (.aload_n 2, 1) := by decide +kernel
theorem dL_law_419 : decode cL_law 419 = .ok (.aload_n 0, 1) := by decide +kernel
theorem dL_law_420 : decode cL_law 420 = .ok (.iload_n 3, 1) := by decide +kernel
theorem dL_law_421 : decode cL_law 421 = .ok (.iconst 1, 1) := by decide +kernel
theorem dL_law_422 : decode cL_law 422 = .ok (.iadd, 1) := by decide +kernel
theorem dL_law_423 : decode cL_law 423 = .ok (.iaload, 1) := by decide +kernel
theorem dL_law_424 : decode cL_law 424 = .ok (.invokevirtual 48, 3) := by decide +kernel
theorem dL_law_427 : decode cL_law 427 = .ok (.if_icmp .eq 533, 3) := by decide +kernel
theorem dL_law_430 : decode cL_law 430 = .ok (.iconst 0, 1) := by decide +kernel
theorem dL_law_431 : decode cL_law 431 = .ok (.ireturn, 1) := by decide +kernel
theorem dL_law_432 : decode cL_law 432 = .ok (.aload_n 1, 1) := by decide +kernel
theorem dL_law_433 : decode cL_law 433 = .ok (.aload_n 0, 1) := by decide +kernel
theorem dL_law_434 : decode cL_law 434 = .ok (.iload_n 3, 1) := by decide +kernel
theorem dL_law_435 : decode cL_law 435 = .ok (.iconst 1, 1) := by decide +kernel
theorem dL_law_436 : decode cL_law 436 = .ok (.iadd, 1) := by decide +kernel
theorem dL_law_437 : decode cL_law 437 = .ok (.iaload, 1) := by decide +kernel
theorem dL_law_438 : decode cL_law 438 = .ok (.aload_n 0, 1) := by decide +kernel
theorem dL_law_439 : decode cL_law 439 = .ok (.iload_n 3, 1) := by decide +kernel
theorem dL_law_440 : decode cL_law 440 = .ok (.iconst 2, 1) := by decide +kernel
theorem dL_law_441 : decode cL_law 441 = .ok (.iadd, 1) := by decide +kernel
theorem dL_law_442 : decode cL_law 442 = .ok (.iaload, 1) := by decide +kernel
theorem dL_law_443 : decode cL_law 443 = .ok (.aload_n 0, 1) := by decide +kernel
theorem dL_law_444 : decode cL_law 444 = .ok (.iload_n 3, 1) := by decide +kernel
theorem dL_law_445 : decode cL_law 445 = .ok (.iconst 3, 1) := by decide +kernel
theorem dL_law_446 : decode cL_law 446 = .ok (.iadd, 1) := by decide +kernel
theorem dL_law_447 : decode cL_law 447 = .ok (.iaload, 1) := by decide +kernel
theorem dL_law_448 : decode cL_law 448 = .ok (.invokevirtual 49, 3) := by decide +kernel
theorem dL_law_451 : decode cL_law 451 = .ok (.aload_n 2, 1) := by decide +kernel
theorem dL_law_452 : decode cL_law 452 = .ok (.aload_n 0, 1) := by decide +kernel
theorem dL_law_453 : decode cL_law 453 = .ok (.iload_n 3, 1) := by decide +kernel
theorem dL_law_454 : decode cL_law 454 = .ok (.iconst 1, 1) := by decide +kernel
theorem dL_law_455 : decode cL_law 455 = .ok (.iadd, 1) := by decide +kernel
theorem dL_law_456 : decode cL_law 456 = .ok (.iaload, 1) := by decide +kernel
theorem dL_law_457 : decode cL_law 457 = .ok (.aload_n 0, 1) := by decide +kernel
theorem dL_law_458 : decode cL_law 458 = .ok (.iload_n 3, 1) := by decide +kernel
theorem dL_law_459 : decode cL_law 459 = .ok (.iconst 2, 1) := by decide +kernel
theorem dL_law_460 : decode cL_law 460 = .ok (.iadd, 1) := by decide +kernel
theorem dL_law_461 : decode cL_law 461 = .ok (.iaload, 1) := by decide +kernel
theorem dL_law_462 : decode cL_law 462 = .ok (.aload_n 0, 1) := by decide +kernel
theorem dL_law_463 : decode cL_law 463 = .ok (.iload_n 3, 1) := by decide +kernel
theorem dL_law_464 : decode cL_law 464 = .ok (.iconst 3, 1) := by decide +kernel
theorem dL_law_465 : decode cL_law 465 = .ok (.iadd, 1) := by decide +kernel
theorem dL_law_466 : decode cL_law 466 = .ok (.iaload, 1) := by decide +kernel
theorem dL_law_467 : decode cL_law 467 = .ok (.invokevirtual 52, 3) := by decide +kernel
theorem dL_law_470 : decode cL_law 470 = .ok (.if_icmp .eq 490, 3) := by decide +kernel
theorem dL_law_473 : decode cL_law 473 = .ok (.iconst 0, 1) := by decide +kernel
theorem dL_law_474 : decode cL_law 474 = .ok (.ireturn, 1) := by decide +kernel
theorem dL_law_475 : decode cL_law 475 = .ok (.aload_n 1, 1) := by decide +kernel
theorem dL_law_476 : decode cL_law 476 = .ok (.aload_n 0, 1) := by decide +kernel
theorem dL_law_477 : decode cL_law 477 = .ok (.iload_n 3, 1) := by decide +kernel
theorem dL_law_478 : decode cL_law 478 = .ok (.iconst 1, 1) := by decide +kernel
theorem dL_law_479 : decode cL_law 479 = .ok (.iadd, 1) := by decide +kernel
theorem dL_law_480 : decode cL_law 480 = .ok (.iaload, 1) := by decide +kernel
theorem dL_law_481 : decode cL_law 481 = .ok (.invokevirtual 53, 3) := by decide +kernel
theorem dL_law_484 : decode cL_law 484 = .ok (.aload_n 2, 1) := by decide +kernel
theorem dL_law_485 : decode cL_law 485 = .ok (.aload_n 0, 1) := by decide +kernel
theorem dL_law_486 : decode cL_law 486 = .ok (.iload_n 3, 1) := by decide +kernel
theorem dL_law_487 : decode cL_law 487 = .ok (.iconst 1, 1) := by decide +kernel
theorem dL_law_488 : decode cL_law 488 = .ok (.iadd, 1) := by decide +kernel
theorem dL_law_489 : decode cL_law 489 = .ok (.iaload, 1) := by decide +kernel
theorem dL_law_490 : decode cL_law 490 = .ok (.invokevirtual 56, 3) := by decide +kernel
theorem dL_law_493 : decode cL_law 493 = .ok (.if_icmp .eq 467, 3) := by decide +kernel
theorem dL_law_496 : decode cL_law 496 = .ok (.iconst 0, 1) := by decide +kernel
theorem dL_law_497 : decode cL_law 497 = .ok (.ireturn, 1) := by decide +kernel
theorem dL_law_498 : decode cL_law 498 = .ok (.aload_n 1, 1) := by decide +kernel
theorem dL_law_499 : decode cL_law 499 = .ok (.aload_n 0, 1) := by decide +kernel
theorem dL_law_500 : decode cL_law 500 = .ok (.iload_n 3, 1) := by decide +kernel
theorem dL_law_501 : decode cL_law 501 = .ok (.iconst 1, 1) := by decide +kernel
theorem dL_law_502 : decode cL_law 502 = .ok (.iadd, 1) := by decide +kernel
theorem dL_law_503 : decode cL_law 503 = .ok (.iaload, 1) := by decide +kernel
theorem dL_law_504 : decode cL_law 504 = .ok (.aload_n 0, 1) := by decide +kernel
theorem dL_law_505 : decode cL_law 505 = .ok (.iload_n 3, 1) := by decide +kernel
theorem dL_law_506 : decode cL_law 506 = .ok (.iconst 2, 1) := by decide +kernel
theorem dL_law_507 : decode cL_law 507 = .ok (.iadd, 1) := by decide +kernel
theorem dL_law_508 : decode cL_law 508 = .ok (.iaload, 1) := by decide +kernel
theorem dL_law_509 : decode cL_law 509 = .ok (.invokevirtual 57, 3) := by decide +kernel
theorem dL_law_512 : decode cL_law 512 = .ok (.aload_n 2, 1) := by decide +kernel
theorem dL_law_513 : decode cL_law 513 = .ok (.aload_n 0, 1) := by decide +kernel
theorem dL_law_514 : decode cL_law 514 = .ok (.iload_n 3, 1) := by decide +kernel
theorem dL_law_515 : decode cL_law 515 = .ok (.iconst 1, 1) := by decide +kernel
theorem dL_law_516 : decode cL_law 516 = .ok (.iadd, 1) := by decide +kernel
theorem dL_law_517 : decode cL_law 517 = .ok (.iaload, 1) := by decide +kernel
theorem dL_law_518 : decode cL_law 518 = .ok (.aload_n 0, 1) := by decide +kernel
theorem dL_law_519 : decode cL_law 519 = .ok (.iload_n 3, 1) := by decide +kernel
theorem dL_law_520 : decode cL_law 520 = .ok (.iconst 2, 1) := by decide +kernel
theorem dL_law_521 : decode cL_law 521 = .ok (.iadd, 1) := by decide +kernel
theorem dL_law_522 : decode cL_law 522 = .ok (.iaload, 1) := by decide +kernel
theorem dL_law_523 : decode cL_law 523 = .ok (.invokevirtual 60, 3) := by decide +kernel
theorem dL_law_526 : decode cL_law 526 = .ok (.if_icmp .eq 434, 3) := by decide +kernel
theorem dL_law_529 : decode cL_law 529 = .ok (.iconst 0, 1) := by decide +kernel
theorem dL_law_530 : decode cL_law 530 = .ok (.ireturn, 1) := by decide +kernel
theorem dL_law_531 : decode cL_law 531 = .ok (.aload_n 1, 1) := by decide +kernel
theorem dL_law_532 : decode cL_law 532 = .ok (.aload_n 0, 1) := by decide +kernel
theorem dL_law_533 : decode cL_law 533 = .ok (.iload_n 3, 1) := by decide +kernel
theorem dL_law_534 : decode cL_law 534 = .ok (.iconst 1, 1) := by decide +kernel
theorem dL_law_535 : decode cL_law 535 = .ok (.iadd, 1) := by decide +kernel
theorem dL_law_536 : decode cL_law 536 = .ok (.iaload, 1) := by decide +kernel
theorem dL_law_537 : decode cL_law 537 = .ok (.aload_n 0, 1) := by decide +kernel
theorem dL_law_538 : decode cL_law 538 = .ok (.iload_n 3, 1) := by decide +kernel
theorem dL_law_539 : decode cL_law 539 = .ok (.iconst 2, 1) := by decide +kernel
theorem dL_law_540 : decode cL_law 540 = .ok (.iadd, 1) := by decide +kernel
theorem dL_law_541 : decode cL_law 541 = .ok (.iaload, 1) := by decide +kernel
theorem dL_law_542 : decode cL_law 542 = .ok (.aload_n 0, 1) := by decide +kernel
theorem dL_law_543 : decode cL_law 543 = .ok (.iload_n 3, 1) := by decide +kernel
theorem dL_law_544 : decode cL_law 544 = .ok (.iconst 3, 1) := by decide +kernel
theorem dL_law_545 : decode cL_law 545 = .ok (.iadd, 1) := by decide +kernel
theorem dL_law_546 : decode cL_law 546 = .ok (.iaload, 1) := by decide +kernel
theorem dL_law_547 : decode cL_law 547 = .ok (.invokevirtual 61, 3) := by decide +kernel
theorem dL_law_550 : decode cL_law 550 = .ok (.aload_n 2, 1) := by decide +kernel
theorem dL_law_551 : decode cL_law 551 = .ok (.aload_n 0, 1) := by decide +kernel
theorem dL_law_552 : decode cL_law 552 = .ok (.iload_n 3, 1) := by decide +kernel
theorem dL_law_553 : decode cL_law 553 = .ok (.iconst 1, 1) := by decide +kernel
theorem dL_law_554 : decode cL_law 554 = .ok (.iadd, 1) := by decide +kernel
theorem dL_law_555 : decode cL_law 555 = .ok (.iaload, 1) := by decide +kernel
theorem dL_law_556 : decode cL_law 556 = .ok (.aload_n 0, 1) := by decide +kernel
theorem dL_law_557 : decode cL_law 557 = .ok (.iload_n 3, 1) := by decide +kernel
theorem dL_law_558 : decode cL_law 558 = .ok (.iconst 2, 1) := by decide +kernel
theorem dL_law_559 : decode cL_law 559 = .ok (.iadd, 1) := by decide +kernel
theorem dL_law_560 : decode cL_law 560 = .ok (.iaload, 1) := by decide +kernel
theorem dL_law_561 : decode cL_law 561 = .ok (.aload_n 0, 1) := by decide +kernel
theorem dL_law_562 : decode cL_law 562 = .ok (.iload_n 3, 1) := by decide +kernel
theorem dL_law_563 : decode cL_law 563 = .ok (.iconst 3, 1) := by decide +kernel
theorem dL_law_564 : decode cL_law 564 = .ok (.iadd, 1) := by decide +kernel
theorem dL_law_565 : decode cL_law 565 = .ok (.iaload, 1) := by decide +kernel
theorem dL_law_566 : decode cL_law 566 = .ok (.invokevirtual 64, 3) := by decide +kernel
theorem dL_law_569 : decode cL_law 569 = .ok (.if_icmp .eq 391, 3) := by decide +kernel
theorem dL_law_572 : decode cL_law 572 = .ok (.iconst 0, 1) := by decide +kernel
theorem dL_law_573 : decode cL_law 573 = .ok (.ireturn, 1) := by decide +kernel
theorem dL_law_574 : decode cL_law 574 = .ok (.aload_n 1, 1) := by decide +kernel
theorem dL_law_575 : decode cL_law 575 = .ok (.aload_n 0, 1) := by decide +kernel
theorem dL_law_576 : decode cL_law 576 = .ok (.iload_n 3, 1) := by decide +kernel
theorem dL_law_577 : decode cL_law 577 = .ok (.iconst 1, 1) := by decide +kernel
theorem dL_law_578 : decode cL_law 578 = .ok (.iadd, 1) := by decide +kernel
theorem dL_law_579 : decode cL_law 579 = .ok (.iaload, 1) := by decide +kernel
theorem dL_law_580 : decode cL_law 580 = .ok (.aload_n 0, 1) := by decide +kernel
theorem dL_law_581 : decode cL_law 581 = .ok (.iload_n 3, 1) := by decide +kernel
theorem dL_law_582 : decode cL_law 582 = .ok (.iconst 2, 1) := by decide +kernel
theorem dL_law_583 : decode cL_law 583 = .ok (.iadd, 1) := by decide +kernel
theorem dL_law_584 : decode cL_law 584 = .ok (.iaload, 1) := by decide +kernel
theorem dL_law_585 : decode cL_law 585 = .ok (.invokevirtual 65, 3) := by decide +kernel
theorem dL_law_588 : decode cL_law 588 = .ok (.aload_n 2, 1) := by decide +kernel
theorem dL_law_589 : decode cL_law 589 = .ok (.aload_n 0, 1) := by decide +kernel
theorem dL_law_590 : decode cL_law 590 = .ok (.iload_n 3, 1) := by decide +kernel
theorem dL_law_591 : decode cL_law 591 = .ok (.iconst 1, 1) := by decide +kernel
theorem dL_law_592 : decode cL_law 592 = .ok (.iadd, 1) := by decide +kernel
theorem dL_law_593 : decode cL_law 593 = .ok (.iaload, 1) := by decide +kernel
theorem dL_law_594 : decode cL_law 594 = .ok (.aload_n 0, 1) := by decide +kernel
theorem dL_law_595 : decode cL_law 595 = .ok (.iload_n 3, 1) := by decide +kernel
theorem dL_law_596 : decode cL_law 596 = .ok (.iconst 2, 1) := by decide +kernel
theorem dL_law_597 : decode cL_law 597 = .ok (.iadd, 1) := by decide +kernel
theorem dL_law_598 : decode cL_law 598 = .ok (.iaload, 1) := by decide +kernel
theorem dL_law_599 : decode cL_law 599 = .ok (.invokevirtual 68, 3) := by decide +kernel
theorem dL_law_602 : decode cL_law 602 = .ok (.if_icmp .eq 358, 3) := by decide +kernel
theorem dL_law_605 : decode cL_law 605 = .ok (.iconst 0, 1) := by decide +kernel
theorem dL_law_606 : decode cL_law 606 = .ok (.ireturn, 1) := by decide +kernel
theorem dL_law_607 : decode cL_law 607 = .ok (.aload_n 1, 1) := by decide +kernel
theorem dL_law_608 : decode cL_law 608 = .ok (.invokevirtual 69, 3) := by decide +kernel
theorem dL_law_611 : decode cL_law 611 = .ok (.aload_n 2, 1) := by decide +kernel
theorem dL_law_612 : decode cL_law 612 = .ok (.invokevirtual 73, 3) := by decide +kernel
theorem dL_law_615 : decode cL_law 615 = .ok (.if_icmp .eq 345, 3) := by decide +kernel
theorem dL_law_618 : decode cL_law 618 = .ok (.iconst 0, 1) := by decide +kernel
theorem dL_law_619 : decode cL_law 619 = .ok (.ireturn, 1) := by decide +kernel
theorem dL_law_620 : decode cL_law 620 = .ok (.aload_n 1, 1) := by decide +kernel
theorem dL_law_621 : decode cL_law 621 = .ok (.invokevirtual 74, 3) := by decide +kernel
theorem dL_law_624 : decode cL_law 624 = .ok (.aload_n 2, 1) := by decide +kernel
theorem dL_law_625 : decode cL_law 625 = .ok (.invokevirtual 77, 3) := by decide +kernel
theorem dL_law_628 : decode cL_law 628 = .ok (.if_icmp .eq 332, 3) := by decide +kernel
theorem dL_law_631 : decode cL_law 631 = .ok (.iconst 0, 1) := by decide +kernel
theorem dL_law_632 : decode cL_law 632 = .ok (.ireturn, 1) := by decide +kernel
theorem dL_law_633 : decode cL_law 633 = .ok (.aload_n 1, 1) := by decide +kernel
theorem dL_law_634 : decode cL_law 634 = .ok (.invokevirtual 78, 3) := by decide +kernel
theorem dL_law_637 : decode cL_law 637 = .ok (.aload_n 2, 1) := by decide +kernel
theorem dL_law_638 : decode cL_law 638 = .ok (.invokevirtual 81, 3) := by decide +kernel
theorem dL_law_641 : decode cL_law 641 = .ok (.if_icmp .eq 319, 3) := by decide +kernel
theorem dL_law_644 : decode cL_law 644 = .ok (.iconst 0, 1) := by decide +kernel
theorem dL_law_645 : decode cL_law 645 = .ok (.ireturn, 1) := by decide +kernel
theorem dL_law_646 : decode cL_law 646 = .ok (.aload_n 1, 1) := by decide +kernel
theorem dL_law_647 : decode cL_law 647 = .ok (.aload_n 0, 1) := by decide +kernel
theorem dL_law_648 : decode cL_law 648 = .ok (.iload_n 3, 1) := by decide +kernel
theorem dL_law_649 : decode cL_law 649 = .ok (.iconst 1, 1) := by decide +kernel
theorem dL_law_650 : decode cL_law 650 = .ok (.iadd, 1) := by decide +kernel
theorem dL_law_651 : decode cL_law 651 = .ok (.iaload, 1) := by decide +kernel
theorem dL_law_652 : decode cL_law 652 = .ok (.aload_n 0, 1) := by decide +kernel
theorem dL_law_653 : decode cL_law 653 = .ok (.iload_n 3, 1) := by decide +kernel
theorem dL_law_654 : decode cL_law 654 = .ok (.iconst 2, 1) := by decide +kernel
theorem dL_law_655 : decode cL_law 655 = .ok (.iadd, 1) := by decide +kernel
theorem dL_law_656 : decode cL_law 656 = .ok (.iaload, 1) := by decide +kernel
theorem dL_law_657 : decode cL_law 657 = .ok (.invokevirtual 82, 3) := by decide +kernel
theorem dL_law_660 : decode cL_law 660 = .ok (.aload_n 2, 1) := by decide +kernel
theorem dL_law_661 : decode cL_law 661 = .ok (.aload_n 0, 1) := by decide +kernel
theorem dL_law_662 : decode cL_law 662 = .ok (.iload_n 3, 1) := by decide +kernel
theorem dL_law_663 : decode cL_law 663 = .ok (.iconst 1, 1) := by decide +kernel
theorem dL_law_664 : decode cL_law 664 = .ok (.iadd, 1) := by decide +kernel
theorem dL_law_665 : decode cL_law 665 = .ok (.iaload, 1) := by decide +kernel
theorem dL_law_666 : decode cL_law 666 = .ok (.aload_n 0, 1) := by decide +kernel
theorem dL_law_667 : decode cL_law 667 = .ok (.iload_n 3, 1) := by decide +kernel
theorem dL_law_668 : decode cL_law 668 = .ok (.iconst 2, 1) := by decide +kernel
theorem dL_law_669 : decode cL_law 669 = .ok (.iadd, 1) := by decide +kernel
theorem dL_law_670 : decode cL_law 670 = .ok (.iaload, 1) := by decide +kernel
theorem dL_law_671 : decode cL_law 671 = .ok (.invokevirtual 85, 3) := by decide +kernel
theorem dL_law_674 : decode cL_law 674 = .ok (.if_icmp .eq 286, 3) := by decide +kernel
theorem dL_law_677 : decode cL_law 677 = .ok (.iconst 0, 1) := by decide +kernel
theorem dL_law_678 : decode cL_law 678 = .ok (.ireturn, 1) := by decide +kernel
theorem dL_law_679 : decode cL_law 679 = .ok (.aload_n 1, 1) := by decide +kernel
theorem dL_law_680 : decode cL_law 680 = .ok (.aload_n 0, 1) := by decide +kernel
theorem dL_law_681 : decode cL_law 681 = .ok (.iload_n 3, 1) := by decide +kernel
theorem dL_law_682 : decode cL_law 682 = .ok (.iconst 1, 1) := by decide +kernel
theorem dL_law_683 : decode cL_law 683 = .ok (.iadd, 1) := by decide +kernel
theorem dL_law_684 : decode cL_law 684 = .ok (.iaload, 1) := by decide +kernel
theorem dL_law_685 : decode cL_law 685 = .ok (.invokevirtual 86, 3) := by decide +kernel
theorem dL_law_688 : decode cL_law 688 = .ok (.aload_n 2, 1) := by decide +kernel
theorem dL_law_689 : decode cL_law 689 = .ok (.aload_n 0, 1) := by decide +kernel
theorem dL_law_690 : decode cL_law 690 = .ok (.iload_n 3, 1) := by decide +kernel
theorem dL_law_691 : decode cL_law 691 = .ok (.iconst 1, 1) := by decide +kernel
theorem dL_law_692 : decode cL_law 692 = .ok (.iadd, 1) := by decide +kernel
theorem dL_law_693 : decode cL_law 693 = .ok (.iaload, 1) := by decide +kernel
theorem dL_law_694 : decode cL_law 694 = .ok (.invokevirtual 89, 3) := by decide +kernel
theorem dL_law_697 : decode cL_law 697 = .ok (.if_icmp .eq 263, 3) := by decide +kernel
theorem dL_law_700 : decode cL_law 700 = .ok (.iconst 0, 1) := by decide +kernel
theorem dL_law_701 : decode cL_law 701 = .ok (.ireturn, 1) := by decide +kernel
theorem dL_law_702 : decode cL_law 702 = .ok (.aload_n 1, 1) := by decide +kernel
theorem dL_law_703 : decode cL_law 703 = .ok (.aload_n 0, 1) := by decide +kernel
theorem dL_law_704 : decode cL_law 704 = .ok (.iload_n 3, 1) := by decide +kernel
theorem dL_law_705 : decode cL_law 705 = .ok (.iconst 1, 1) := by decide +kernel
theorem dL_law_706 : decode cL_law 706 = .ok (.iadd, 1) := by decide +kernel
theorem dL_law_707 : decode cL_law 707 = .ok (.iaload, 1) := by decide +kernel
theorem dL_law_708 : decode cL_law 708 = .ok (.invokevirtual 90, 3) := by decide +kernel
theorem dL_law_711 : decode cL_law 711 = .ok (.aload_n 2, 1) := by decide +kernel
theorem dL_law_712 : decode cL_law 712 = .ok (.aload_n 0, 1) := by decide +kernel
theorem dL_law_713 : decode cL_law 713 = .ok (.iload_n 3, 1) := by decide +kernel
theorem dL_law_714 : decode cL_law 714 = .ok (.iconst 1, 1) := by decide +kernel
theorem dL_law_715 : decode cL_law 715 = .ok (.iadd, 1) := by decide +kernel
theorem dL_law_716 : decode cL_law 716 = .ok (.iaload, 1) := by decide +kernel
theorem dL_law_717 : decode cL_law 717 = .ok (.invokevirtual 94, 3) := by decide +kernel
theorem dL_law_720 : decode cL_law 720 = .ok (.lcmp, 1) := by decide +kernel
theorem dL_law_721 : decode cL_law 721 = .ok (.ifCond .eq 239, 3) := by decide +kernel
theorem dL_law_724 : decode cL_law 724 = .ok (.iconst 0, 1) := by decide +kernel
theorem dL_law_725 : decode cL_law 725 = .ok (.ireturn, 1) := by decide +kernel
theorem dL_law_726 : decode cL_law 726 = .ok (.aload_n 1, 1) := by decide +kernel
theorem dL_law_727 : decode cL_law 727 = .ok (.aload_n 0, 1) := by decide +kernel
theorem dL_law_728 : decode cL_law 728 = .ok (.iload_n 3, 1) := by decide +kernel
theorem dL_law_729 : decode cL_law 729 = .ok (.iconst 1, 1) := by decide +kernel
theorem dL_law_730 : decode cL_law 730 = .ok (.iadd, 1) := by decide +kernel
theorem dL_law_731 : decode cL_law 731 = .ok (.iaload, 1) := by decide +kernel
theorem dL_law_732 : decode cL_law 732 = .ok (.invokevirtual 95, 3) := by decide +kernel
theorem dL_law_735 : decode cL_law 735 = .ok (.aload_n 2, 1) := by decide +kernel
theorem dL_law_736 : decode cL_law 736 = .ok (.aload_n 0, 1) := by decide +kernel
theorem dL_law_737 : decode cL_law 737 = .ok (.iload_n 3, 1) := by decide +kernel
theorem dL_law_738 : decode cL_law 738 = .ok (.iconst 1, 1) := by decide +kernel
theorem dL_law_739 : decode cL_law 739 = .ok (.iadd, 1) := by decide +kernel
theorem dL_law_740 : decode cL_law 740 = .ok (.iaload, 1) := by decide +kernel
theorem dL_law_741 : decode cL_law 741 = .ok (.invokevirtual 98, 3) := by decide +kernel
theorem dL_law_744 : decode cL_law 744 = .ok (.if_icmp .eq 216, 3) := by decide +kernel
theorem dL_law_747 : decode cL_law 747 = .ok (.iconst 0, 1) := by decide +kernel
theorem dL_law_748 : decode cL_law 748 = .ok (.ireturn, 1) := by decide +kernel
theorem dL_law_749 : decode cL_law 749 = .ok (.aload_n 1, 1) := by decide +kernel
theorem dL_law_750 : decode cL_law 750 = .ok (.aload_n 0, 1) := by decide +kernel
theorem dL_law_751 : decode cL_law 751 = .ok (.iload_n 3, 1) := by decide +kernel
theorem dL_law_752 : decode cL_law 752 = .ok (.iconst 1, 1) := by decide +kernel
theorem dL_law_753 : decode cL_law 753 = .ok (.iadd, 1) := by decide +kernel
theorem dL_law_754 : decode cL_law 754 = .ok (.iaload, 1) := by decide +kernel
theorem dL_law_755 : decode cL_law 755 = .ok (.aload_n 0, 1) := by decide +kernel
theorem dL_law_756 : decode cL_law 756 = .ok (.iload_n 3, 1) := by decide +kernel
theorem dL_law_757 : decode cL_law 757 = .ok (.iconst 2, 1) := by decide +kernel
theorem dL_law_758 : decode cL_law 758 = .ok (.iadd, 1) := by decide +kernel
theorem dL_law_759 : decode cL_law 759 = .ok (.iaload, 1) := by decide +kernel
theorem dL_law_760 : decode cL_law 760 = .ok (.invokevirtual 99, 3) := by decide +kernel
theorem dL_law_763 : decode cL_law 763 = .ok (.aload_n 2, 1) := by decide +kernel
theorem dL_law_764 : decode cL_law 764 = .ok (.aload_n 0, 1) := by decide +kernel
theorem dL_law_765 : decode cL_law 765 = .ok (.iload_n 3, 1) := by decide +kernel
theorem dL_law_766 : decode cL_law 766 = .ok (.iconst 1, 1) := by decide +kernel
theorem dL_law_767 : decode cL_law 767 = .ok (.iadd, 1) := by decide +kernel
theorem dL_law_768 : decode cL_law 768 = .ok (.iaload, 1) := by decide +kernel
theorem dL_law_769 : decode cL_law 769 = .ok (.aload_n 0, 1) := by decide +kernel
theorem dL_law_770 : decode cL_law 770 = .ok (.iload_n 3, 1) := by decide +kernel
theorem dL_law_771 : decode cL_law 771 = .ok (.iconst 2, 1) := by decide +kernel
theorem dL_law_772 : decode cL_law 772 = .ok (.iadd, 1) := by decide +kernel
theorem dL_law_773 : decode cL_law 773 = .ok (.iaload, 1) := by decide +kernel
theorem dL_law_774 : decode cL_law 774 = .ok (.invokevirtual 102, 3) := by decide +kernel
theorem dL_law_777 : decode cL_law 777 = .ok (.if_icmp .eq 183, 3) := by decide +kernel
theorem dL_law_780 : decode cL_law 780 = .ok (.iconst 0, 1) := by decide +kernel
theorem dL_law_781 : decode cL_law 781 = .ok (.ireturn, 1) := by decide +kernel
theorem dL_law_782 : decode cL_law 782 = .ok (.aload_n 1, 1) := by decide +kernel
theorem dL_law_783 : decode cL_law 783 = .ok (.aload_n 0, 1) := by decide +kernel
theorem dL_law_784 : decode cL_law 784 = .ok (.iload_n 3, 1) := by decide +kernel
theorem dL_law_785 : decode cL_law 785 = .ok (.iconst 1, 1) := by decide +kernel
theorem dL_law_786 : decode cL_law 786 = .ok (.iadd, 1) := by decide +kernel
theorem dL_law_787 : decode cL_law 787 = .ok (.iaload, 1) := by decide +kernel
theorem dL_law_788 : decode cL_law 788 = .ok (.invokevirtual 103, 3) := by decide +kernel
theorem dL_law_791 : decode cL_law 791 = .ok (.aload_n 2, 1) := by decide +kernel
theorem dL_law_792 : decode cL_law 792 = .ok (.aload_n 0, 1) := by decide +kernel
theorem dL_law_793 : decode cL_law 793 = .ok (.iload_n 3, 1) := by decide +kernel
theorem dL_law_794 : decode cL_law 794 = .ok (.iconst 1, 1) := by decide +kernel
theorem dL_law_795 : decode cL_law 795 = .ok (.iadd, 1) := by decide +kernel
theorem dL_law_796 : decode cL_law 796 = .ok (.iaload, 1) := by decide +kernel
theorem dL_law_797 : decode cL_law 797 = .ok (.invokevirtual 106, 3) := by decide +kernel
theorem dL_law_800 : decode cL_law 800 = .ok (.if_icmp .eq 160, 3) := by decide +kernel
theorem dL_law_803 : decode cL_law 803 = .ok (.iconst 0, 1) := by decide +kernel
theorem dL_law_804 : decode cL_law 804 = .ok (.ireturn, 1) := by decide +kernel
theorem dL_law_805 : decode cL_law 805 = .ok (.aload_n 1, 1) := by decide +kernel
theorem dL_law_806 : decode cL_law 806 = .ok (.aload_n 0, 1) := by decide +kernel
theorem dL_law_807 : decode cL_law 807 = .ok (.iload_n 3, 1) := by decide +kernel
theorem dL_law_808 : decode cL_law 808 = .ok (.iconst 1, 1) := by decide +kernel
theorem dL_law_809 : decode cL_law 809 = .ok (.iadd, 1) := by decide +kernel
theorem dL_law_810 : decode cL_law 810 = .ok (.iaload, 1) := by decide +kernel
theorem dL_law_811 : decode cL_law 811 = .ok (.invokevirtual 107, 3) := by decide +kernel
theorem dL_law_814 : decode cL_law 814 = .ok (.aload_n 2, 1) := by decide +kernel
theorem dL_law_815 : decode cL_law 815 = .ok (.aload_n 0, 1) := by decide +kernel
theorem dL_law_816 : decode cL_law 816 = .ok (.iload_n 3, 1) := by decide +kernel
theorem dL_law_817 : decode cL_law 817 = .ok (.iconst 1, 1) := by decide +kernel
theorem dL_law_818 : decode cL_law 818 = .ok (.iadd, 1) := by decide +kernel
theorem dL_law_819 : decode cL_law 819 = .ok (.iaload, 1) := by decide +kernel
theorem dL_law_820 : decode cL_law 820 = .ok (.invokevirtual 110, 3) := by decide +kernel
theorem dL_law_823 : decode cL_law 823 = .ok (.if_icmp .eq 137, 3) := by decide +kernel
theorem dL_law_826 : decode cL_law 826 = .ok (.iconst 0, 1) := by decide +kernel
theorem dL_law_827 : decode cL_law 827 = .ok (.ireturn, 1) := by decide +kernel
theorem dL_law_828 : decode cL_law 828 = .ok (.aload_n 1, 1) := by decide +kernel
theorem dL_law_829 : decode cL_law 829 = .ok (.aload_n 0, 1) := by decide +kernel
theorem dL_law_830 : decode cL_law 830 = .ok (.iload_n 3, 1) := by decide +kernel
theorem dL_law_831 : decode cL_law 831 = .ok (.iconst 1, 1) := by decide +kernel
theorem dL_law_832 : decode cL_law 832 = .ok (.iadd, 1) := by decide +kernel
theorem dL_law_833 : decode cL_law 833 = .ok (.iaload, 1) := by decide +kernel
theorem dL_law_834 : decode cL_law 834 = .ok (.aload_n 0, 1) := by decide +kernel
theorem dL_law_835 : decode cL_law 835 = .ok (.iload_n 3, 1) := by decide +kernel
theorem dL_law_836 : decode cL_law 836 = .ok (.iconst 2, 1) := by decide +kernel
theorem dL_law_837 : decode cL_law 837 = .ok (.iadd, 1) := by decide +kernel
theorem dL_law_838 : decode cL_law 838 = .ok (.iaload, 1) := by decide +kernel
theorem dL_law_839 : decode cL_law 839 = .ok (.invokevirtual 111, 3) := by decide +kernel
theorem dL_law_842 : decode cL_law 842 = .ok (.aload_n 2, 1) := by decide +kernel
theorem dL_law_843 : decode cL_law 843 = .ok (.aload_n 0, 1) := by decide +kernel
theorem dL_law_844 : decode cL_law 844 = .ok (.iload_n 3, 1) := by decide +kernel
theorem dL_law_845 : decode cL_law 845 = .ok (.iconst 1, 1) := by decide +kernel
theorem dL_law_846 : decode cL_law 846 = .ok (.iadd, 1) := by decide +kernel
theorem dL_law_847 : decode cL_law 847 = .ok (.iaload, 1) := by decide +kernel
theorem dL_law_848 : decode cL_law 848 = .ok (.aload_n 0, 1) := by decide +kernel
theorem dL_law_849 : decode cL_law 849 = .ok (.iload_n 3, 1) := by decide +kernel
theorem dL_law_850 : decode cL_law 850 = .ok (.iconst 2, 1) := by decide +kernel
theorem dL_law_851 : decode cL_law 851 = .ok (.iadd, 1) := by decide +kernel
theorem dL_law_852 : decode cL_law 852 = .ok (.iaload, 1) := by decide +kernel
theorem dL_law_853 : decode cL_law 853 = .ok (.invokevirtual 114, 3) := by decide +kernel
theorem dL_law_856 : decode cL_law 856 = .ok (.if_icmp .eq 104, 3) := by decide +kernel
theorem dL_law_859 : decode cL_law 859 = .ok (.iconst 0, 1) := by decide +kernel
theorem dL_law_860 : decode cL_law 860 = .ok (.ireturn, 1) := by decide +kernel
theorem dL_law_861 : decode cL_law 861 = .ok (.aload_n 1, 1) := by decide +kernel
theorem dL_law_862 : decode cL_law 862 = .ok (.aload_n 0, 1) := by decide +kernel
theorem dL_law_863 : decode cL_law 863 = .ok (.iload_n 3, 1) := by decide +kernel
theorem dL_law_864 : decode cL_law 864 = .ok (.iconst 1, 1) := by decide +kernel
theorem dL_law_865 : decode cL_law 865 = .ok (.iadd, 1) := by decide +kernel
theorem dL_law_866 : decode cL_law 866 = .ok (.iaload, 1) := by decide +kernel
theorem dL_law_867 : decode cL_law 867 = .ok (.invokevirtual 115, 3) := by decide +kernel
theorem dL_law_870 : decode cL_law 870 = .ok (.aload_n 2, 1) := by decide +kernel
theorem dL_law_871 : decode cL_law 871 = .ok (.aload_n 0, 1) := by decide +kernel
theorem dL_law_872 : decode cL_law 872 = .ok (.iload_n 3, 1) := by decide +kernel
theorem dL_law_873 : decode cL_law 873 = .ok (.iconst 1, 1) := by decide +kernel
theorem dL_law_874 : decode cL_law 874 = .ok (.iadd, 1) := by decide +kernel
theorem dL_law_875 : decode cL_law 875 = .ok (.iaload, 1) := by decide +kernel
theorem dL_law_876 : decode cL_law 876 = .ok (.invokevirtual 118, 3) := by decide +kernel
theorem dL_law_879 : decode cL_law 879 = .ok (.if_icmp .eq 81, 3) := by decide +kernel
theorem dL_law_882 : decode cL_law 882 = .ok (.iconst 0, 1) := by decide +kernel
theorem dL_law_883 : decode cL_law 883 = .ok (.ireturn, 1) := by decide +kernel
theorem dL_law_884 : decode cL_law 884 = .ok (.aload_n 1, 1) := by decide +kernel
theorem dL_law_885 : decode cL_law 885 = .ok (.invokevirtual 119, 3) := by decide +kernel
theorem dL_law_888 : decode cL_law 888 = .ok (.aload_n 2, 1) := by decide +kernel
theorem dL_law_889 : decode cL_law 889 = .ok (.invokevirtual 122, 3) := by decide +kernel
theorem dL_law_892 : decode cL_law 892 = .ok (.if_icmp .eq 68, 3) := by decide +kernel
theorem dL_law_895 : decode cL_law 895 = .ok (.iconst 0, 1) := by decide +kernel
theorem dL_law_896 : decode cL_law 896 = .ok (.ireturn, 1) := by decide +kernel
theorem dL_law_897 : decode cL_law 897 = .ok (.aload_n 1, 1) := by decide +kernel
theorem dL_law_898 : decode cL_law 898 = .ok (.invokevirtual 123, 3) := by decide +kernel
theorem dL_law_901 : decode cL_law 901 = .ok (.aload_n 2, 1) := by decide +kernel
theorem dL_law_902 : decode cL_law 902 = .ok (.invokevirtual 126, 3) := by decide +kernel
theorem dL_law_905 : decode cL_law 905 = .ok (.if_icmp .eq 55, 3) := by decide +kernel
theorem dL_law_908 : decode cL_law 908 = .ok (.iconst 0, 1) := by decide +kernel
theorem dL_law_909 : decode cL_law 909 = .ok (.ireturn, 1) := by decide +kernel
theorem dL_law_910 : decode cL_law 910 = .ok (.aload_n 1, 1) := by decide +kernel
theorem dL_law_911 : decode cL_law 911 = .ok (.invokevirtual 127, 3) := by decide +kernel
theorem dL_law_914 : decode cL_law 914 = .ok (.aload_n 2, 1) := by decide +kernel
theorem dL_law_915 : decode cL_law 915 = .ok (.invokevirtual 130, 3) := by decide +kernel
theorem dL_law_918 : decode cL_law 918 = .ok (.if_icmp .eq 42, 3) := by decide +kernel
theorem dL_law_921 : decode cL_law 921 = .ok (.iconst 0, 1) := by decide +kernel
theorem dL_law_922 : decode cL_law 922 = .ok (.ireturn, 1) := by decide +kernel
theorem dL_law_923 : decode cL_law 923 = .ok (.aload_n 1, 1) := by decide +kernel
theorem dL_law_924 : decode cL_law 924 = .ok (.aload_n 0, 1) := by decide +kernel
theorem dL_law_925 : decode cL_law 925 = .ok (.iload_n 3, 1) := by decide +kernel
theorem dL_law_926 : decode cL_law 926 = .ok (.iconst 1, 1) := by decide +kernel
theorem dL_law_927 : decode cL_law 927 = .ok (.iadd, 1) := by decide +kernel
theorem dL_law_928 : decode cL_law 928 = .ok (.iaload, 1) := by decide +kernel
theorem dL_law_929 : decode cL_law 929 = .ok (.invokevirtual 131, 3) := by decide +kernel
theorem dL_law_932 : decode cL_law 932 = .ok (.aload_n 2, 1) := by decide +kernel
theorem dL_law_933 : decode cL_law 933 = .ok (.aload_n 0, 1) := by decide +kernel
theorem dL_law_934 : decode cL_law 934 = .ok (.iload_n 3, 1) := by decide +kernel
theorem dL_law_935 : decode cL_law 935 = .ok (.iconst 1, 1) := by decide +kernel
theorem dL_law_936 : decode cL_law 936 = .ok (.iadd, 1) := by decide +kernel
theorem dL_law_937 : decode cL_law 937 = .ok (.iaload, 1) := by decide +kernel
theorem dL_law_938 : decode cL_law 938 = .ok (.invokevirtual 134, 3) := by decide +kernel
theorem dL_law_941 : decode cL_law 941 = .ok (.if_icmp .eq 19, 3) := by decide +kernel
theorem dL_law_944 : decode cL_law 944 = .ok (.iconst 0, 1) := by decide +kernel
theorem dL_law_945 : decode cL_law 945 = .ok (.ireturn, 1) := by decide +kernel
theorem dL_law_946 : decode cL_law 946 = .ok (.aload_n 1, 1) := by decide +kernel
theorem dL_law_947 : decode cL_law 947 = .ok (.invokevirtual 135, 3) := by decide +kernel
theorem dL_law_950 : decode cL_law 950 = .ok (.aload_n 2, 1) := by decide +kernel
theorem dL_law_951 : decode cL_law 951 = .ok (.invokevirtual 139, 3) := by decide +kernel
theorem dL_law_954 : decode cL_law 954 = .ok (.lcmp, 1) := by decide +kernel
theorem dL_law_955 : decode cL_law 955 = .ok (.ifCond .eq 5, 3) := by decide +kernel
theorem dL_law_958 : decode cL_law 958 = .ok (.iconst 0, 1) := by decide +kernel
theorem dL_law_959 : decode cL_law 959 = .ok (.ireturn, 1) := by decide +kernel
theorem dL_law_960 : decode cL_law 960 = .ok (.iinc 3 5, 3) := by decide +kernel
theorem dL_law_963 : decode cL_law 963 = .ok (.goto (-945), 3) := by decide +kernel
theorem dL_law_966 : decode cL_law 966 = .ok (.iconst 1, 1) := by decide +kernel
theorem dL_law_967 : decode cL_law 967 = .ok (.ireturn, 1) := by decide +kernel
end
section
/-! THE FRAME: an abstract heap of cells with fixed numbers; G: a walk from a point of a method, over every context; E: a method's contract. -/
/-- the good words of the tables -/
def gW : List Cond := lw_tbl.filter goodWord
theorem gW_tbl {w : Cond} (h : w ∈ gW) : w ∈ lw_tbl := (List.mem_filter.mp h).1
theorem gW_good {w : Cond} (h : w ∈ gW) : goodWord w = true := (List.mem_filter.mp h).2
theorem gW_of {w : Cond} (h : w ∈ lw_tbl) (g : goodWord w = true) : w ∈ gW := List.mem_filter.mpr ⟨h, g⟩
/-- a method: name, code, locals, answer, slots of longs and doubles, room (frames, locals, cells, slots) -/
abbrev MM : Type := MethodName × ByteArray × Nat × Option FieldType × List Nat × (Nat × Nat × Nat × Nat)
abbrev mY (M : MM) : MethodName := M.1
abbrev mB (M : MM) : ByteArray := M.2.1
abbrev mL (M : MM) : Nat := M.2.2.1
abbrev mR (M : MM) : Option FieldType := M.2.2.2.1
abbrev mC2 (M : MM) : List Nat := M.2.2.2.2.1
abbrev mFr (M : MM) : Nat := M.2.2.2.2.2.1
abbrev mLo (M : MM) : Nat := M.2.2.2.2.2.2.1
abbrev mCe (M : MM) : Nat := M.2.2.2.2.2.2.2.1
abbrev mSl (M : MM) : Nat := M.2.2.2.2.2.2.2.2
def gR (M : MM) : Room := { frames := mFr M, cells := mCe M, slots := mSl M, locals := mLo M }
def gWs (M : MM) : List Cond := Cond.code (mY M) (mB M) (mL M) (mR M) :: gW
/-- the abstract heap: kinds and lengths of the cells from number 5 on; references (0: null, n + 1: cell n); ints; doubles -/
abbrev XH : Type := (List (Nat × Nat)) × (Nat → Nat → Nat) × (Nat → Nat → Int32) × (Nat → Nat → UInt64)
/-- where it lies: first address, the script, the static arrays; classes; classes of arrays -/
abbrev XX : Type := (Nat × Nat × (Nat → Nat)) × va_G × (Nat → ClassId)
/-- the script: its length, its ints -/
abbrev XS : Type := Nat × (Nat → Int32)
abbrev XL : Type := Nat → Option Value
def xN (x : XX) : Nat := x.1.1
def xB (x : XX) : Nat := x.1.2.1
def xSt (x : XX) : Nat → Nat := x.1.2.2
def xD (x : XX) : va_G := x.2.1
def xCA (x : XX) : Nat → ClassId := x.2.2
def xAd (x : XX) (c : Nat) : Nat := if c = 0 then xB x else if c < 5 then xSt x c else xN x + (c - 5)
def xUp (x : XX) : Value → Value
  | .ref c => .ref (xAd x c)
  | v => v
def xRo (x : XX) (n : Nat) : Option Nat := if n = 0 then none else some (xAd x (n - 1))
/-- what kind of thing a field of a class holds: 0 an int, 1 a double, 2 a reference -/
def xTy (ci k : Nat) : Nat := match (vwCl.getD ci ("", fun _ => ("", "", "", false), 0)).2.1 k |>.2.2.1 with
  | "I" => 0
  | "D" => 1
  | _ => 2
def xFv (x : XX) (h : XH) (c ci k : Nat) : Value := if xTy ci k = 0 then .int (h.2.2.1 c k) else if xTy ci k = 1 then .double (h.2.2.2 c k) else va_rf (xRo x (h.2.1 c k))
def xEn (x : XX) (h : XH) (c : Nat) (q : Nat × Nat) : va_E :=
  if q.1 < 9 then .inr (q.1, (List.range q.2).map (fun k => xFv x h c q.1 k))
  else if q.1 = 12 then .inl (xCA x 12, q.2, .inr (.inr (.inr (.inr (fun i => xRo x (h.2.1 c i))))))
  else .inl (xCA x q.1, q.2, .inl (h.2.2.1 c))
def xWs (x : XX) (h : XH) : va_W := (List.range h.1.length).map (fun i => (xN x + i, xEn x h (i + 5) (h.1.getD i (0, 0))))
def xTys (x : XX) : List (ClassId × FieldType) := [(xCA x 10, .int), (xCA x 11, .boolean), (xCA x 12, .object "PosterSheet$Layout")]
def xA (x : XX) : Nat → Prop := fun q => xN x ≤ q
/-- links of nest mates: fields, methods -/
def nF : List (String × Nat × String × String × String × String) := [("PosterSheet$Layout", 75, "PosterSheet", "LEAST_SETTING", "[I", "PosterSheet"), ("PosterSheet$Layout", 78, "PosterSheet", "MOST_SETTING", "[I", "PosterSheet"), ("PosterSheet$Layout", 81, "PosterSheet", "LEAST_TRAIT", "[I", "PosterSheet"), ("PosterSheet$Layout", 84, "PosterSheet", "MOST_TRAIT", "[I", "PosterSheet")]
def nM : List (String × Nat × MethodName × String) := [("PosterSheet", 28, ⟨"PosterSheet$Scales", "<init>", "()V"⟩, "PosterSheet"), ("PosterSheet$Layout", 60, ⟨"PosterSheet", "within", "(III)Z"⟩, "PosterSheet"), ("PosterSheet$Layout", 68, ⟨"PosterSheet", "goodIf", "(Z)I"⟩, "PosterSheet"), ("PosterSheet$Layout", 142, ⟨"PosterSheet", "isPlace", "(II)Z"⟩, "PosterSheet"), ("PosterSheet$Places", 34, ⟨"PosterSheet", "placeOf", "(II)I"⟩, "PosterSheet"), ("PosterSheet$Places", 48, ⟨"PosterSheet", "distance", "(II)I"⟩, "PosterSheet"), ("PosterSheet$White", 105, ⟨"PosterSheet", "placeOf", "(II)I"⟩, "PosterSheet"), ("PosterSheet$White", 122, ⟨"PosterSheet", "within", "(III)Z"⟩, "PosterSheet"), ("PosterSheet$Series", 25, ⟨"PosterSheet", "within", "(III)Z"⟩, "PosterSheet"), ("PosterSheet$Series", 74, ⟨"PosterSheet", "distance", "(II)I"⟩, "PosterSheet"), ("PosterSheet$Text", 21, ⟨"PosterSheet", "within", "(III)Z"⟩, "PosterSheet")]
/-- the static arrays 1 to 4 -/
def sNm : Nat → String
  | 1 => "LEAST_SETTING"
  | 2 => "MOST_SETTING"
  | 3 => "LEAST_TRAIT"
  | _ => "MOST_TRAIT"
def sRow : Nat → List Int32
  | 1 => [0, 0, 10, 10, 0]
  | 2 => [2, 2, 80, 30, 6]
  | 3 => [0, 1, 1, 1]
  | _ => [1, 6, 4, 4]
/-- what the tables say -/
def xTab (x : XX) (s : State) : Prop := va_K (xD x) vwCl (xTys x) s ∧ (∀ q ∈ nF, va_Nw (.fieldLinkNest q.1 q.2.1 q.2.2.1 q.2.2.2.1 q.2.2.2.2.1 q.2.2.2.2.2) s) ∧ (∀ q ∈ nM, va_Nw (.methodLinkNest q.1 q.2.1 q.2.2.1 q.2.2.2) s) ∧ va_AO "PosterSheet$Layout" s
/-- what lies outside: the script, the static arrays -/
def xExt (x : XX) (sc : XS) (s : State) (H : Heap) : Prop := va_X (xB x) sc.1 sc.2 s H ∧ xB x < xN x ∧ (∀ j, 1 ≤ j → j < 5 → va_T .int (xSt x j) (sRow j).length (fun i => .int ((sRow j).getD i 0)) (xA x) s H ∧ va_Z "PosterSheet" (sNm j) "[I" (.ref (xSt x j)) (xA x) s H)
/-- the heap holds the abstract one -/
def xHp (x : XX) (h : XH) (H : Heap) : Prop := H.size = xN x + h.1.length ∧ va_P (xD x) vwCl (xWs x h) H
def xLR (x : XX) (M : MM) (ls : Array Slot) (L : XL) : Prop := lv_has ls (mL M) [] ∧ ∀ i v, L i = some v → ls[i]? = some (.val (xUp x v)) ∧ (v.category = 2 → i ∈ mC2 M)
def gFix (sc : XS) (M : MM) (x : XX) (p : Program) (s : State) (mI : MethodId) (args : Array Value) (meth : Method) (c : Code) : Prop :=
  p.tables.exec = Jvm.exec ∧ c.code = mB M ∧ c.maxLocals = mL M ∧ s.vm.findClass (mY M).cls = some mI.cls ∧ (∀ w ∈ gW, w.before args s = true) ∧ meth.sig.returnType = mR M ∧ meth.locks = false ∧ meth.name = (mY M).name ∧ xTab x s ∧ xExt x sc s s.heap ∧ xN x ≤ s.heap.size
/-- a return of v at pc -/
def gRet (M : MM) (pc : Nat) : Option Value → Prop
  | none => decode (mB M) pc = .ok (.return_, 1) ∧ mR M = none
  | some (.int z) => decode (mB M) pc = .ok (.ireturn, 1) ∧ (mR M = some .int ∨ (mR M = some .boolean ∧ (z = 0 ∨ z = 1)))
  | some (.long _) => decode (mB M) pc = .ok (.lreturn, 1) ∧ mR M = some .long
  | some (.float _) => decode (mB M) pc = .ok (.freturn, 1) ∧ mR M = some .float
  | some (.double _) => decode (mB M) pc = .ok (.dreturn, 1) ∧ mR M = some .double
  | _ => False
def G (sc : XS) (M : MM) (pc : Nat) (L : XL) (S : List Value) (h : XH) (w : Nat × Nat) (R : Option Value → XH → Prop) : Prop :=
  ∀ (x : XX) (p : Program) (l : Launch) (e : Env) (s : State) (mI : MethodId) (args : Array Value) (below : List Frame) (meth : Method) (c : Code) (Q : State → Prop) (H : Heap) (locs : List Loc) (ls : Array Slot),
    gFix sc M x p s mI args meth c →
    (∀ (v : Option Value) (h' : XH) (H' : Heap) (locs' : List Loc) (pc' : Nat) (ls' : Array Slot) (w' : Nat × Nat), R v h' → xHp x h' H' → va_S (xA x) s.heap H' locs' → gRet M pc' v → w'.1 ≤ mCe M → w'.2 ≤ mSl M → W p l e (gR M) s mI args below meth c H' locs' w'.1 w'.2 Q (F0 mI pc' ls' (v.toList.map (xUp x)))) →
    xHp x h H → va_S (xA x) s.heap H locs → H.size = s.heap.size + w.1 → xLR x M ls L →
    W p l e (gR M) s mI args below meth c H locs w.1 w.2 Q (F0 mI pc ls (S.map (xUp x)))
def xPc (x : XX) (sc : XS) (args : List Value) (h : XH) : Array Value → State → Prop := va_Pc (args.map (xUp x)) (fun U => xTab x U ∧ xExt x sc U U.heap ∧ xHp x h U.heap)
def xQc (x : XX) (h' : XH) (v : Option Value) : Array Value → State → Outcome → State → Prop := fun _ st o t => o = .returned (v.map (xUp x)) ∧ xHp x h' t.heap ∧ va_F (xA x) st t
/-- the contract: with these arguments and this heap the method answers v, and this is the heap behind it -/
def E (M : MM) (args : List Value) (h : XH) (v : Option Value) (h' : XH) : Prop :=
  ∀ (sc : XS) (l : Launch) (x : XX), Met l (mY M) (gWs M) (gR M) (xPc x sc args h) (xQc x h' v) (mCe M) (mSl M) (xA x)
theorem xTab.warm {x : XX} {s U : State} (hW : s.WarmedH U.vm) (h : xTab x s) : xTab x U :=
  ⟨h.1.moved hW.alike, fun q hq => (h.2.1 q hq).warmF hW, fun q hq => (h.2.2.1 q hq).warmM hW, h.2.2.2.moved hW.alike⟩
theorem xA_ext {x : XX} {H0 H : Heap} {locs : List Loc} (hS : va_S (xA x) H0 H locs) : ∀ a : Nat, a < H0.size → ¬ xA x a → H[a]? = H0[a]? := fun a h1 h2 => hS.2.1 a h1 h2
theorem xExt.move {x : XX} {sc : XS} {s U : State} {H0 H : Heap} (hvm : s.vm.Alike U.vm) (hq : ∀ a : Nat, a < H0.size → ¬ xA x a → H[a]? = H0[a]?) (h : xExt x sc s H0) : xExt x sc U H := by
  obtain ⟨⟨scr, h1, h2, h3⟩, hb, h4⟩ := h
  refine ⟨⟨scr, ?_, State.isArrayOf_alike hvm h2, h3⟩, hb, fun j hj hj2 => ⟨((h4 j hj hj2).1.moved hvm).kept hq, (va_Z.moved hvm (h4 j hj hj2).2).kept hq⟩⟩
  rw [hq _ (Array.getElem?_eq_some_iff.mp h1).1 (by unfold xA; omega)]
  exact h1
theorem xWs_get {x : XX} {h : XH} {i : Nat} {q : Nat × Nat} (hi : h.1[i]? = some q) : (xWs x h)[i]? = some (xN x + i, xEn x h (i + 5) q) := by
  have hl := (List.getElem?_eq_some_iff.mp hi).1
  unfold xWs
  rw [List.getElem?_map, List.getElem?_range hl]
  simp [List.getD_eq_getElem?_getD, hi]
theorem xWs_len (x : XX) (h : XH) : (xWs x h).length = h.1.length := by unfold xWs; rw [List.length_map, List.length_range]
theorem xWs_D (x : XX) (h : XH) : va_D (xA x) (xWs x h) := by
  have key : ∀ (i : Nat) (q : Nat × va_E), (xWs x h)[i]? = some q → q.1 = xN x + i := by
    intro i q hq
    have hl : i < h.1.length := by rw [← xWs_len x h]; exact (List.getElem?_eq_some_iff.mp hq).1
    unfold xWs at hq
    rw [List.getElem?_map, List.getElem?_range hl] at hq
    cases hq
    rfl
  refine ⟨fun i j p q hi hj e => ?_, fun k q hk => ?_⟩
  · have a := key i p hi; have b := key j q hj; omega
  · have a := key k q hk; unfold xA; omega
/-- one cell is another, all else is as it was -/
theorem xWs_set {x : XX} {h h' : XH} {i : Nat} {q : Nat × Nat} (hs : h'.1 = h.1) (hi : h.1[i]? = some q) (ho : ∀ (j : Nat) (r : Nat × Nat), j ≠ i → xEn x h' (j + 5) r = xEn x h (j + 5) r) : xWs x h' = (xWs x h).set i (xN x + i, xEn x h' (i + 5) q) := by
  have hl := (List.getElem?_eq_some_iff.mp hi).1
  refine List.ext_getElem? fun j => ?_
  by_cases hj : j < h.1.length
  · have hq : h.1[j]? = some h.1[j] := List.getElem?_eq_getElem hj
    rw [xWs_get (h := h') (q := h.1[j]) (by rw [hs]; exact hq)]
    by_cases e : j = i
    · subst e
      rw [List.getElem?_set_self (by rw [xWs_len]; exact hl)]
      rw [hq] at hi
      cases hi
      rfl
    · rw [List.getElem?_set_ne (Ne.symm e), xWs_get hq, ho j _ e]
  · have a : (xWs x h').length ≤ j := by rw [xWs_len, hs]; omega
    have b : ((xWs x h).set i (xN x + i, xEn x h' (i + 5) q)).length ≤ j := by rw [List.length_set, xWs_len]; omega
    rw [List.getElem?_eq_none a, List.getElem?_eq_none b]
theorem xAd_5 (x : XX) (i : Nat) : xAd x (i + 5) = xN x + i := by
  unfold xAd
  rw [if_neg (by omega), if_neg (by omega)]
  omega
/-- the whole body gives the contract -/
theorem E.of {M : MM} {args : List Value} {h h' : XH} {v : Option Value} (hy : plainName (mY M).cls = true) (hlen : (lg_sl args).length ≤ mL M) (hc2 : ∀ q ∈ lv_args 0 args, q.2.category = 2 → q.1 ∈ mC2 M)
    (body : ∀ sc : XS, G sc M 0 (fun i => (lv_args 0 args).lookup i) [] h (0, 0) (fun r k => r = v ∧ k = h')) : E M args h v h' := by
  intro sc l x
  refine Met.ofW (cc := mB M) (maxL := mL M) (ret := mR M) hy rfl ?_
  intro p e s m as below meth c s₁ B hml hv
  obtain ⟨rfl, hT, hX, hH⟩ := hv
  have hts := atoms_spec (ws := gWs M) B.pre
  have hN : xN x ≤ s.heap.size := by rw [hH.1]; omega
  have hlocks := B.notSynchronized
  have hcat : ∀ u : Value, (xUp x u).category = u.category := fun u => by cases u <;> rfl
  have hsl : (lg_sl (args.map (xUp x))).length = (lg_sl args).length := by
    unfold lg_sl
    rw [List.flatMap_map]
    rw [List.length_flatMap, List.length_flatMap]
    congr 1
    refine List.map_congr_left fun a _ => ?_
    show (if (xUp x a).category = 2 then _ else _ : List Slot).length = _
    rw [hcat]
    split <;> rfl
  have hl := lv_entry (args.map (xUp x)) (n := mL M) (by rw [hsl]; exact hlen)
  rw [lg_entry_eq]
  generalize (lg_sl (args.map (xUp x)) ++ List.replicate (mL M - (lg_sl (args.map (xUp x))).length) Slot.unset).toArray = ls at hl ⊢
  have key : ∀ (k : Nat) (as : List Value) (i : Nat) (u : Value), (lv_args k as).lookup i = some u → (i, u) ∈ lv_args k as ∧ (i, xUp x u) ∈ lv_args k (as.map (xUp x)) := by
    intro k as
    induction as generalizing k with
    | nil => intro i u hu; cases hu
    | cons a t ih =>
      intro i u hu
      simp only [lv_args, List.map_cons, hcat] at hu ⊢
      rw [List.lookup_cons] at hu
      by_cases e : i = k
      · subst e
        simp at hu
        subst hu
        exact ⟨List.mem_cons_self, List.mem_cons_self⟩
      · have e' : (i == k) = false := by simp [e]
        rw [e'] at hu
        obtain ⟨h1, h2⟩ := ih _ i u hu
        exact ⟨List.mem_cons_of_mem _ h1, List.mem_cons_of_mem _ h2⟩
  refine body sc x p l e s m _ below meth c _ s.heap [] ls ⟨B.exec, B.bytes, hml, findClass_of_methodNamed B.named, fun w hw => hts w (List.mem_cons_of_mem _ hw), B.returns, B.notSynchronized, (name_of_methodNamed B.named B.method).1, hT, hX, hN⟩ ?_ hH va_S.rf rfl ⟨⟨hl.1, hl.2.1, fun q hq => absurd hq List.not_mem_nil⟩, fun i u hu => ?_⟩
  · intro r k H' locs' pc' ls' w' hR hH' hS' hret h1 h2
    obtain ⟨rfl, rfl⟩ := hR
    refine W.widen h1 h2 ?_
    match r, hret with
    | none, hret => exact W.vret B.exec B.bytes (B.returns.trans hret.2) (fun t ht hW => ⟨rfl, by rw [ht]; exact hH', hS'.F ht⟩) hS'.2.2 hret.1
    | some (.int z), hret =>
      rcases hret.2 with hr | ⟨hr, hz⟩
      · exact W.iret B.exec B.bytes (B.returns.trans hr) (fun t ht hW => ⟨rfl, by rw [ht]; exact hH', hS'.F ht⟩) hS'.2.2 hret.1
      · exact W.zret (ty := .boolean) B.exec B.bytes (B.returns.trans hr) (by rcases hz with rfl | rfl <;> decide) (fun t ht hW => ⟨rfl, by rw [ht]; exact hH', hS'.F ht⟩) hS'.2.2 hret.1
    | some (.long z), hret => exact W.lret B.exec B.bytes (B.returns.trans hret.2) (fun t ht hW => ⟨rfl, by rw [ht]; exact hH', hS'.F ht⟩) hS'.2.2 hret.1
    | some (.float z), hret => exact W.fret B.exec B.bytes (B.returns.trans hret.2) (fun t ht hW => ⟨rfl, by rw [ht]; exact hH', hS'.F ht⟩) hS'.2.2 hret.1
    | some (.double z), hret => exact W.dret B.exec B.bytes (B.returns.trans hret.2) (fun t ht hW => ⟨rfl, by rw [ht]; exact hH', hS'.F ht⟩) hS'.2.2 hret.1
  · obtain ⟨h1, h2⟩ := key 0 args i u hu
    exact ⟨hl.2.2 _ h2, fun hc => hc2 _ h1 hc⟩
end
section
/-! RULES: one instruction each, out of the kit's rows -/
theorem g_iconst {sc : XS} {M : MM} {pc : Nat} {L : XL} {S : List Value} {h : XH} {w : Nat × Nat} {R : Option Value → XH → Prop} {n : Int} {v : Int32} (hd : decode (mB M) pc = .ok (.iconst n, 1)) (hv : Int32.ofInt n = v) (k : G sc M (pc + 1) L (.int v :: S) h w R) : G sc M pc L (S) h w R := by
  intro x p l e s mI args below meth c Q H locs ls F X hH hS hz hL
  exact lv_iconst F.1 F.2.1 hd hv (k x p l e s mI args below meth c Q H locs ls F X hH hS hz hL)
theorem g_bipush {sc : XS} {M : MM} {pc : Nat} {L : XL} {S : List Value} {h : XH} {w : Nat × Nat} {R : Option Value → XH → Prop} {n : Int} {v : Int32} (hd : decode (mB M) pc = .ok (.bipush n, 2)) (hv : (Int8.ofInt n).toInt32 = v) (k : G sc M (pc + 2) L (.int v :: S) h w R) : G sc M pc L (S) h w R := by
  intro x p l e s mI args below meth c Q H locs ls F X hH hS hz hL
  exact lv_bipush F.1 F.2.1 hd hv (k x p l e s mI args below meth c Q H locs ls F X hH hS hz hL)
theorem g_sipush {sc : XS} {M : MM} {pc : Nat} {L : XL} {S : List Value} {h : XH} {w : Nat × Nat} {R : Option Value → XH → Prop} {n : Int} {v : Int32} (hd : decode (mB M) pc = .ok (.sipush n, 3)) (hv : (Int16.ofInt n).toInt32 = v) (k : G sc M (pc + 3) L (.int v :: S) h w R) : G sc M pc L (S) h w R := by
  intro x p l e s mI args below meth c Q H locs ls F X hH hS hz hL
  exact lv_sipush F.1 F.2.1 hd hv (k x p l e s mI args below meth c Q H locs ls F X hH hS hz hL)
theorem g_lconst {sc : XS} {M : MM} {pc : Nat} {L : XL} {S : List Value} {h : XH} {w : Nat × Nat} {R : Option Value → XH → Prop} {n : Fin 2} {v : Int64} (hd : decode (mB M) pc = .ok (.lconst n, 1)) (hv : Int64.ofNat (n : Nat) = v) (k : G sc M (pc + 1) L (.long v :: S) h w R) : G sc M pc L (S) h w R := by
  intro x p l e s mI args below meth c Q H locs ls F X hH hS hz hL
  exact lv_lconst F.1 F.2.1 hd hv (k x p l e s mI args below meth c Q H locs ls F X hH hS hz hL)
theorem g_fconst0 {sc : XS} {M : MM} {pc : Nat} {L : XL} {S : List Value} {h : XH} {w : Nat × Nat} {R : Option Value → XH → Prop}  (hd : decode (mB M) pc = .ok (.fconst 0, 1))  (k : G sc M (pc + 1) L (.float FP.fconst0 :: S) h w R) : G sc M pc L (S) h w R := by
  intro x p l e s mI args below meth c Q H locs ls F X hH hS hz hL
  exact lv_fconst0 F.1 F.2.1 hd (k x p l e s mI args below meth c Q H locs ls F X hH hS hz hL)
theorem g_fconst1 {sc : XS} {M : MM} {pc : Nat} {L : XL} {S : List Value} {h : XH} {w : Nat × Nat} {R : Option Value → XH → Prop}  (hd : decode (mB M) pc = .ok (.fconst 1, 1))  (k : G sc M (pc + 1) L (.float FP.fconst1 :: S) h w R) : G sc M pc L (S) h w R := by
  intro x p l e s mI args below meth c Q H locs ls F X hH hS hz hL
  exact lv_fconst1 F.1 F.2.1 hd (k x p l e s mI args below meth c Q H locs ls F X hH hS hz hL)
theorem g_fconst2 {sc : XS} {M : MM} {pc : Nat} {L : XL} {S : List Value} {h : XH} {w : Nat × Nat} {R : Option Value → XH → Prop}  (hd : decode (mB M) pc = .ok (.fconst 2, 1))  (k : G sc M (pc + 1) L (.float FP.fconst2 :: S) h w R) : G sc M pc L (S) h w R := by
  intro x p l e s mI args below meth c Q H locs ls F X hH hS hz hL
  exact lv_fconst2 F.1 F.2.1 hd (k x p l e s mI args below meth c Q H locs ls F X hH hS hz hL)
theorem g_dconst0 {sc : XS} {M : MM} {pc : Nat} {L : XL} {S : List Value} {h : XH} {w : Nat × Nat} {R : Option Value → XH → Prop}  (hd : decode (mB M) pc = .ok (.dconst 0, 1))  (k : G sc M (pc + 1) L (.double FP.dconst0 :: S) h w R) : G sc M pc L (S) h w R := by
  intro x p l e s mI args below meth c Q H locs ls F X hH hS hz hL
  exact lv_dconst0 F.1 F.2.1 hd (k x p l e s mI args below meth c Q H locs ls F X hH hS hz hL)
theorem g_dconst1 {sc : XS} {M : MM} {pc : Nat} {L : XL} {S : List Value} {h : XH} {w : Nat × Nat} {R : Option Value → XH → Prop}  (hd : decode (mB M) pc = .ok (.dconst 1, 1))  (k : G sc M (pc + 1) L (.double FP.dconst1 :: S) h w R) : G sc M pc L (S) h w R := by
  intro x p l e s mI args below meth c Q H locs ls F X hH hS hz hL
  exact lv_dconst1 F.1 F.2.1 hd (k x p l e s mI args below meth c Q H locs ls F X hH hS hz hL)
theorem g_iload_n {sc : XS} {M : MM} {pc : Nat} {L : XL} {S : List Value} {h : XH} {w : Nat × Nat} {R : Option Value → XH → Prop} {i : Fin 4} {z : Int32} (hd : decode (mB M) pc = .ok (.iload_n i, 1)) (hl : L i = some (.int z)) (k : G sc M (pc + 1) L (.int z :: S) h w R) : G sc M pc L (S) h w R := by
  intro x p l e s mI args below meth c Q H locs ls F X hH hS hz hL
  exact lv_iload_n F.1 F.2.1 hd rfl (hL.2 _ _ hl).1 (k x p l e s mI args below meth c Q H locs ls F X hH hS hz hL)
theorem g_iload {sc : XS} {M : MM} {pc : Nat} {L : XL} {S : List Value} {h : XH} {w : Nat × Nat} {R : Option Value → XH → Prop} {i : Nat} {z : Int32} (hd : decode (mB M) pc = .ok (.iload i, 2)) (hl : L i = some (.int z)) (k : G sc M (pc + 2) L (.int z :: S) h w R) : G sc M pc L (S) h w R := by
  intro x p l e s mI args below meth c Q H locs ls F X hH hS hz hL
  exact lv_iload F.1 F.2.1 hd (hL.2 _ _ hl).1 (k x p l e s mI args below meth c Q H locs ls F X hH hS hz hL)
theorem g_lload_n {sc : XS} {M : MM} {pc : Nat} {L : XL} {S : List Value} {h : XH} {w : Nat × Nat} {R : Option Value → XH → Prop} {i : Fin 4} {z : Int64} (hd : decode (mB M) pc = .ok (.lload_n i, 1)) (hl : L i = some (.long z)) (k : G sc M (pc + 1) L (.long z :: S) h w R) : G sc M pc L (S) h w R := by
  intro x p l e s mI args below meth c Q H locs ls F X hH hS hz hL
  exact lv_lload_n F.1 F.2.1 hd rfl (hL.2 _ _ hl).1 (k x p l e s mI args below meth c Q H locs ls F X hH hS hz hL)
theorem g_lload {sc : XS} {M : MM} {pc : Nat} {L : XL} {S : List Value} {h : XH} {w : Nat × Nat} {R : Option Value → XH → Prop} {i : Nat} {z : Int64} (hd : decode (mB M) pc = .ok (.lload i, 2)) (hl : L i = some (.long z)) (k : G sc M (pc + 2) L (.long z :: S) h w R) : G sc M pc L (S) h w R := by
  intro x p l e s mI args below meth c Q H locs ls F X hH hS hz hL
  exact lv_lload F.1 F.2.1 hd (hL.2 _ _ hl).1 (k x p l e s mI args below meth c Q H locs ls F X hH hS hz hL)
theorem g_fload_n {sc : XS} {M : MM} {pc : Nat} {L : XL} {S : List Value} {h : XH} {w : Nat × Nat} {R : Option Value → XH → Prop} {i : Fin 4} {z : UInt32} (hd : decode (mB M) pc = .ok (.fload_n i, 1)) (hl : L i = some (.float z)) (k : G sc M (pc + 1) L (.float z :: S) h w R) : G sc M pc L (S) h w R := by
  intro x p l e s mI args below meth c Q H locs ls F X hH hS hz hL
  exact lv_fload_n F.1 F.2.1 hd rfl (hL.2 _ _ hl).1 (k x p l e s mI args below meth c Q H locs ls F X hH hS hz hL)
theorem g_fload {sc : XS} {M : MM} {pc : Nat} {L : XL} {S : List Value} {h : XH} {w : Nat × Nat} {R : Option Value → XH → Prop} {i : Nat} {z : UInt32} (hd : decode (mB M) pc = .ok (.fload i, 2)) (hl : L i = some (.float z)) (k : G sc M (pc + 2) L (.float z :: S) h w R) : G sc M pc L (S) h w R := by
  intro x p l e s mI args below meth c Q H locs ls F X hH hS hz hL
  exact lv_fload F.1 F.2.1 hd (hL.2 _ _ hl).1 (k x p l e s mI args below meth c Q H locs ls F X hH hS hz hL)
theorem g_dload_n {sc : XS} {M : MM} {pc : Nat} {L : XL} {S : List Value} {h : XH} {w : Nat × Nat} {R : Option Value → XH → Prop} {i : Fin 4} {z : UInt64} (hd : decode (mB M) pc = .ok (.dload_n i, 1)) (hl : L i = some (.double z)) (k : G sc M (pc + 1) L (.double z :: S) h w R) : G sc M pc L (S) h w R := by
  intro x p l e s mI args below meth c Q H locs ls F X hH hS hz hL
  exact lv_dload_n F.1 F.2.1 hd rfl (hL.2 _ _ hl).1 (k x p l e s mI args below meth c Q H locs ls F X hH hS hz hL)
theorem g_dload {sc : XS} {M : MM} {pc : Nat} {L : XL} {S : List Value} {h : XH} {w : Nat × Nat} {R : Option Value → XH → Prop} {i : Nat} {z : UInt64} (hd : decode (mB M) pc = .ok (.dload i, 2)) (hl : L i = some (.double z)) (k : G sc M (pc + 2) L (.double z :: S) h w R) : G sc M pc L (S) h w R := by
  intro x p l e s mI args below meth c Q H locs ls F X hH hS hz hL
  exact lv_dload F.1 F.2.1 hd (hL.2 _ _ hl).1 (k x p l e s mI args below meth c Q H locs ls F X hH hS hz hL)
theorem g_aload_n {sc : XS} {M : MM} {pc : Nat} {L : XL} {S : List Value} {h : XH} {w : Nat × Nat} {R : Option Value → XH → Prop} {i : Fin 4} {z : Nat} (hd : decode (mB M) pc = .ok (.aload_n i, 1)) (hl : L i = some (.ref z)) (k : G sc M (pc + 1) L (.ref z :: S) h w R) : G sc M pc L (S) h w R := by
  intro x p l e s mI args below meth c Q H locs ls F X hH hS hz hL
  exact lv_aload_n F.1 F.2.1 hd rfl (hL.2 _ _ hl).1 (k x p l e s mI args below meth c Q H locs ls F X hH hS hz hL)
theorem g_aload {sc : XS} {M : MM} {pc : Nat} {L : XL} {S : List Value} {h : XH} {w : Nat × Nat} {R : Option Value → XH → Prop} {i : Nat} {z : Nat} (hd : decode (mB M) pc = .ok (.aload i, 2)) (hl : L i = some (.ref z)) (k : G sc M (pc + 2) L (.ref z :: S) h w R) : G sc M pc L (S) h w R := by
  intro x p l e s mI args below meth c Q H locs ls F X hH hS hz hL
  exact lv_aload F.1 F.2.1 hd (hL.2 _ _ hl).1 (k x p l e s mI args below meth c Q H locs ls F X hH hS hz hL)
def sL (L : XL) (i : Nat) (v : Value) : XL := fun j => if j = i then some v else L j
def sL2 (L : XL) (i : Nat) (v : Value) : XL := fun j => if j = i then some v else if j = i + 1 then none else L j
def okS (M : MM) (i : Nat) : Bool := decide (i < mL M) && (decide (i = 0) || !(mC2 M).contains (i - 1))
def okS2 (M : MM) (i : Nat) : Bool := decide (i + 1 < mL M) && (mC2 M).contains i && (decide (i = 0) || !(mC2 M).contains (i - 1))
def xLv (x : XX) (M : MM) (L : XL) : List (Nat × Value) := (List.range (mL M)).filterMap (fun j => (L j).map (fun v => (j, xUp x v)))
theorem xLv_in {x : XX} {M : MM} {L : XL} {j : Nat} {v : Value} (hj : j < mL M) (h : L j = some v) : (j, xUp x v) ∈ xLv x M L := List.mem_filterMap.mpr ⟨j, List.mem_range.mpr hj, by rw [h]; rfl⟩
theorem xLR.has {x : XX} {M : MM} {ls : Array Slot} {L : XL} (h : xLR x M ls L) : lv_has ls (mL M) (xLv x M L) := by
  refine ⟨h.1.1, h.1.2.1, fun q hq => ?_⟩
  obtain ⟨j, -, hj⟩ := List.mem_filterMap.mp hq
  cases hv : L j with
  | none => rw [hv] at hj; cases hj
  | some v => rw [hv] at hj; cases hj; exact (h.2 j v hv).1
theorem xLR.lt {x : XX} {M : MM} {ls : Array Slot} {L : XL} (h : xLR x M ls L) {j : Nat} {v : Value} (hj : L j = some v) : j < mL M := by
  have := (Array.getElem?_eq_some_iff.mp (h.2 j v hj).1).1
  rw [h.1.1] at this
  exact this
theorem xUp_cat (x : XX) (u : Value) : (xUp x u).category = u.category := by cases u <;> rfl
theorem okS_lt {M : MM} {i : Nat} (h : okS M i = true) : i < mL M := by unfold okS at h; simp at h; exact h.1
theorem okS2_lt {M : MM} {i : Nat} (h : okS2 M i = true) : i + 1 < mL M := by unfold okS2 at h; simp at h; exact h.1.1
theorem okS_no {M : MM} {i j : Nat} (h : okS M i = true) (e : j + 1 = i) : ¬ j ∈ mC2 M := by
  unfold okS at h
  simp at h
  rcases h.2 with h | h
  · omega
  · rw [← e] at h; exact h
theorem okS2_no {M : MM} {i j : Nat} (h : okS2 M i = true) (e : j + 1 = i) : ¬ j ∈ mC2 M := by
  unfold okS2 at h
  simp at h
  rcases h.2 with h | h
  · omega
  · rw [← e] at h; exact h
theorem okS2_in {M : MM} {i : Nat} (h : okS2 M i = true) : i ∈ mC2 M := by
  unfold okS2 at h
  simp at h
  exact h.1.2
theorem xLR.set1 {x : XX} {M : MM} {ls ls' : Array Slot} {L : XL} {i : Nat} {v u : Value} (h : xLR x M ls L) (hi : okS M i = true) (hc : ¬ v.category = 2) (hu : u = xUp x v) (h' : lv_has ls' (mL M) ((i, u) :: (xLv x M L).filter (fun q => !(q.1 == i) && !(q.1 + 1 == i && q.2.category == 2)))) : xLR x M ls' (sL L i v) := by
  subst hu
  refine ⟨⟨h'.1, h'.2.1, fun q hq => absurd hq List.not_mem_nil⟩, fun j t hj => ?_⟩
  unfold sL at hj
  by_cases e : j = i
  · rw [if_pos e] at hj
    cases hj
    subst e
    exact ⟨h'.2.2 _ List.mem_cons_self, fun q => absurd q hc⟩
  · rw [if_neg e] at hj
    obtain ⟨h1, h2⟩ := h.2 j t hj
    refine ⟨h'.2.2 (j, xUp x t) (List.mem_cons_of_mem _ (List.mem_filter.mpr ⟨xLv_in (h.lt hj) hj, ?_⟩)), h2⟩
    by_cases e2 : j + 1 = i
    · have : ¬ t.category = 2 := fun q => okS_no hi e2 (h2 q)
      simp [e, xUp_cat, this]
    · simp [e, e2]
theorem xLR.set2 {x : XX} {M : MM} {ls ls' : Array Slot} {L : XL} {i : Nat} {v u : Value} (h : xLR x M ls L) (hi : okS2 M i = true) (hu : u = xUp x v) (h' : lv_has ls' (mL M) ((i, u) :: (xLv x M L).filter (fun q => !(q.1 == i) && (!(q.1 == i + 1) && !(q.1 + 1 == i && q.2.category == 2))))) : xLR x M ls' (sL2 L i v) := by
  subst hu
  refine ⟨⟨h'.1, h'.2.1, fun q hq => absurd hq List.not_mem_nil⟩, fun j t hj => ?_⟩
  unfold sL2 at hj
  by_cases e : j = i
  · rw [if_pos e] at hj
    cases hj
    subst e
    exact ⟨h'.2.2 _ List.mem_cons_self, fun _ => okS2_in hi⟩
  · rw [if_neg e] at hj
    by_cases e3 : j = i + 1
    · rw [if_pos e3] at hj; cases hj
    · rw [if_neg e3] at hj
      obtain ⟨h1, h2⟩ := h.2 j t hj
      refine ⟨h'.2.2 (j, xUp x t) (List.mem_cons_of_mem _ (List.mem_filter.mpr ⟨xLv_in (h.lt hj) hj, ?_⟩)), h2⟩
      by_cases e2 : j + 1 = i
      · have : ¬ t.category = 2 := fun q => okS2_no hi e2 (h2 q)
        simp [e, e3, xUp_cat, this]
      · simp [e, e2, e3]
theorem g_istore_n {sc : XS} {M : MM} {pc : Nat} {L : XL} {S : List Value} {h : XH} {w : Nat × Nat} {R : Option Value → XH → Prop} {i : Fin 4} {z : Int32} (hd : decode (mB M) pc = .ok (.istore_n i, 1)) (ho : okS M i = true) (k : G sc M (pc + 1) (sL L i (.int z)) S h w R) : G sc M pc L (.int z :: S) h w R := by
  intro x p l e s mI args below meth c Q H locs ls F X hH hS hz hL
  exact lv_istore_n F.1 F.2.1 hd rfl hL.has (okS_lt ho) rfl (fun ls' hl => k x p l e s mI args below meth c Q H locs ls' F X hH hS hz (hL.set1 ho (show ¬ (1 = 2) by decide) rfl hl))
theorem g_istore {sc : XS} {M : MM} {pc : Nat} {L : XL} {S : List Value} {h : XH} {w : Nat × Nat} {R : Option Value → XH → Prop} {i : Nat} {z : Int32} (hd : decode (mB M) pc = .ok (.istore i, 2)) (ho : okS M i = true) (k : G sc M (pc + 2) (sL L i (.int z)) S h w R) : G sc M pc L (.int z :: S) h w R := by
  intro x p l e s mI args below meth c Q H locs ls F X hH hS hz hL
  exact lv_istore F.1 F.2.1 hd hL.has (okS_lt ho) rfl (fun ls' hl => k x p l e s mI args below meth c Q H locs ls' F X hH hS hz (hL.set1 ho (show ¬ (1 = 2) by decide) rfl hl))
theorem g_fstore_n {sc : XS} {M : MM} {pc : Nat} {L : XL} {S : List Value} {h : XH} {w : Nat × Nat} {R : Option Value → XH → Prop} {i : Fin 4} {z : UInt32} (hd : decode (mB M) pc = .ok (.fstore_n i, 1)) (ho : okS M i = true) (k : G sc M (pc + 1) (sL L i (.float z)) S h w R) : G sc M pc L (.float z :: S) h w R := by
  intro x p l e s mI args below meth c Q H locs ls F X hH hS hz hL
  exact lv_fstore_n F.1 F.2.1 hd rfl hL.has (okS_lt ho) rfl (fun ls' hl => k x p l e s mI args below meth c Q H locs ls' F X hH hS hz (hL.set1 ho (show ¬ (1 = 2) by decide) rfl hl))
theorem g_fstore {sc : XS} {M : MM} {pc : Nat} {L : XL} {S : List Value} {h : XH} {w : Nat × Nat} {R : Option Value → XH → Prop} {i : Nat} {z : UInt32} (hd : decode (mB M) pc = .ok (.fstore i, 2)) (ho : okS M i = true) (k : G sc M (pc + 2) (sL L i (.float z)) S h w R) : G sc M pc L (.float z :: S) h w R := by
  intro x p l e s mI args below meth c Q H locs ls F X hH hS hz hL
  exact lv_fstore F.1 F.2.1 hd hL.has (okS_lt ho) rfl (fun ls' hl => k x p l e s mI args below meth c Q H locs ls' F X hH hS hz (hL.set1 ho (show ¬ (1 = 2) by decide) rfl hl))
theorem g_astore_n {sc : XS} {M : MM} {pc : Nat} {L : XL} {S : List Value} {h : XH} {w : Nat × Nat} {R : Option Value → XH → Prop} {i : Fin 4} {z : Nat} (hd : decode (mB M) pc = .ok (.astore_n i, 1)) (ho : okS M i = true) (k : G sc M (pc + 1) (sL L i (.ref z)) S h w R) : G sc M pc L (.ref z :: S) h w R := by
  intro x p l e s mI args below meth c Q H locs ls F X hH hS hz hL
  exact lv_astore_n F.1 F.2.1 hd rfl hL.has (okS_lt ho) rfl (fun ls' hl => k x p l e s mI args below meth c Q H locs ls' F X hH hS hz (hL.set1 ho (show ¬ (1 = 2) by decide) rfl hl))
theorem g_astore {sc : XS} {M : MM} {pc : Nat} {L : XL} {S : List Value} {h : XH} {w : Nat × Nat} {R : Option Value → XH → Prop} {i : Nat} {z : Nat} (hd : decode (mB M) pc = .ok (.astore i, 2)) (ho : okS M i = true) (k : G sc M (pc + 2) (sL L i (.ref z)) S h w R) : G sc M pc L (.ref z :: S) h w R := by
  intro x p l e s mI args below meth c Q H locs ls F X hH hS hz hL
  exact lv_astore F.1 F.2.1 hd hL.has (okS_lt ho) rfl (fun ls' hl => k x p l e s mI args below meth c Q H locs ls' F X hH hS hz (hL.set1 ho (show ¬ (1 = 2) by decide) rfl hl))
theorem g_lstore_n {sc : XS} {M : MM} {pc : Nat} {L : XL} {S : List Value} {h : XH} {w : Nat × Nat} {R : Option Value → XH → Prop} {i : Fin 4} {z : Int64} (hd : decode (mB M) pc = .ok (.lstore_n i, 1)) (ho : okS2 M i = true) (k : G sc M (pc + 1) (sL2 L i (.long z)) S h w R) : G sc M pc L (.long z :: S) h w R := by
  intro x p l e s mI args below meth c Q H locs ls F X hH hS hz hL
  exact lv_lstore_n F.1 F.2.1 hd rfl hL.has (okS2_lt ho) rfl (fun ls' hl => k x p l e s mI args below meth c Q H locs ls' F X hH hS hz (hL.set2 ho rfl hl))
theorem g_lstore {sc : XS} {M : MM} {pc : Nat} {L : XL} {S : List Value} {h : XH} {w : Nat × Nat} {R : Option Value → XH → Prop} {i : Nat} {z : Int64} (hd : decode (mB M) pc = .ok (.lstore i, 2)) (ho : okS2 M i = true) (k : G sc M (pc + 2) (sL2 L i (.long z)) S h w R) : G sc M pc L (.long z :: S) h w R := by
  intro x p l e s mI args below meth c Q H locs ls F X hH hS hz hL
  exact lv_lstore F.1 F.2.1 hd hL.has (okS2_lt ho) rfl (fun ls' hl => k x p l e s mI args below meth c Q H locs ls' F X hH hS hz (hL.set2 ho rfl hl))
theorem g_dstore_n {sc : XS} {M : MM} {pc : Nat} {L : XL} {S : List Value} {h : XH} {w : Nat × Nat} {R : Option Value → XH → Prop} {i : Fin 4} {z : UInt64} (hd : decode (mB M) pc = .ok (.dstore_n i, 1)) (ho : okS2 M i = true) (k : G sc M (pc + 1) (sL2 L i (.double z)) S h w R) : G sc M pc L (.double z :: S) h w R := by
  intro x p l e s mI args below meth c Q H locs ls F X hH hS hz hL
  exact lv_dstore_n F.1 F.2.1 hd rfl hL.has (okS2_lt ho) rfl (fun ls' hl => k x p l e s mI args below meth c Q H locs ls' F X hH hS hz (hL.set2 ho rfl hl))
theorem g_dstore {sc : XS} {M : MM} {pc : Nat} {L : XL} {S : List Value} {h : XH} {w : Nat × Nat} {R : Option Value → XH → Prop} {i : Nat} {z : UInt64} (hd : decode (mB M) pc = .ok (.dstore i, 2)) (ho : okS2 M i = true) (k : G sc M (pc + 2) (sL2 L i (.double z)) S h w R) : G sc M pc L (.double z :: S) h w R := by
  intro x p l e s mI args below meth c Q H locs ls F X hH hS hz hL
  exact lv_dstore F.1 F.2.1 hd hL.has (okS2_lt ho) rfl (fun ls' hl => k x p l e s mI args below meth c Q H locs ls' F X hH hS hz (hL.set2 ho rfl hl))
theorem g_iinc {sc : XS} {M : MM} {pc : Nat} {L : XL} {S : List Value} {h : XH} {w : Nat × Nat} {R : Option Value → XH → Prop} {i : Nat} {n : Int} {z v : Int32} (hd : decode (mB M) pc = .ok (.iinc i n, 3)) (ho : okS M i = true) (hl : L i = some (.int z)) (hv : z + Int32.ofInt n = v) (k : G sc M (pc + 3) (sL L i (.int v)) S h w R) : G sc M pc L S h w R := by
  intro x p l e s mI args below meth c Q H locs ls F X hH hS hz hL
  have h9 : lv_has ls (mL M) ((i, .int z) :: xLv x M L) := ⟨hL.1.1, hL.1.2.1, fun q hq => by
    rcases List.mem_cons.mp hq with rfl | hq
    · exact (hL.2 _ _ hl).1
    · exact hL.has.2.2 q hq⟩
  refine lv_iinc F.1 F.2.1 hd h9 (k := 0) rfl hv (okS_lt ho) rfl (fun ls' hl' => k x p l e s mI args below meth c Q H locs ls' F X hH hS hz (hL.set1 ho (show ¬ (1 = 2) by decide) (show Value.int v = xUp x (.int v) from rfl) ?_))
  simpa [xUp] using hl'
theorem g_iadd {sc : XS} {M : MM} {pc : Nat} {L : XL} {S : List Value} {h : XH} {w : Nat × Nat} {R : Option Value → XH → Prop} {y z : Int32} (hd : decode (mB M) pc = .ok (.iadd, 1))  (k : G sc M (pc + 1) L (.int (z + y) :: S) h w R) : G sc M pc L (.int y :: .int z :: S) h w R := by
  intro x p l e s mI args below meth c Q H locs ls F X hH hS hz hL
  exact lv_iadd F.1 F.2.1 hd (k x p l e s mI args below meth c Q H locs ls F X hH hS hz hL)
theorem g_isub {sc : XS} {M : MM} {pc : Nat} {L : XL} {S : List Value} {h : XH} {w : Nat × Nat} {R : Option Value → XH → Prop} {y z : Int32} (hd : decode (mB M) pc = .ok (.isub, 1))  (k : G sc M (pc + 1) L (.int (z - y) :: S) h w R) : G sc M pc L (.int y :: .int z :: S) h w R := by
  intro x p l e s mI args below meth c Q H locs ls F X hH hS hz hL
  exact lv_isub F.1 F.2.1 hd (k x p l e s mI args below meth c Q H locs ls F X hH hS hz hL)
theorem g_imul {sc : XS} {M : MM} {pc : Nat} {L : XL} {S : List Value} {h : XH} {w : Nat × Nat} {R : Option Value → XH → Prop} {y z : Int32} (hd : decode (mB M) pc = .ok (.imul, 1))  (k : G sc M (pc + 1) L (.int (z * y) :: S) h w R) : G sc M pc L (.int y :: .int z :: S) h w R := by
  intro x p l e s mI args below meth c Q H locs ls F X hH hS hz hL
  exact lv_imul F.1 F.2.1 hd (k x p l e s mI args below meth c Q H locs ls F X hH hS hz hL)
theorem g_iand {sc : XS} {M : MM} {pc : Nat} {L : XL} {S : List Value} {h : XH} {w : Nat × Nat} {R : Option Value → XH → Prop} {y z : Int32} (hd : decode (mB M) pc = .ok (.iand, 1))  (k : G sc M (pc + 1) L (.int (z &&& y) :: S) h w R) : G sc M pc L (.int y :: .int z :: S) h w R := by
  intro x p l e s mI args below meth c Q H locs ls F X hH hS hz hL
  exact lv_iand F.1 F.2.1 hd (k x p l e s mI args below meth c Q H locs ls F X hH hS hz hL)
theorem g_ior {sc : XS} {M : MM} {pc : Nat} {L : XL} {S : List Value} {h : XH} {w : Nat × Nat} {R : Option Value → XH → Prop} {y z : Int32} (hd : decode (mB M) pc = .ok (.ior, 1))  (k : G sc M (pc + 1) L (.int (z ||| y) :: S) h w R) : G sc M pc L (.int y :: .int z :: S) h w R := by
  intro x p l e s mI args below meth c Q H locs ls F X hH hS hz hL
  exact lv_ior F.1 F.2.1 hd (k x p l e s mI args below meth c Q H locs ls F X hH hS hz hL)
theorem g_ixor {sc : XS} {M : MM} {pc : Nat} {L : XL} {S : List Value} {h : XH} {w : Nat × Nat} {R : Option Value → XH → Prop} {y z : Int32} (hd : decode (mB M) pc = .ok (.ixor, 1))  (k : G sc M (pc + 1) L (.int (z ^^^ y) :: S) h w R) : G sc M pc L (.int y :: .int z :: S) h w R := by
  intro x p l e s mI args below meth c Q H locs ls F X hH hS hz hL
  exact lv_ixor F.1 F.2.1 hd (k x p l e s mI args below meth c Q H locs ls F X hH hS hz hL)
theorem g_ishl {sc : XS} {M : MM} {pc : Nat} {L : XL} {S : List Value} {h : XH} {w : Nat × Nat} {R : Option Value → XH → Prop} {y z : Int32} (hd : decode (mB M) pc = .ok (.ishl, 1))  (k : G sc M (pc + 1) L (.int (z <<< (y &&& 31)) :: S) h w R) : G sc M pc L (.int y :: .int z :: S) h w R := by
  intro x p l e s mI args below meth c Q H locs ls F X hH hS hz hL
  exact lv_ishl F.1 F.2.1 hd (k x p l e s mI args below meth c Q H locs ls F X hH hS hz hL)
theorem g_ishr {sc : XS} {M : MM} {pc : Nat} {L : XL} {S : List Value} {h : XH} {w : Nat × Nat} {R : Option Value → XH → Prop} {y z : Int32} (hd : decode (mB M) pc = .ok (.ishr, 1))  (k : G sc M (pc + 1) L (.int (z >>> (y &&& 31)) :: S) h w R) : G sc M pc L (.int y :: .int z :: S) h w R := by
  intro x p l e s mI args below meth c Q H locs ls F X hH hS hz hL
  exact lv_ishr F.1 F.2.1 hd (k x p l e s mI args below meth c Q H locs ls F X hH hS hz hL)
theorem g_idiv {sc : XS} {M : MM} {pc : Nat} {L : XL} {S : List Value} {h : XH} {w : Nat × Nat} {R : Option Value → XH → Prop} {y z : Int32} (hd : decode (mB M) pc = .ok (.idiv, 1)) (hne : ¬ y = 0) (k : G sc M (pc + 1) L (.int (z / y) :: S) h w R) : G sc M pc L (.int y :: .int z :: S) h w R := by
  intro x p l e s mI args below meth c Q H locs ls F X hH hS hz hL
  exact lv_idiv F.1 F.2.1 hd hne (k x p l e s mI args below meth c Q H locs ls F X hH hS hz hL)
theorem g_irem {sc : XS} {M : MM} {pc : Nat} {L : XL} {S : List Value} {h : XH} {w : Nat × Nat} {R : Option Value → XH → Prop} {y z : Int32} (hd : decode (mB M) pc = .ok (.irem, 1)) (hne : ¬ y = 0) (k : G sc M (pc + 1) L (.int (z - z / y * y) :: S) h w R) : G sc M pc L (.int y :: .int z :: S) h w R := by
  intro x p l e s mI args below meth c Q H locs ls F X hH hS hz hL
  exact lv_irem F.1 F.2.1 hd hne (k x p l e s mI args below meth c Q H locs ls F X hH hS hz hL)
theorem g_ineg {sc : XS} {M : MM} {pc : Nat} {L : XL} {S : List Value} {h : XH} {w : Nat × Nat} {R : Option Value → XH → Prop} {z : Int32} (hd : decode (mB M) pc = .ok (.ineg, 1))  (k : G sc M (pc + 1) L (.int (-z) :: S) h w R) : G sc M pc L (.int z :: S) h w R := by
  intro x p l e s mI args below meth c Q H locs ls F X hH hS hz hL
  exact lv_ineg F.1 F.2.1 hd (k x p l e s mI args below meth c Q H locs ls F X hH hS hz hL)
theorem g_iushr {sc : XS} {M : MM} {pc : Nat} {L : XL} {S : List Value} {h : XH} {w : Nat × Nat} {R : Option Value → XH → Prop} {y z : Int32} (hd : decode (mB M) pc = .ok (.iushr, 1))  (k : G sc M (pc + 1) L (.int (z.toUInt32 >>> (y.toUInt32 &&& Int32.toUInt32 31)).toInt32 :: S) h w R) : G sc M pc L (.int y :: .int z :: S) h w R := by
  intro x p l e s mI args below meth c Q H locs ls F X hH hS hz hL
  exact lv_iushr F.1 F.2.1 hd rfl (k x p l e s mI args below meth c Q H locs ls F X hH hS hz hL)
theorem g_lshl {sc : XS} {M : MM} {pc : Nat} {L : XL} {S : List Value} {h : XH} {w : Nat × Nat} {R : Option Value → XH → Prop} {y : Int32} {z : Int64} (hd : decode (mB M) pc = .ok (.lshl, 1))  (k : G sc M (pc + 1) L (.long (z <<< (y.toInt64 &&& 63)) :: S) h w R) : G sc M pc L (.int y :: .long z :: S) h w R := by
  intro x p l e s mI args below meth c Q H locs ls F X hH hS hz hL
  exact lv_lshl F.1 F.2.1 hd rfl (k x p l e s mI args below meth c Q H locs ls F X hH hS hz hL)
theorem g_i2l {sc : XS} {M : MM} {pc : Nat} {L : XL} {S : List Value} {h : XH} {w : Nat × Nat} {R : Option Value → XH → Prop} {z : Int32} (hd : decode (mB M) pc = .ok (.i2l, 1))  (k : G sc M (pc + 1) L (.long z.toInt64 :: S) h w R) : G sc M pc L (.int z :: S) h w R := by
  intro x p l e s mI args below meth c Q H locs ls F X hH hS hz hL
  exact lv_i2l F.1 F.2.1 hd rfl (k x p l e s mI args below meth c Q H locs ls F X hH hS hz hL)
theorem g_ladd {sc : XS} {M : MM} {pc : Nat} {L : XL} {S : List Value} {h : XH} {w : Nat × Nat} {R : Option Value → XH → Prop} {y z : Int64} (hd : decode (mB M) pc = .ok (.ladd, 1))  (k : G sc M (pc + 1) L (.long (z + y) :: S) h w R) : G sc M pc L (.long y :: .long z :: S) h w R := by
  intro x p l e s mI args below meth c Q H locs ls F X hH hS hz hL
  exact lv_ladd F.1 F.2.1 hd (k x p l e s mI args below meth c Q H locs ls F X hH hS hz hL)
theorem g_lsub {sc : XS} {M : MM} {pc : Nat} {L : XL} {S : List Value} {h : XH} {w : Nat × Nat} {R : Option Value → XH → Prop} {y z : Int64} (hd : decode (mB M) pc = .ok (.lsub, 1))  (k : G sc M (pc + 1) L (.long (z - y) :: S) h w R) : G sc M pc L (.long y :: .long z :: S) h w R := by
  intro x p l e s mI args below meth c Q H locs ls F X hH hS hz hL
  exact lv_lsub F.1 F.2.1 hd (k x p l e s mI args below meth c Q H locs ls F X hH hS hz hL)
theorem g_lmul {sc : XS} {M : MM} {pc : Nat} {L : XL} {S : List Value} {h : XH} {w : Nat × Nat} {R : Option Value → XH → Prop} {y z : Int64} (hd : decode (mB M) pc = .ok (.lmul, 1))  (k : G sc M (pc + 1) L (.long (z * y) :: S) h w R) : G sc M pc L (.long y :: .long z :: S) h w R := by
  intro x p l e s mI args below meth c Q H locs ls F X hH hS hz hL
  exact lv_lmul F.1 F.2.1 hd (k x p l e s mI args below meth c Q H locs ls F X hH hS hz hL)
theorem g_lcmp {sc : XS} {M : MM} {pc : Nat} {L : XL} {S : List Value} {h : XH} {w : Nat × Nat} {R : Option Value → XH → Prop} {y z : Int64} (hd : decode (mB M) pc = .ok (.lcmp, 1))  (k : G sc M (pc + 1) L (.int (lg_cmp z y) :: S) h w R) : G sc M pc L (.long y :: .long z :: S) h w R := by
  intro x p l e s mI args below meth c Q H locs ls F X hH hS hz hL
  exact W.lcmp F.1 F.2.1 hd (k x p l e s mI args below meth c Q H locs ls F X hH hS hz hL)
theorem g_fadd {sc : XS} {M : MM} {pc : Nat} {L : XL} {S : List Value} {h : XH} {w : Nat × Nat} {R : Option Value → XH → Prop} {y z : UInt32} (hd : decode (mB M) pc = .ok (.fadd, 1)) (hne : vf_n32 (FP.fadd z y)) (k : G sc M (pc + 1) L (.float (FP.fadd z y) :: S) h w R) : G sc M pc L (.float y :: .float z :: S) h w R := by
  intro x p l e s mI args below meth c Q H locs ls F X hH hS hz hL
  exact lv_fadd F.1 F.2.1 hd hne (k x p l e s mI args below meth c Q H locs ls F X hH hS hz hL)
theorem g_dadd {sc : XS} {M : MM} {pc : Nat} {L : XL} {S : List Value} {h : XH} {w : Nat × Nat} {R : Option Value → XH → Prop} {y z : UInt64} (hd : decode (mB M) pc = .ok (.dadd, 1)) (hne : vf_n64 (FP.dadd z y)) (k : G sc M (pc + 1) L (.double (FP.dadd z y) :: S) h w R) : G sc M pc L (.double y :: .double z :: S) h w R := by
  intro x p l e s mI args below meth c Q H locs ls F X hH hS hz hL
  exact lv_dadd F.1 F.2.1 hd hne (k x p l e s mI args below meth c Q H locs ls F X hH hS hz hL)
theorem g_fsub {sc : XS} {M : MM} {pc : Nat} {L : XL} {S : List Value} {h : XH} {w : Nat × Nat} {R : Option Value → XH → Prop} {y z : UInt32} (hd : decode (mB M) pc = .ok (.fsub, 1)) (hne : vf_n32 (FP.fsub z y)) (k : G sc M (pc + 1) L (.float (FP.fsub z y) :: S) h w R) : G sc M pc L (.float y :: .float z :: S) h w R := by
  intro x p l e s mI args below meth c Q H locs ls F X hH hS hz hL
  exact lv_fsub F.1 F.2.1 hd hne (k x p l e s mI args below meth c Q H locs ls F X hH hS hz hL)
theorem g_dsub {sc : XS} {M : MM} {pc : Nat} {L : XL} {S : List Value} {h : XH} {w : Nat × Nat} {R : Option Value → XH → Prop} {y z : UInt64} (hd : decode (mB M) pc = .ok (.dsub, 1)) (hne : vf_n64 (FP.dsub z y)) (k : G sc M (pc + 1) L (.double (FP.dsub z y) :: S) h w R) : G sc M pc L (.double y :: .double z :: S) h w R := by
  intro x p l e s mI args below meth c Q H locs ls F X hH hS hz hL
  exact lv_dsub F.1 F.2.1 hd hne (k x p l e s mI args below meth c Q H locs ls F X hH hS hz hL)
theorem g_fmul {sc : XS} {M : MM} {pc : Nat} {L : XL} {S : List Value} {h : XH} {w : Nat × Nat} {R : Option Value → XH → Prop} {y z : UInt32} (hd : decode (mB M) pc = .ok (.fmul, 1)) (hne : vf_n32 (FP.fmul z y)) (k : G sc M (pc + 1) L (.float (FP.fmul z y) :: S) h w R) : G sc M pc L (.float y :: .float z :: S) h w R := by
  intro x p l e s mI args below meth c Q H locs ls F X hH hS hz hL
  exact lv_fmul F.1 F.2.1 hd hne (k x p l e s mI args below meth c Q H locs ls F X hH hS hz hL)
theorem g_dmul {sc : XS} {M : MM} {pc : Nat} {L : XL} {S : List Value} {h : XH} {w : Nat × Nat} {R : Option Value → XH → Prop} {y z : UInt64} (hd : decode (mB M) pc = .ok (.dmul, 1)) (hne : vf_n64 (FP.dmul z y)) (k : G sc M (pc + 1) L (.double (FP.dmul z y) :: S) h w R) : G sc M pc L (.double y :: .double z :: S) h w R := by
  intro x p l e s mI args below meth c Q H locs ls F X hH hS hz hL
  exact lv_dmul F.1 F.2.1 hd hne (k x p l e s mI args below meth c Q H locs ls F X hH hS hz hL)
theorem g_fdiv {sc : XS} {M : MM} {pc : Nat} {L : XL} {S : List Value} {h : XH} {w : Nat × Nat} {R : Option Value → XH → Prop} {y z : UInt32} (hd : decode (mB M) pc = .ok (.fdiv, 1)) (hne : vf_n32 (FP.fdiv z y)) (k : G sc M (pc + 1) L (.float (FP.fdiv z y) :: S) h w R) : G sc M pc L (.float y :: .float z :: S) h w R := by
  intro x p l e s mI args below meth c Q H locs ls F X hH hS hz hL
  exact lv_fdiv F.1 F.2.1 hd hne (k x p l e s mI args below meth c Q H locs ls F X hH hS hz hL)
theorem g_ddiv {sc : XS} {M : MM} {pc : Nat} {L : XL} {S : List Value} {h : XH} {w : Nat × Nat} {R : Option Value → XH → Prop} {y z : UInt64} (hd : decode (mB M) pc = .ok (.ddiv, 1)) (hne : vf_n64 (FP.ddiv z y)) (k : G sc M (pc + 1) L (.double (FP.ddiv z y) :: S) h w R) : G sc M pc L (.double y :: .double z :: S) h w R := by
  intro x p l e s mI args below meth c Q H locs ls F X hH hS hz hL
  exact lv_ddiv F.1 F.2.1 hd hne (k x p l e s mI args below meth c Q H locs ls F X hH hS hz hL)
theorem g_fcmp {sc : XS} {M : MM} {pc : Nat} {L : XL} {S : List Value} {h : XH} {w : Nat × Nat} {R : Option Value → XH → Prop} {y z : UInt32} {op : CmpOp} (hd : decode (mB M) pc = .ok (.fcmp op, 1))  (k : G sc M (pc + 1) L (.int (Op.cmpValue (FP.fcmp z y) op) :: S) h w R) : G sc M pc L (.float y :: .float z :: S) h w R := by
  intro x p l e s mI args below meth c Q H locs ls F X hH hS hz hL
  exact lv_fcmp F.1 F.2.1 hd (k x p l e s mI args below meth c Q H locs ls F X hH hS hz hL)
theorem g_dcmp {sc : XS} {M : MM} {pc : Nat} {L : XL} {S : List Value} {h : XH} {w : Nat × Nat} {R : Option Value → XH → Prop} {y z : UInt64} {op : CmpOp} (hd : decode (mB M) pc = .ok (.dcmp op, 1))  (k : G sc M (pc + 1) L (.int (Op.cmpValue (FP.dcmp z y) op) :: S) h w R) : G sc M pc L (.double y :: .double z :: S) h w R := by
  intro x p l e s mI args below meth c Q H locs ls F X hH hS hz hL
  exact lv_dcmp F.1 F.2.1 hd (k x p l e s mI args below meth c Q H locs ls F X hH hS hz hL)
theorem g_i2f {sc : XS} {M : MM} {pc : Nat} {L : XL} {S : List Value} {h : XH} {w : Nat × Nat} {R : Option Value → XH → Prop} {z : Int32} (hd : decode (mB M) pc = .ok (.i2f, 1))  (k : G sc M (pc + 1) L (.float (FP.i2f z) :: S) h w R) : G sc M pc L (.int z :: S) h w R := by
  intro x p l e s mI args below meth c Q H locs ls F X hH hS hz hL
  exact lv_i2f F.1 F.2.1 hd (k x p l e s mI args below meth c Q H locs ls F X hH hS hz hL)
theorem g_i2d {sc : XS} {M : MM} {pc : Nat} {L : XL} {S : List Value} {h : XH} {w : Nat × Nat} {R : Option Value → XH → Prop} {z : Int32} (hd : decode (mB M) pc = .ok (.i2d, 1))  (k : G sc M (pc + 1) L (.double (FP.i2d z) :: S) h w R) : G sc M pc L (.int z :: S) h w R := by
  intro x p l e s mI args below meth c Q H locs ls F X hH hS hz hL
  exact lv_i2d F.1 F.2.1 hd (k x p l e s mI args below meth c Q H locs ls F X hH hS hz hL)
theorem g_f2i {sc : XS} {M : MM} {pc : Nat} {L : XL} {S : List Value} {h : XH} {w : Nat × Nat} {R : Option Value → XH → Prop} {z : UInt32} (hd : decode (mB M) pc = .ok (.f2i, 1))  (k : G sc M (pc + 1) L (.int (FP.f2i z) :: S) h w R) : G sc M pc L (.float z :: S) h w R := by
  intro x p l e s mI args below meth c Q H locs ls F X hH hS hz hL
  exact lv_f2i F.1 F.2.1 hd (k x p l e s mI args below meth c Q H locs ls F X hH hS hz hL)
theorem g_d2l {sc : XS} {M : MM} {pc : Nat} {L : XL} {S : List Value} {h : XH} {w : Nat × Nat} {R : Option Value → XH → Prop} {z : UInt64} (hd : decode (mB M) pc = .ok (.d2l, 1))  (k : G sc M (pc + 1) L (.long (FP.d2l z) :: S) h w R) : G sc M pc L (.double z :: S) h w R := by
  intro x p l e s mI args below meth c Q H locs ls F X hH hS hz hL
  exact lv_d2l F.1 F.2.1 hd (k x p l e s mI args below meth c Q H locs ls F X hH hS hz hL)
theorem g_dup {sc : XS} {M : MM} {pc : Nat} {L : XL} {S : List Value} {h : XH} {w : Nat × Nat} {R : Option Value → XH → Prop} {y : Value} (hd : decode (mB M) pc = .ok (.dup, 1)) (hc : y.category = 1) (k : G sc M (pc + 1) L (y :: y :: S) h w R) : G sc M pc L (y :: S) h w R := by
  intro x p l e s mI args below meth c Q H locs ls F X hH hS hz hL
  exact lv_dup F.1 F.2.1 hd (by rw [xUp_cat]; exact hc) (k x p l e s mI args below meth c Q H locs ls F X hH hS hz hL)
theorem g_dup2 {sc : XS} {M : MM} {pc : Nat} {L : XL} {S : List Value} {h : XH} {w : Nat × Nat} {R : Option Value → XH → Prop} {y z : Value} (hd : decode (mB M) pc = .ok (.dup2, 1)) (hc : y.category = 1) (hc2 : z.category = 1) (k : G sc M (pc + 1) L (y :: z :: y :: z :: S) h w R) : G sc M pc L (y :: z :: S) h w R := by
  intro x p l e s mI args below meth c Q H locs ls F X hH hS hz hL
  exact lv_dup2_11 F.1 F.2.1 hd (by rw [xUp_cat]; exact hc) (by rw [xUp_cat]; exact hc2) (k x p l e s mI args below meth c Q H locs ls F X hH hS hz hL)
theorem g_if_eq {sc : XS} {M : MM} {pc : Nat} {L : XL} {S : List Value} {h : XH} {w : Nat × Nat} {R : Option Value → XH → Prop} {z : Int32} {off : Int} {tgt : Nat} (hd : decode (mB M) pc = .ok (.ifCond .eq off, 3)) (ht : (pc : Int) + off = (tgt : Int)) (kt : z = 0 → G sc M tgt L S h w R) (kf : ¬ z = 0 → G sc M (pc + 3) L S h w R) : G sc M pc L (.int z :: S) h w R := by
  intro x p l e s mI args below meth c Q H locs ls F X hH hS hz hL
  exact lv_if_eq F.1 F.2.1 hd ht (fun q => kt q x p l e s mI args below meth c Q H locs ls F X hH hS hz hL) (fun q => kf q x p l e s mI args below meth c Q H locs ls F X hH hS hz hL)
theorem g_if_ne {sc : XS} {M : MM} {pc : Nat} {L : XL} {S : List Value} {h : XH} {w : Nat × Nat} {R : Option Value → XH → Prop} {z : Int32} {off : Int} {tgt : Nat} (hd : decode (mB M) pc = .ok (.ifCond .ne off, 3)) (ht : (pc : Int) + off = (tgt : Int)) (kt : ¬ z = 0 → G sc M tgt L S h w R) (kf : z = 0 → G sc M (pc + 3) L S h w R) : G sc M pc L (.int z :: S) h w R := by
  intro x p l e s mI args below meth c Q H locs ls F X hH hS hz hL
  exact lv_if_ne F.1 F.2.1 hd ht (fun q => kt q x p l e s mI args below meth c Q H locs ls F X hH hS hz hL) (fun q => kf q x p l e s mI args below meth c Q H locs ls F X hH hS hz hL)
theorem g_if_lt {sc : XS} {M : MM} {pc : Nat} {L : XL} {S : List Value} {h : XH} {w : Nat × Nat} {R : Option Value → XH → Prop} {z : Int32} {off : Int} {tgt : Nat} (hd : decode (mB M) pc = .ok (.ifCond .lt off, 3)) (ht : (pc : Int) + off = (tgt : Int)) (kt : z < 0 → G sc M tgt L S h w R) (kf : ¬ z < 0 → G sc M (pc + 3) L S h w R) : G sc M pc L (.int z :: S) h w R := by
  intro x p l e s mI args below meth c Q H locs ls F X hH hS hz hL
  exact lv_if_lt F.1 F.2.1 hd ht (fun q => kt q x p l e s mI args below meth c Q H locs ls F X hH hS hz hL) (fun q => kf q x p l e s mI args below meth c Q H locs ls F X hH hS hz hL)
theorem g_if_ge {sc : XS} {M : MM} {pc : Nat} {L : XL} {S : List Value} {h : XH} {w : Nat × Nat} {R : Option Value → XH → Prop} {z : Int32} {off : Int} {tgt : Nat} (hd : decode (mB M) pc = .ok (.ifCond .ge off, 3)) (ht : (pc : Int) + off = (tgt : Int)) (kt : 0 ≤ z → G sc M tgt L S h w R) (kf : ¬ 0 ≤ z → G sc M (pc + 3) L S h w R) : G sc M pc L (.int z :: S) h w R := by
  intro x p l e s mI args below meth c Q H locs ls F X hH hS hz hL
  exact lv_if_ge F.1 F.2.1 hd ht (fun q => kt q x p l e s mI args below meth c Q H locs ls F X hH hS hz hL) (fun q => kf q x p l e s mI args below meth c Q H locs ls F X hH hS hz hL)
theorem g_if_gt {sc : XS} {M : MM} {pc : Nat} {L : XL} {S : List Value} {h : XH} {w : Nat × Nat} {R : Option Value → XH → Prop} {z : Int32} {off : Int} {tgt : Nat} (hd : decode (mB M) pc = .ok (.ifCond .gt off, 3)) (ht : (pc : Int) + off = (tgt : Int)) (kt : 0 < z → G sc M tgt L S h w R) (kf : ¬ 0 < z → G sc M (pc + 3) L S h w R) : G sc M pc L (.int z :: S) h w R := by
  intro x p l e s mI args below meth c Q H locs ls F X hH hS hz hL
  exact lv_if_gt F.1 F.2.1 hd ht (fun q => kt q x p l e s mI args below meth c Q H locs ls F X hH hS hz hL) (fun q => kf q x p l e s mI args below meth c Q H locs ls F X hH hS hz hL)
theorem g_if_le {sc : XS} {M : MM} {pc : Nat} {L : XL} {S : List Value} {h : XH} {w : Nat × Nat} {R : Option Value → XH → Prop} {z : Int32} {off : Int} {tgt : Nat} (hd : decode (mB M) pc = .ok (.ifCond .le off, 3)) (ht : (pc : Int) + off = (tgt : Int)) (kt : z ≤ 0 → G sc M tgt L S h w R) (kf : ¬ z ≤ 0 → G sc M (pc + 3) L S h w R) : G sc M pc L (.int z :: S) h w R := by
  intro x p l e s mI args below meth c Q H locs ls F X hH hS hz hL
  exact lv_if_le F.1 F.2.1 hd ht (fun q => kt q x p l e s mI args below meth c Q H locs ls F X hH hS hz hL) (fun q => kf q x p l e s mI args below meth c Q H locs ls F X hH hS hz hL)
theorem g_icmp_eq {sc : XS} {M : MM} {pc : Nat} {L : XL} {S : List Value} {h : XH} {w : Nat × Nat} {R : Option Value → XH → Prop} {y z : Int32} {off : Int} {tgt : Nat} (hd : decode (mB M) pc = .ok (.if_icmp .eq off, 3)) (ht : (pc : Int) + off = (tgt : Int)) (kt : z = y → G sc M tgt L S h w R) (kf : ¬ z = y → G sc M (pc + 3) L S h w R) : G sc M pc L (.int y :: .int z :: S) h w R := by
  intro x p l e s mI args below meth c Q H locs ls F X hH hS hz hL
  exact lv_icmp_eq F.1 F.2.1 hd ht (fun q => kt q x p l e s mI args below meth c Q H locs ls F X hH hS hz hL) (fun q => kf q x p l e s mI args below meth c Q H locs ls F X hH hS hz hL)
theorem g_icmp_ne {sc : XS} {M : MM} {pc : Nat} {L : XL} {S : List Value} {h : XH} {w : Nat × Nat} {R : Option Value → XH → Prop} {y z : Int32} {off : Int} {tgt : Nat} (hd : decode (mB M) pc = .ok (.if_icmp .ne off, 3)) (ht : (pc : Int) + off = (tgt : Int)) (kt : ¬ z = y → G sc M tgt L S h w R) (kf : z = y → G sc M (pc + 3) L S h w R) : G sc M pc L (.int y :: .int z :: S) h w R := by
  intro x p l e s mI args below meth c Q H locs ls F X hH hS hz hL
  exact lv_icmp_ne F.1 F.2.1 hd ht (fun q => kt q x p l e s mI args below meth c Q H locs ls F X hH hS hz hL) (fun q => kf q x p l e s mI args below meth c Q H locs ls F X hH hS hz hL)
theorem g_icmp_lt {sc : XS} {M : MM} {pc : Nat} {L : XL} {S : List Value} {h : XH} {w : Nat × Nat} {R : Option Value → XH → Prop} {y z : Int32} {off : Int} {tgt : Nat} (hd : decode (mB M) pc = .ok (.if_icmp .lt off, 3)) (ht : (pc : Int) + off = (tgt : Int)) (kt : z < y → G sc M tgt L S h w R) (kf : ¬ z < y → G sc M (pc + 3) L S h w R) : G sc M pc L (.int y :: .int z :: S) h w R := by
  intro x p l e s mI args below meth c Q H locs ls F X hH hS hz hL
  exact lv_icmp_lt F.1 F.2.1 hd ht (fun q => kt q x p l e s mI args below meth c Q H locs ls F X hH hS hz hL) (fun q => kf q x p l e s mI args below meth c Q H locs ls F X hH hS hz hL)
theorem g_icmp_ge {sc : XS} {M : MM} {pc : Nat} {L : XL} {S : List Value} {h : XH} {w : Nat × Nat} {R : Option Value → XH → Prop} {y z : Int32} {off : Int} {tgt : Nat} (hd : decode (mB M) pc = .ok (.if_icmp .ge off, 3)) (ht : (pc : Int) + off = (tgt : Int)) (kt : y ≤ z → G sc M tgt L S h w R) (kf : ¬ y ≤ z → G sc M (pc + 3) L S h w R) : G sc M pc L (.int y :: .int z :: S) h w R := by
  intro x p l e s mI args below meth c Q H locs ls F X hH hS hz hL
  exact lv_icmp_ge F.1 F.2.1 hd ht (fun q => kt q x p l e s mI args below meth c Q H locs ls F X hH hS hz hL) (fun q => kf q x p l e s mI args below meth c Q H locs ls F X hH hS hz hL)
theorem g_icmp_gt {sc : XS} {M : MM} {pc : Nat} {L : XL} {S : List Value} {h : XH} {w : Nat × Nat} {R : Option Value → XH → Prop} {y z : Int32} {off : Int} {tgt : Nat} (hd : decode (mB M) pc = .ok (.if_icmp .gt off, 3)) (ht : (pc : Int) + off = (tgt : Int)) (kt : y < z → G sc M tgt L S h w R) (kf : ¬ y < z → G sc M (pc + 3) L S h w R) : G sc M pc L (.int y :: .int z :: S) h w R := by
  intro x p l e s mI args below meth c Q H locs ls F X hH hS hz hL
  exact lv_icmp_gt F.1 F.2.1 hd ht (fun q => kt q x p l e s mI args below meth c Q H locs ls F X hH hS hz hL) (fun q => kf q x p l e s mI args below meth c Q H locs ls F X hH hS hz hL)
theorem g_icmp_le {sc : XS} {M : MM} {pc : Nat} {L : XL} {S : List Value} {h : XH} {w : Nat × Nat} {R : Option Value → XH → Prop} {y z : Int32} {off : Int} {tgt : Nat} (hd : decode (mB M) pc = .ok (.if_icmp .le off, 3)) (ht : (pc : Int) + off = (tgt : Int)) (kt : z ≤ y → G sc M tgt L S h w R) (kf : ¬ z ≤ y → G sc M (pc + 3) L S h w R) : G sc M pc L (.int y :: .int z :: S) h w R := by
  intro x p l e s mI args below meth c Q H locs ls F X hH hS hz hL
  exact lv_icmp_le F.1 F.2.1 hd ht (fun q => kt q x p l e s mI args below meth c Q H locs ls F X hH hS hz hL) (fun q => kf q x p l e s mI args below meth c Q H locs ls F X hH hS hz hL)
theorem g_goto {sc : XS} {M : MM} {pc : Nat} {L : XL} {S : List Value} {h : XH} {w : Nat × Nat} {R : Option Value → XH → Prop} {off : Int} {tgt : Nat} (hd : decode (mB M) pc = .ok (.goto off, 3)) (ht : (pc : Int) + off = (tgt : Int)) (k : G sc M tgt L S h w R) : G sc M pc L S h w R := by
  intro x p l e s mI args below meth c Q H locs ls F X hH hS hz hL
  exact lv_goto F.1 F.2.1 hd ht (k x p l e s mI args below meth c Q H locs ls F X hH hS hz hL)
theorem g_ifnonnull {sc : XS} {M : MM} {pc : Nat} {L : XL} {S : List Value} {h : XH} {w : Nat × Nat} {R : Option Value → XH → Prop} {z : Nat} {off : Int} {tgt : Nat} (hd : decode (mB M) pc = .ok (.ifnonnull off, 3)) (ht : (pc : Int) + off = (tgt : Int)) (k : G sc M tgt L S h w R) : G sc M pc L (.ref z :: S) h w R := by
  intro x p l e s mI args below meth c Q H locs ls F X hH hS hz hL
  exact lv_ifnonnull F.1 F.2.1 hd ht (k x p l e s mI args below meth c Q H locs ls F X hH hS hz hL)
theorem g_ifnull {sc : XS} {M : MM} {pc : Nat} {L : XL} {S : List Value} {h : XH} {w : Nat × Nat} {R : Option Value → XH → Prop} {z : Nat} {off : Int} (hd : decode (mB M) pc = .ok (.ifnull off, 3)) (k : G sc M (pc + 3) L S h w R) : G sc M pc L (.ref z :: S) h w R := by
  intro x p l e s mI args below meth c Q H locs ls F X hH hS hz hL
  exact lv_ifnull F.1 F.2.1 hd (k x p l e s mI args below meth c Q H locs ls F X hH hS hz hL)
def tswT (pc : Nat) (dflt lo hi : Int) (offs : Array Int) (z : Int) : Int := if z < lo ∨ hi < z then (pc : Int) + dflt else (pc : Int) + (offs[(z - lo).toNat]?).getD 0
theorem g_tsw {sc : XS} {M : MM} {pc : Nat} {L : XL} {S : List Value} {h : XH} {w : Nat × Nat} {R : Option Value → XH → Prop} {z : Int32} {dflt lo hi : Int} {offs : Array Int} {len : Nat} {tgt : Nat} (hd : decode (mB M) pc = .ok (.tableswitch dflt lo hi offs, len)) (ht : tswT pc dflt lo hi offs z.toInt = (tgt : Int)) (hz : (hi - lo).toNat < offs.size) (k : G sc M tgt L S h w R) : G sc M pc L (.int z :: S) h w R := by
  intro x p l e s mI args below meth c Q H locs ls F X hH hS hz hL
  unfold tswT at ht
  by_cases hr : z.toInt < lo ∨ hi < z.toInt
  · rw [if_pos hr] at ht
    exact lv_tableOut F.1 F.2.1 hd hr ht (k x p l e s mI args below meth c Q H locs ls F X hH hS hz hL)
  · rw [if_neg hr] at ht
    have hlt : (z.toInt - lo).toNat < offs.size := by omega
    have hg : offs[(z.toInt - lo).toNat]? = some offs[(z.toInt - lo).toNat] := Array.getElem?_eq_getElem hlt
    rw [hg] at ht
    exact lv_tableIn F.1 F.2.1 hd (fun q => hr (Or.inl q)) (fun q => hr (Or.inr q)) hg ht (k x p l e s mI args below meth c Q H locs ls F X hH hS hz hL)
theorem g_lsw {sc : XS} {M : MM} {pc : Nat} {L : XL} {S : List Value} {h : XH} {w : Nat × Nat} {R : Option Value → XH → Prop} {z : Int32} {dflt : Int} {ps : Array (Int × Int)} {len : Nat} {tgt : Nat} (hd : decode (mB M) pc = .ok (.lookupswitch dflt ps, len)) (hp : (ps.toList.zip (ps.toList.drop 1)).all (fun (a, next) => a.1 < next.1) = true) (ht : (pc : Int) + Op.lookupswitch.offset ps.toList dflt z.toInt = (tgt : Int)) (k : G sc M tgt L S h w R) : G sc M pc L (.int z :: S) h w R := by
  intro x p l e s mI args below meth c Q H locs ls F X hH hS hz hL
  exact lv_lookup F.1 F.2.1 hd hp rfl ht (k x p l e s mI args below meth c Q H locs ls F X hH hS hz hL)
theorem g_ldcf {sc : XS} {M : MM} {pc : Nat} {L : XL} {S : List Value} {h : XH} {w : Nat × Nat} {R : Option Value → XH → Prop} {idx : Nat} {v : UInt32} (hd : decode (mB M) pc = .ok (.ldc idx, 2)) (hw : Cond.constantFloat (mY M).cls idx v ∈ gW) (k : G sc M (pc + 2) L (.float v :: S) h w R) : G sc M pc L S h w R := by
  intro x p l e s mI args below meth c Q H locs ls F X hH hS hz hL
  exact lv_ldcf F.1 F.2.1 F.2.2.2.1 (F.2.2.2.2.1 _ hw) hd (k x p l e s mI args below meth c Q H locs ls F X hH hS hz hL)
theorem g_ldci {sc : XS} {M : MM} {pc : Nat} {L : XL} {S : List Value} {h : XH} {w : Nat × Nat} {R : Option Value → XH → Prop} {idx : Nat} {v : Int32} (hd : decode (mB M) pc = .ok (.ldc idx, 2)) (hw : Cond.constant (mY M).cls idx v ∈ gW) (k : G sc M (pc + 2) L (.int v :: S) h w R) : G sc M pc L S h w R := by
  intro x p l e s mI args below meth c Q H locs ls F X hH hS hz hL
  exact lv_ldc F.1 F.2.1 F.2.2.2.1 (F.2.2.2.2.1 _ hw) hd (k x p l e s mI args below meth c Q H locs ls F X hH hS hz hL)
theorem g_ldcw {sc : XS} {M : MM} {pc : Nat} {L : XL} {S : List Value} {h : XH} {w : Nat × Nat} {R : Option Value → XH → Prop} {idx : Nat} {v : Int32} (hd : decode (mB M) pc = .ok (.ldc_w idx, 3)) (hw : Cond.constant (mY M).cls idx v ∈ gW) (k : G sc M (pc + 3) L (.int v :: S) h w R) : G sc M pc L S h w R := by
  intro x p l e s mI args below meth c Q H locs ls F X hH hS hz hL
  exact lv_ldcw F.1 F.2.1 F.2.2.2.1 (F.2.2.2.2.1 _ hw) hd (k x p l e s mI args below meth c Q H locs ls F X hH hS hz hL)
theorem g_ldcl {sc : XS} {M : MM} {pc : Nat} {L : XL} {S : List Value} {h : XH} {w : Nat × Nat} {R : Option Value → XH → Prop} {idx : Nat} {v : Int64} (hd : decode (mB M) pc = .ok (.ldc2_w idx, 3)) (hw : Cond.constantLong (mY M).cls idx v ∈ gW) (k : G sc M (pc + 3) L (.long v :: S) h w R) : G sc M pc L S h w R := by
  intro x p l e s mI args below meth c Q H locs ls F X hH hS hz hL
  exact lv_ldc2 F.1 F.2.1 F.2.2.2.1 (F.2.2.2.2.1 _ hw) hd (k x p l e s mI args below meth c Q H locs ls F X hH hS hz hL)
theorem g_ldcd {sc : XS} {M : MM} {pc : Nat} {L : XL} {S : List Value} {h : XH} {w : Nat × Nat} {R : Option Value → XH → Prop} {idx : Nat} {v : UInt64} (hd : decode (mB M) pc = .ok (.ldc2_w idx, 3)) (hw : Cond.constantDouble (mY M).cls idx v ∈ gW) (k : G sc M (pc + 3) L (.double v :: S) h w R) : G sc M pc L S h w R := by
  intro x p l e s mI args below meth c Q H locs ls F X hH hS hz hL
  exact lv_ldc2d F.1 F.2.1 F.2.2.2.1 (F.2.2.2.2.1 _ hw) hd (k x p l e s mI args below meth c Q H locs ls F X hH hS hz hL)
theorem g_iret {sc : XS} {M : MM} {pc : Nat} {L : XL} {S : List Value} {h : XH} {w : Nat × Nat} {R : Option Value → XH → Prop} {z : Int32} (hd : decode (mB M) pc = .ok (.ireturn, 1)) (hr : mR M = some .int) (hR : R (some (.int z)) h) (hw1 : w.1 ≤ mCe M) (hw2 : w.2 ≤ mSl M) : G sc M pc L [.int z] h w R := by
  intro x p l e s mI args below meth c Q H locs ls F X hH hS hz hL
  exact X (some (.int z)) h H locs pc ls w hR hH hS ⟨hd, Or.inl hr⟩ hw1 hw2
theorem g_lret {sc : XS} {M : MM} {pc : Nat} {L : XL} {S : List Value} {h : XH} {w : Nat × Nat} {R : Option Value → XH → Prop} {z : Int64} (hd : decode (mB M) pc = .ok (.lreturn, 1)) (hr : mR M = some .long) (hR : R (some (.long z)) h) (hw1 : w.1 ≤ mCe M) (hw2 : w.2 ≤ mSl M) : G sc M pc L [.long z] h w R := by
  intro x p l e s mI args below meth c Q H locs ls F X hH hS hz hL
  exact X (some (.long z)) h H locs pc ls w hR hH hS ⟨hd, hr⟩ hw1 hw2
theorem g_fret {sc : XS} {M : MM} {pc : Nat} {L : XL} {S : List Value} {h : XH} {w : Nat × Nat} {R : Option Value → XH → Prop} {z : UInt32} (hd : decode (mB M) pc = .ok (.freturn, 1)) (hr : mR M = some .float) (hR : R (some (.float z)) h) (hw1 : w.1 ≤ mCe M) (hw2 : w.2 ≤ mSl M) : G sc M pc L [.float z] h w R := by
  intro x p l e s mI args below meth c Q H locs ls F X hH hS hz hL
  exact X (some (.float z)) h H locs pc ls w hR hH hS ⟨hd, hr⟩ hw1 hw2
theorem g_dret {sc : XS} {M : MM} {pc : Nat} {L : XL} {S : List Value} {h : XH} {w : Nat × Nat} {R : Option Value → XH → Prop} {z : UInt64} (hd : decode (mB M) pc = .ok (.dreturn, 1)) (hr : mR M = some .double) (hR : R (some (.double z)) h) (hw1 : w.1 ≤ mCe M) (hw2 : w.2 ≤ mSl M) : G sc M pc L [.double z] h w R := by
  intro x p l e s mI args below meth c Q H locs ls F X hH hS hz hL
  exact X (some (.double z)) h H locs pc ls w hR hH hS ⟨hd, hr⟩ hw1 hw2
theorem g_zret {sc : XS} {M : MM} {pc : Nat} {L : XL} {S : List Value} {h : XH} {w : Nat × Nat} {R : Option Value → XH → Prop} {z : Int32} (hd : decode (mB M) pc = .ok (.ireturn, 1)) (hr : mR M = some .boolean) (hzz : z = 0 ∨ z = 1) (hR : R (some (.int z)) h) (hw1 : w.1 ≤ mCe M) (hw2 : w.2 ≤ mSl M) : G sc M pc L [.int z] h w R := by
  intro x p l e s mI args below meth c Q H locs ls F X hH hS hz hL
  exact X (some (.int z)) h H locs pc ls w hR hH hS ⟨hd, Or.inr ⟨hr, hzz⟩⟩ hw1 hw2
theorem g_vret {sc : XS} {M : MM} {pc : Nat} {L : XL} {S : List Value} {h : XH} {w : Nat × Nat} {R : Option Value → XH → Prop} (hd : decode (mB M) pc = .ok (.return_, 1)) (hr : mR M = none) (hR : R none h) (hw1 : w.1 ≤ mCe M) (hw2 : w.2 ≤ mSl M) : G sc M pc L [] h w R := by
  intro x p l e s mI args below meth c Q H locs ls F X hH hS hz hL
  exact X none h H locs pc ls w hR hH hS ⟨hd, hr⟩ hw1 hw2
end
section
theorem gin1 : ∀ w ∈ wsX10, w ∈ gW := fun w hw => gW_of (List.mem_append_right _ ((show ∀ w ∈ wsX10, w ∈ tables_1 by decide +kernel) w hw)) ((show ∀ w ∈ wsX10, goodWord w = true by decide +kernel) w hw)
theorem gin2 : ∀ w ∈ wsX20, w ∈ gW := fun w hw => gW_of (List.mem_append_right _ ((show ∀ w ∈ wsX20, w ∈ tables_1 by decide +kernel) w hw)) ((show ∀ w ∈ wsX20, goodWord w = true by decide +kernel) w hw)
theorem gin3 : ∀ w ∈ wsX30, w ∈ gW := fun w hw => gW_of (List.mem_append_right _ ((show ∀ w ∈ wsX30, w ∈ tables_1 by decide +kernel) w hw)) ((show ∀ w ∈ wsX30, goodWord w = true by decide +kernel) w hw)
theorem gin4 : ∀ w ∈ wsX40, w ∈ gW := fun w hw => gW_of (List.mem_append_right _ ((show ∀ w ∈ wsX40, w ∈ tables_1 by decide +kernel) w hw)) ((show ∀ w ∈ wsX40, goodWord w = true by decide +kernel) w hw)
theorem gin5 : ∀ w ∈ wsX50, w ∈ gW := fun w hw => gW_of (List.mem_append_right _ ((show ∀ w ∈ wsX50, w ∈ tables_1 by decide +kernel) w hw)) ((show ∀ w ∈ wsX50, goodWord w = true by decide +kernel) w hw)
theorem gin6 : ∀ w ∈ wsX60, w ∈ gW := fun w hw => gW_of (List.mem_append_right _ ((show ∀ w ∈ wsX60, w ∈ tables_1 by decide +kernel) w hw)) ((show ∀ w ∈ wsX60, goodWord w = true by decide +kernel) w hw)
theorem gin7 : ∀ w ∈ wsX70, w ∈ gW := fun w hw => gW_of (List.mem_append_right _ ((show ∀ w ∈ wsX70, w ∈ tables_1 by decide +kernel) w hw)) ((show ∀ w ∈ wsX70, goodWord w = true by decide +kernel) w hw)
theorem gin8 : ∀ w ∈ wsX80, w ∈ gW := fun w hw => gW_of (List.mem_append_right _ ((show ∀ w ∈ wsX80, w ∈ tables_1 by decide +kernel) w hw)) ((show ∀ w ∈ wsX80, goodWord w = true by decide +kernel) w hw)
theorem gin9 : ∀ w ∈ wsX90, w ∈ gW := fun w hw => gW_of (List.mem_append_right _ ((show ∀ w ∈ wsX90, w ∈ tables_1 by decide +kernel) w hw)) ((show ∀ w ∈ wsX90, goodWord w = true by decide +kernel) w hw)
/-! RULES of the heap -/
theorem cl_ok : ∀ (ci : Nat) (q : vw_C), vwCl[ci]? = some q → (∀ w ∈ u_ws q.1 q.2.1 q.2.2, w ∈ gW) ∧ (∃ ty : Nat → FieldType, ∀ k, k < q.2.2 → parseFieldDescriptor (q.2.1 k).2.2.1 = some (ty k)) ∧ (∀ a, a < q.2.2 → ∀ b, b < q.2.2 → a ≠ b → (q.2.1 a).2.1 ≠ (q.2.1 b).2.1) := by
  intro ci q hq
  match ci, hq with
  | 0, hq => cases hq; exact ⟨gin1, ⟨tyX1, tyX1_ok⟩, nmX1⟩
  | 1, hq => cases hq; exact ⟨gin2, ⟨tyX2, tyX2_ok⟩, nmX2⟩
  | 2, hq => cases hq; exact ⟨gin3, ⟨tyX3, tyX3_ok⟩, nmX3⟩
  | 3, hq => cases hq; exact ⟨gin4, ⟨tyX4, tyX4_ok⟩, nmX4⟩
  | 4, hq => cases hq; exact ⟨gin5, ⟨tyX5, tyX5_ok⟩, nmX5⟩
  | 5, hq => cases hq; exact ⟨gin6, ⟨tyX6, tyX6_ok⟩, nmX6⟩
  | 6, hq => cases hq; exact ⟨gin7, ⟨tyX7, tyX7_ok⟩, nmX7⟩
  | 7, hq => cases hq; exact ⟨gin8, ⟨tyX8, tyX8_ok⟩, nmX8⟩
  | 8, hq => cases hq; exact ⟨gin9, ⟨tyX9, tyX9_ok⟩, nmX9⟩
  | n + 9, hq => simp [vwCl] at hq
/-- field k of class ci is what the class 'own' links by idx -/
def FL (own : String) (idx ci k : Nat) : Prop := ∃ q : vw_C, vwCl[ci]? = some q ∧ k < q.2.2 ∧ Cond.fieldLink own idx (q.2.1 k).1 (q.2.1 k).2.1 (q.2.1 k).2.2.1 ∈ gW
/-- cell c has this kind and length -/
def CK (h : XH) (c ki n : Nat) : Prop := 5 ≤ c ∧ h.1[c - 5]? = some (ki, n)
theorem CK.get {x : XX} {h : XH} {c ki n : Nat} (hc : CK h c ki n) : (xWs x h)[c - 5]? = some (xAd x c, xEn x h c (ki, n)) := by
  have h1 := xWs_get (x := x) hc.2
  have e : c - 5 + 5 = c := by have := hc.1; omega
  rw [e] at h1
  rw [h1]
  congr 2
  have h2 := xAd_5 x (c - 5)
  rw [e] at h2
  exact h2.symm
theorem CK.ad {x : XX} {h : XH} {c ki n : Nat} (hc : CK h c ki n) : xAd x c = xN x + (c - 5) := by
  have h2 := xAd_5 x (c - 5)
  rwa [show c - 5 + 5 = c by have := hc.1; omega] at h2
theorem CK.o {x : XX} {h : XH} {c ki n : Nat} (hc : CK h c ki n) (hk : ki < 9) : (xWs x h)[c - 5]? = some (xAd x c, .inr (ki, (List.range n).map (fun k => xFv x h c ki k))) := by
  rw [hc.get]
  unfold xEn
  rw [if_pos hk]
theorem CK.i {x : XX} {h : XH} {c ki n : Nat} (hc : CK h c ki n) (h1 : ¬ ki < 9) (h2 : ¬ ki = 12) : (xWs x h)[c - 5]? = some (xAd x c, .inl (xCA x ki, n, .inl (h.2.2.1 c))) := by
  rw [hc.get]
  unfold xEn
  rw [if_neg h1, if_neg h2]
theorem CK.q {x : XX} {h : XH} {c n : Nat} (hc : CK h c 12 n) : (xWs x h)[c - 5]? = some (xAd x c, .inl (xCA x 12, n, .inr (.inr (.inr (.inr (fun i => xRo x (h.2.1 c i))))))) := by
  rw [hc.get]
  unfold xEn
  rw [if_neg (show ¬ (12 : Nat) < 9 by decide), if_pos rfl]
theorem vp_len {i : Int32} {n : Nat} (h : vp_in i n) : i.toNatClampNeg < n := Nat.not_le.mp fun q => h (Or.inr q)
theorem vwCl_lt {ci : Nat} {q : vw_C} (h : vwCl[ci]? = some q) : ci < 9 := (List.getElem?_eq_some_iff.mp h).1
/-- one place of a function of two numbers -/
def uI {α : Type} (f : Nat → Nat → α) (c k : Nat) (v : α) : Nat → Nat → α := fun a b => if a = c ∧ b = k then v else f a b
def hI (h : XH) (c k : Nat) (v : Int32) : XH := (h.1, h.2.1, uI h.2.2.1 c k v, h.2.2.2)
def hD (h : XH) (c k : Nat) (v : UInt64) : XH := (h.1, h.2.1, h.2.2.1, uI h.2.2.2 c k v)
def hQ (h : XH) (c k : Nat) (d : Nat) : XH := (h.1, uI h.2.1 c k (d + 1), h.2.2.1, h.2.2.2)
theorem xRo_some (x : XX) (d : Nat) : va_rf (xRo x (d + 1)) = .ref (xAd x d) := rfl
/-- a field that holds an int, a double, a reference -/
theorem g_geti {sc : XS} {M : MM} {pc : Nat} {L : XL} {S : List Value} {h : XH} {w : Nat × Nat} {R : Option Value → XH → Prop} {idx ci k n c : Nat} (hd : decode (mB M) pc = .ok (.getfield idx, 3)) (hf : FL (mY M).cls idx ci k) (hc : CK h c ci n) (hk : k < n) (ht : xTy ci k = 0) (kk : G sc M (pc + 3) L (.int (h.2.2.1 c k) :: S) h w R) : G sc M pc L (.ref c :: S) h w R := by
  intro x p l e s mI args below meth cd Q H locs ls F X hH hS hz hL
  obtain ⟨q, hq, hk1, hl⟩ := hf
  refine va_get (q0 := c - 5) F.1 F.2.1 F.2.2.2.2.1 (cl_ok _ q hq).1 F.2.2.2.1 F.2.2.2.2.2.2.2.2.1.1 hH.2 (hc.o (vwCl_lt hq)) hq _ hk1 (F.2.2.2.2.1 _ hl) (fun _ z => z) (v := xUp x (.int (h.2.2.1 c k))) ?_ hd (kk x p l e s mI args below meth cd Q H locs ls F X hH hS hz hL)
  rw [List.getElem?_map, List.getElem?_range hk]
  simp [xFv, ht, xUp]
theorem g_getd {sc : XS} {M : MM} {pc : Nat} {L : XL} {S : List Value} {h : XH} {w : Nat × Nat} {R : Option Value → XH → Prop} {idx ci k n c : Nat} (hd : decode (mB M) pc = .ok (.getfield idx, 3)) (hf : FL (mY M).cls idx ci k) (hc : CK h c ci n) (hk : k < n) (ht : xTy ci k = 1) (kk : G sc M (pc + 3) L (.double (h.2.2.2 c k) :: S) h w R) : G sc M pc L (.ref c :: S) h w R := by
  intro x p l e s mI args below meth cd Q H locs ls F X hH hS hz hL
  obtain ⟨q, hq, hk1, hl⟩ := hf
  refine va_get (q0 := c - 5) F.1 F.2.1 F.2.2.2.2.1 (cl_ok _ q hq).1 F.2.2.2.1 F.2.2.2.2.2.2.2.2.1.1 hH.2 (hc.o (vwCl_lt hq)) hq _ hk1 (F.2.2.2.2.1 _ hl) (fun _ z => z) (v := xUp x (.double (h.2.2.2 c k))) ?_ hd (kk x p l e s mI args below meth cd Q H locs ls F X hH hS hz hL)
  rw [List.getElem?_map, List.getElem?_range hk]
  simp [xFv, ht, xUp]
theorem g_getq {sc : XS} {M : MM} {pc : Nat} {L : XL} {S : List Value} {h : XH} {w : Nat × Nat} {R : Option Value → XH → Prop} {idx ci k n c d : Nat} (hd : decode (mB M) pc = .ok (.getfield idx, 3)) (hf : FL (mY M).cls idx ci k) (hc : CK h c ci n) (hk : k < n) (ht : xTy ci k = 2) (hr : h.2.1 c k = d + 1) (kk : G sc M (pc + 3) L (.ref d :: S) h w R) : G sc M pc L (.ref c :: S) h w R := by
  intro x p l e s mI args below meth cd Q H locs ls F X hH hS hz hL
  obtain ⟨q, hq, hk1, hl⟩ := hf
  refine va_get (q0 := c - 5) F.1 F.2.1 F.2.2.2.2.1 (cl_ok _ q hq).1 F.2.2.2.1 F.2.2.2.2.2.2.2.2.1.1 hH.2 (hc.o (vwCl_lt hq)) hq _ hk1 (F.2.2.2.2.1 _ hl) (fun _ z => z) (v := .ref (xAd x d)) ?_ hd (kk x p l e s mI args below meth cd Q H locs ls F X hH hS hz hL)
  rw [List.getElem?_map, List.getElem?_range hk]
  simp [xFv, ht, hr, xRo_some]
theorem W_sz {p : Program} {l : Launch} {e : Env} {Rm : Room} {s : State} {m : MethodId} {args : Array Value} {below : List Frame} {meth : Method} {c : Code} {H : Heap} {locs : List Loc} {cells slots : Nat} {Q : State → Prop} {g : JFrame} (k : H.size ≤ s.heap.size + cells → W p l e Rm s m args below meth c H locs cells slots Q g) : W p l e Rm s m args below meth c H locs cells slots Q g := fun T hT X => k (by rw [← hT]; exact X.same.2.2.1) T hT X
theorem va_S.tr {A : Nat → Prop} {H0 H H1 : Heap} {l1 l2 : List Loc} (h1 : va_S A H0 H l1) (h2 : va_S A H H1 l2) : va_S A H0 H1 l2 := ⟨Nat.le_trans h1.1 h2.1, fun q hq hn => (h2.2.1 q (Nat.lt_of_lt_of_le hq h1.1) hn).trans (h1.2.1 q hq hn), h2.2.2⟩
theorem va_S.self {A : Nat → Prop} {H0 H : Heap} {l1 : List Loc} (h1 : va_S A H0 H l1) : va_S A H H l1 := ⟨Nat.le_refl _, fun _ _ _ => rfl, h1.2.2⟩
theorem xFv_set {x : XX} {h h' : XH} {c ci n k : Nat} {v : Value} (hv : xFv x h' c ci k = v) (ho : ∀ j, j ≠ k → xFv x h' c ci j = xFv x h c ci j) : ((List.range n).map (fun j => xFv x h c ci j)).set k v = (List.range n).map (fun j => xFv x h' c ci j) := by
  refine List.ext_getElem? fun j => ?_
  by_cases hj : j < n
  · by_cases e : j = k
    · subst e
      rw [List.getElem?_set_self (by simpa using hj), List.getElem?_map, List.getElem?_range hj]
      simp [hv]
    · rw [List.getElem?_set_ne (Ne.symm e), List.getElem?_map, List.getElem?_map, List.getElem?_range hj]
      simp [ho j e]
  · rw [List.getElem?_eq_none (by simp; omega), List.getElem?_eq_none (by simp; omega)]
theorem xEn_ne {x : XX} {h h' : XH} {c : Nat} (h1 : h'.2.1 c = h.2.1 c) (h2 : h'.2.2.1 c = h.2.2.1 c) (h3 : h'.2.2.2 c = h.2.2.2 c) (q : Nat × Nat) : xEn x h' c q = xEn x h c q := by
  unfold xEn xFv
  rw [h1, h2, h3]
theorem uI_ne {α : Type} {f : Nat → Nat → α} {c k a : Nat} {v : α} (h : a ≠ c) : uI f c k v a = f a := by
  funext b
  unfold uI
  rw [if_neg (fun q => h q.1)]
/-- field k of class ci isn't final, and an int -/
def FI (ci k : Nat) : Prop := ∀ q : vw_C, vwCl[ci]? = some q → (q.2.1 k).2.2.2 = false ∧ parseFieldDescriptor (q.2.1 k).2.2.1 = some .int
theorem g_puti {sc : XS} {M : MM} {pc : Nat} {L : XL} {S : List Value} {h : XH} {w : Nat × Nat} {R : Option Value → XH → Prop} {idx ci k n c : Nat} {z : Int32} (hd : decode (mB M) pc = .ok (.putfield idx, 3)) (hf : FL (mY M).cls idx ci k) (hc : CK h c ci n) (hk : k < n) (ht : xTy ci k = 0) (hb : FI ci k) (kk : G sc M (pc + 3) L S (hI h c k z) w R) : G sc M pc L (.int z :: .ref c :: S) h w R := by
  intro x p l e s mI args below meth cd Q H locs ls F X hH hS hz hL
  obtain ⟨q, hq, hk1, hl⟩ := hf
  obtain ⟨hw, ⟨ty, hty⟩, hnm⟩ := cl_ok _ q hq
  obtain ⟨hb1, hb2⟩ := hb q hq
  refine va_put (q0 := c - 5) F.1 F.2.1 F.2.2.2.2.1 hw ty hty hnm F.2.2.2.1 F.2.2.2.2.2.2.2.2.1.1 hH.2 (xWs_D x h) hS.self (hc.o (vwCl_lt hq)) hq _ hk1 (F.2.2.2.2.1 _ hl) (fun _ z => z) hb1 (ty := .int) (v := .int z) hb2 rfl rfl (by simpa using hk) hd (fun H1 locs1 hP hD' hS1 => W_sz fun hz1 => ?_)
  have hz2 : H1.size = s.heap.size + w.1 := Nat.le_antisymm hz1 (by rw [← hz]; exact hS1.1)
  refine kk x p l e s mI args below meth cd Q H1 locs1 ls F X ⟨by rw [hz2, ← hz]; exact hH.1, ?_⟩ (hS.tr hS1) hz2 hL
  rw [xWs_set (h' := hI h c k z) (h := h) rfl hc.2 (fun j r hj => xEn_ne (h := h) (h' := hI h c k z) rfl (uI_ne (by have := hc.1; omega)) rfl r), ← hc.ad, show c - 5 + 5 = c by have := hc.1; omega]
  have e : xEn x (hI h c k z) c (ci, n) = .inr (ci, ((List.range n).map (fun j => xFv x h c ci j)).set k (.int z)) := by
    unfold xEn
    rw [if_pos (vwCl_lt hq)]
    rw [xFv_set (h' := hI h c k z) (v := .int z)]
    · simp [xFv, ht, hI, uI]
    · intro j hj
      simp [xFv, hI, uI, hj]
  rw [e]
  exact hP
/-- field k of class ci isn't final, and a double -/
def FD (ci k : Nat) : Prop := ∀ q : vw_C, vwCl[ci]? = some q → (q.2.1 k).2.2.2 = false ∧ parseFieldDescriptor (q.2.1 k).2.2.1 = some .double
theorem g_putd {sc : XS} {M : MM} {pc : Nat} {L : XL} {S : List Value} {h : XH} {w : Nat × Nat} {R : Option Value → XH → Prop} {idx ci k n c : Nat} {z : UInt64} (hd : decode (mB M) pc = .ok (.putfield idx, 3)) (hf : FL (mY M).cls idx ci k) (hc : CK h c ci n) (hk : k < n) (ht : xTy ci k = 1) (hb : FD ci k) (kk : G sc M (pc + 3) L S (hD h c k z) w R) : G sc M pc L (.double z :: .ref c :: S) h w R := by
  intro x p l e s mI args below meth cd Q H locs ls F X hH hS hz hL
  obtain ⟨q, hq, hk1, hl⟩ := hf
  obtain ⟨hw, ⟨ty, hty⟩, hnm⟩ := cl_ok _ q hq
  obtain ⟨hb1, hb2⟩ := hb q hq
  refine va_put (q0 := c - 5) F.1 F.2.1 F.2.2.2.2.1 hw ty hty hnm F.2.2.2.1 F.2.2.2.2.2.2.2.2.1.1 hH.2 (xWs_D x h) hS.self (hc.o (vwCl_lt hq)) hq _ hk1 (F.2.2.2.2.1 _ hl) (fun _ z => z) hb1 (ty := .double) (v := .double z) hb2 rfl rfl (by simpa using hk) hd (fun H1 locs1 hP hD' hS1 => W_sz fun hz1 => ?_)
  have hz2 : H1.size = s.heap.size + w.1 := Nat.le_antisymm hz1 (by rw [← hz]; exact hS1.1)
  refine kk x p l e s mI args below meth cd Q H1 locs1 ls F X ⟨by rw [hz2, ← hz]; exact hH.1, ?_⟩ (hS.tr hS1) hz2 hL
  rw [xWs_set (h' := hD h c k z) (h := h) rfl hc.2 (fun j r hj => xEn_ne (h := h) (h' := hD h c k z) rfl rfl (uI_ne (by have := hc.1; omega)) r), ← hc.ad, show c - 5 + 5 = c by have := hc.1; omega]
  have e : xEn x (hD h c k z) c (ci, n) = .inr (ci, ((List.range n).map (fun j => xFv x h c ci j)).set k (.double z)) := by
    unfold xEn
    rw [if_pos (vwCl_lt hq)]
    rw [xFv_set (h' := hD h c k z) (v := .double z)]
    · simp [xFv, ht, hD, uI]
    · intro j hj
      simp [xFv, hD, uI, hj]
  rw [e]
  exact hP
/-- field k of class ci is final, of class own, a reference of type ty -/
def FQ (own : String) (ci k : Nat) (ty : FieldType) : Prop := ∀ q : vw_C, vwCl[ci]? = some q → (q.2.1 k).2.2.2 = true ∧ (q.2.1 k).1 = own ∧ parseFieldDescriptor (q.2.1 k).2.2.1 = some ty ∧ ∀ a : Nat, narrow ty (.ref a) = .ref a ∧ fits ty (.ref a) = true
theorem g_putq {sc : XS} {M : MM} {pc : Nat} {L : XL} {S : List Value} {h : XH} {w : Nat × Nat} {R : Option Value → XH → Prop} {idx ci k n c d : Nat} {ty0 : FieldType} (hd : decode (mB M) pc = .ok (.putfield idx, 3)) (hf : FL (mY M).cls idx ci k) (hc : CK h c ci n) (hk : k < n) (ht : xTy ci k = 2) (hb : FQ (mY M).cls ci k ty0) (hin : (mY M).name = "<init>") (kk : G sc M (pc + 3) L S (hQ h c k d) w R) : G sc M pc L (.ref d :: .ref c :: S) h w R := by
  intro x p l e s mI args below meth cd Q H locs ls F X hH hS hz hL
  obtain ⟨q, hq, hk1, hl⟩ := hf
  obtain ⟨hw, ⟨ty, hty⟩, hnm⟩ := cl_ok _ q hq
  obtain ⟨hb1, hb2, hb3, hb4⟩ := hb q hq
  refine va_putF (q0 := c - 5) F.1 F.2.1 F.2.2.2.2.1 hw ty hty hnm F.2.2.2.1 F.2.2.2.2.2.2.2.2.1.1 hH.2 (xWs_D x h) hS.self (hc.o (vwCl_lt hq)) hq _ hk1 (F.2.2.2.2.1 _ hl) (fun _ z => z) hb1 (F.2.2.2.2.2.2.2.1.trans hin) hb2 (ty := ty0) (v := .ref (xAd x d)) hb3 (hb4 _).1 (hb4 _).2 (by simpa using hk) hd (fun H1 locs1 hP hD' hS1 => W_sz fun hz1 => ?_)
  have hz2 : H1.size = s.heap.size + w.1 := Nat.le_antisymm hz1 (by rw [← hz]; exact hS1.1)
  refine kk x p l e s mI args below meth cd Q H1 locs1 ls F X ⟨by rw [hz2, ← hz]; exact hH.1, ?_⟩ (hS.tr hS1) hz2 hL
  rw [xWs_set (h' := hQ h c k d) (h := h) rfl hc.2 (fun j r hj => xEn_ne (h := h) (h' := hQ h c k d) (uI_ne (by have := hc.1; omega)) rfl rfl r), ← hc.ad, show c - 5 + 5 = c by have := hc.1; omega]
  have e : xEn x (hQ h c k d) c (ci, n) = .inr (ci, ((List.range n).map (fun j => xFv x h c ci j)).set k (.ref (xAd x d))) := by
    unfold xEn
    rw [if_pos (vwCl_lt hq)]
    rw [xFv_set (h' := hQ h c k d) (v := .ref (xAd x d))]
    · simp [xFv, ht, hQ, uI, xRo_some]
    · intro j hj
      simp [xFv, hQ, uI, hj]
  rw [e]
  exact hP
/-- an index i is j, inside of n -/
def ixD (i : Int32) (j n : Nat) : Prop := vp_in i n ∧ i.toNatClampNeg = j
theorem ixD.lt {i : Int32} {j n : Nat} (h : ixD i j n) : j < n := by rw [← h.2]; exact vp_len h.1
theorem ixD_nI {j n : Nat} (h : j < n) (hn : n < 2 ^ 31) : ixD (nI j) j n := ⟨vp_in_nI h hn, nI_clamp (Nat.lt_trans h hn)⟩
theorem g_iald {sc : XS} {M : MM} {pc : Nat} {L : XL} {S : List Value} {h : XH} {w : Nat × Nat} {R : Option Value → XH → Prop} {c n j : Nat} {i : Int32} (hd : decode (mB M) pc = .ok (.iaload, 1)) (hc : CK h c 10 n) (hj : ixD i j n) (kk : G sc M (pc + 1) L (.int (h.2.2.1 c j) :: S) h w R) : G sc M pc L (.int i :: .ref c :: S) h w R := by
  intro x p l e s mI args below meth cd Q H locs ls F X hH hS hz hL
  obtain ⟨h1, rfl⟩ := hj
  exact va_iald (q0 := c - 5) (t0 := 0) F.1 F.2.1 F.2.2.2.2.2.2.2.2.1.1 hH.2 (hc.i (by decide) (by decide)) rfl h1 hd (kk x p l e s mI args below meth cd Q H locs ls F X hH hS hz hL)
theorem g_zald {sc : XS} {M : MM} {pc : Nat} {L : XL} {S : List Value} {h : XH} {w : Nat × Nat} {R : Option Value → XH → Prop} {c n j : Nat} {i : Int32} (hd : decode (mB M) pc = .ok (.baload, 1)) (hc : CK h c 11 n) (hj : ixD i j n) (kk : G sc M (pc + 1) L (.int (h.2.2.1 c j) :: S) h w R) : G sc M pc L (.int i :: .ref c :: S) h w R := by
  intro x p l e s mI args below meth cd Q H locs ls F X hH hS hz hL
  obtain ⟨h1, rfl⟩ := hj
  exact va_zald (q0 := c - 5) (t0 := 1) F.1 F.2.1 F.2.2.2.2.2.2.2.2.1.1 hH.2 (hc.i (by decide) (by decide)) rfl h1 hd (kk x p l e s mI args below meth cd Q H locs ls F X hH hS hz hL)
theorem g_aald {sc : XS} {M : MM} {pc : Nat} {L : XL} {S : List Value} {h : XH} {w : Nat × Nat} {R : Option Value → XH → Prop} {c n j d : Nat} {i : Int32} (hd : decode (mB M) pc = .ok (.aaload, 1)) (hc : CK h c 12 n) (hj : ixD i j n) (hr : h.2.1 c j = d + 1) (kk : G sc M (pc + 1) L (.ref d :: S) h w R) : G sc M pc L (.int i :: .ref c :: S) h w R := by
  intro x p l e s mI args below meth cd Q H locs ls F X hH hS hz hL
  obtain ⟨h1, rfl⟩ := hj
  have hee : va_rf (xRo x (h.2.1 c i.toNatClampNeg)) = .ref (xAd x d) := by rw [hr]; rfl
  refine va_aldq (q0 := c - 5) (t0 := 2) F.1 F.2.1 F.2.2.2.2.2.2.2.2.1.1 hH.2 hc.q rfl h1 hd ?_
  rw [hee]
  exact (kk x p l e s mI args below meth cd Q H locs ls F X hH hS hz hL)
/-- a row of ints is another -/
def uR {α : Type} (f : Nat → Nat → α) (c : Nat) (g : Nat → α) : Nat → Nat → α := fun a b => if a = c then g b else f a b
theorem uR_ne {α : Type} {f : Nat → Nat → α} {c a : Nat} {g : Nat → α} (h : a ≠ c) : uR f c g a = f a := by
  funext b
  unfold uR
  rw [if_neg h]
theorem uR_eq {α : Type} {f : Nat → Nat → α} {c : Nat} {g : Nat → α} : uR f c g c = g := by
  funext b
  unfold uR
  rw [if_pos rfl]
def hR (h : XH) (c : Nat) (g : Nat → Int32) : XH := (h.1, h.2.1, uR h.2.2.1 c g, h.2.2.2)
theorem uI_row {f : Nat → Nat → Int32} {c k : Nat} {v : Int32} : uI f c k v c = upd (f c) k v := by
  funext b
  simp [uI, upd]
theorem g_iast {sc : XS} {M : MM} {pc : Nat} {L : XL} {S : List Value} {h : XH} {w : Nat × Nat} {R : Option Value → XH → Prop} {c n j : Nat} {i z : Int32} (hd : decode (mB M) pc = .ok (.iastore, 1)) (hc : CK h c 10 n) (hj : ixD i j n) (kk : G sc M (pc + 1) L S (hI h c j z) w R) : G sc M pc L (.int z :: .int i :: .ref c :: S) h w R := by
  intro x p l e s mI args below meth cd Q H locs ls F X hH hS hz hL
  obtain ⟨h1, rfl⟩ := hj
  refine va_iast (q0 := c - 5) (t0 := 0) F.1 F.2.1 F.2.2.2.2.2.2.2.2.1.1 hH.2 (xWs_D x h) hS.self (hc.i (by decide) (by decide)) rfl h1 hd (fun H1 locs1 hP hD' hS1 => W_sz fun hz1 => ?_)
  have hz2 : H1.size = s.heap.size + w.1 := Nat.le_antisymm hz1 (by rw [← hz]; exact hS1.1)
  refine kk x p l e s mI args below meth cd Q H1 locs1 ls F X ⟨by rw [hz2, ← hz]; exact hH.1, ?_⟩ (hS.tr hS1) hz2 hL
  rw [xWs_set (h' := hI h c i.toNatClampNeg z) (h := h) rfl hc.2 (fun j r hj => xEn_ne (h := h) (h' := hI h c i.toNatClampNeg z) rfl (uI_ne (by have := hc.1; omega)) rfl r), ← hc.ad, show c - 5 + 5 = c by have := hc.1; omega]
  have e : xEn x (hI h c i.toNatClampNeg z) c (10, n) = .inl (xCA x 10, n, .inl (upd (h.2.2.1 c) i.toNatClampNeg z)) := by
    unfold xEn
    rw [if_neg (show ¬ (10 : Nat) < 9 by decide), if_neg (show ¬ (10 : Nat) = 12 by decide)]
    rw [show (hI h c i.toNatClampNeg z).2.2.1 c = upd (h.2.2.1 c) i.toNatClampNeg z from uI_row]
  rw [e]
  exact hP
theorem g_zast {sc : XS} {M : MM} {pc : Nat} {L : XL} {S : List Value} {h : XH} {w : Nat × Nat} {R : Option Value → XH → Prop} {c n j : Nat} {i z : Int32} (hd : decode (mB M) pc = .ok (.bastore, 1)) (hc : CK h c 11 n) (hj : ixD i j n) (hzz : z = 0 ∨ z = 1) (kk : G sc M (pc + 1) L S (hI h c j z) w R) : G sc M pc L (.int z :: .int i :: .ref c :: S) h w R := by
  intro x p l e s mI args below meth cd Q H locs ls F X hH hS hz hL
  obtain ⟨h1, rfl⟩ := hj
  refine va_zast (q0 := c - 5) (t0 := 1) F.1 F.2.1 F.2.2.2.2.2.2.2.2.1.1 hH.2 (xWs_D x h) hS.self (hc.i (by decide) (by decide)) rfl h1 hd (fun H1 locs1 hP hD' hS1 => W_sz fun hz1 => ?_)
  have hz2 : H1.size = s.heap.size + w.1 := Nat.le_antisymm hz1 (by rw [← hz]; exact hS1.1)
  refine kk x p l e s mI args below meth cd Q H1 locs1 ls F X ⟨by rw [hz2, ← hz]; exact hH.1, ?_⟩ (hS.tr hS1) hz2 hL
  rw [xWs_set (h' := hI h c i.toNatClampNeg z) (h := h) rfl hc.2 (fun j r hj => xEn_ne (h := h) (h' := hI h c i.toNatClampNeg z) rfl (uI_ne (by have := hc.1; omega)) rfl r), ← hc.ad, show c - 5 + 5 = c by have := hc.1; omega]
  have hn : vp_nar .boolean z = z := by rcases hzz with rfl | rfl <;> decide
  rw [hn] at hP
  have e : xEn x (hI h c i.toNatClampNeg z) c (11, n) = .inl (xCA x 11, n, .inl (upd (h.2.2.1 c) i.toNatClampNeg z)) := by
    unfold xEn
    rw [if_neg (show ¬ (11 : Nat) < 9 by decide), if_neg (show ¬ (11 : Nat) = 12 by decide)]
    rw [show (hI h c i.toNatClampNeg z).2.2.1 c = upd (h.2.2.1 c) i.toNatClampNeg z from uI_row]
  rw [e]
  exact hP
theorem g_alen {sc : XS} {M : MM} {pc : Nat} {L : XL} {S : List Value} {h : XH} {w : Nat × Nat} {R : Option Value → XH → Prop} {c n : Nat} (hd : decode (mB M) pc = .ok (.arraylength, 1)) (hc : CK h c 10 n) (kk : G sc M (pc + 1) L (.int (nI n) :: S) h w R) : G sc M pc L (.ref c :: S) h w R := by
  intro x p l e s mI args below meth cd Q H locs ls F X hH hS hz hL
  exact va_alen (q0 := c - 5) (t0 := 0) F.1 F.2.1 F.2.2.2.2.2.2.2.2.1.1 hH.2 (hc.i (by decide) (by decide)) rfl rfl hd (kk x p l e s mI args below meth cd Q H locs ls F X hH hS hz hL)
/-! the script, the static arrays -/
theorem g_sald {sc : XS} {M : MM} {pc : Nat} {L : XL} {S : List Value} {h : XH} {w : Nat × Nat} {R : Option Value → XH → Prop} {j : Nat} {i : Int32} (hd : decode (mB M) pc = .ok (.iaload, 1)) (hj : ixD i j sc.1) (kk : G sc M (pc + 1) L (.int (sc.2 j) :: S) h w R) : G sc M pc L (.int i :: .ref 0 :: S) h w R := by
  intro x p l e s mI args below meth c Q H locs ls F X hH hS hz hL
  obtain ⟨h1, rfl⟩ := hj
  have hE := F.2.2.2.2.2.2.2.2.2.1
  exact va_sld F.1 F.2.1 hE.1 (Nat.lt_of_lt_of_le hE.2.1 F.2.2.2.2.2.2.2.2.2.2) (show ¬ xN x ≤ xB x by have := hE.2.1; omega) hS h1 hd (kk x p l e s mI args below meth c Q H locs ls F X hH hS hz hL)
theorem g_slen {sc : XS} {M : MM} {pc : Nat} {L : XL} {S : List Value} {h : XH} {w : Nat × Nat} {R : Option Value → XH → Prop} (hd : decode (mB M) pc = .ok (.arraylength, 1)) (kk : G sc M (pc + 1) L (.int (nI sc.1) :: S) h w R) : G sc M pc L (.ref 0 :: S) h w R := by
  intro x p l e s mI args below meth c Q H locs ls F X hH hS hz hL
  have hE := F.2.2.2.2.2.2.2.2.2.1
  exact va_slen F.1 F.2.1 hE.1 (Nat.lt_of_lt_of_le hE.2.1 F.2.2.2.2.2.2.2.2.2.2) (show ¬ xN x ≤ xB x by have := hE.2.1; omega) hS hd (kk x p l e s mI args below meth c Q H locs ls F X hH hS hz hL)
theorem xAd_st {x : XX} {j : Nat} (h1 : 1 ≤ j) (h2 : j < 5) : xAd x j = xSt x j := by
  unfold xAd
  rw [if_neg (by omega), if_pos h2]
theorem g_getsN {sc : XS} {M : MM} {pc : Nat} {L : XL} {S : List Value} {h : XH} {w : Nat × Nat} {R : Option Value → XH → Prop} {idx j : Nat} (h1 : 1 ≤ j) (h2 : j < 5) (hd : decode (mB M) pc = .ok (.getstatic idx, 3)) (hq : ((mY M).cls, idx, "PosterSheet", sNm j, "[I", "PosterSheet") ∈ nF) (kk : G sc M (pc + 3) L (.ref j :: S) h w R) : G sc M pc L S h w R := by
  intro x p l e s mI args below meth c Q H locs ls F X hH hS hz hL
  have hE := F.2.2.2.2.2.2.2.2.2.1
  refine va_getsN F.1 F.2.1 (hE.2.2 j h1 h2).2 hS F.2.2.2.1 (va_Nw.use rfl (F.2.2.2.2.2.2.2.2.1.2.1 _ hq)) (fun _ z => z) hd ?_
  rw [← xAd_st h1 h2]
  exact (kk x p l e s mI args below meth c Q H locs ls F X hH hS hz hL)
theorem g_gets {sc : XS} {M : MM} {pc : Nat} {L : XL} {S : List Value} {h : XH} {w : Nat × Nat} {R : Option Value → XH → Prop} {idx j : Nat} (h1 : 1 ≤ j) (h2 : j < 5) (hd : decode (mB M) pc = .ok (.getstatic idx, 3)) (hq : Cond.fieldLink (mY M).cls idx "PosterSheet" (sNm j) "[I" ∈ gW) (kk : G sc M (pc + 3) L (.ref j :: S) h w R) : G sc M pc L S h w R := by
  intro x p l e s mI args below meth c Q H locs ls F X hH hS hz hL
  have hE := F.2.2.2.2.2.2.2.2.2.1
  refine va_gets F.1 F.2.1 (hE.2.2 j h1 h2).2 hS F.2.2.2.1 (F.2.2.2.2.1 _ hq) (fun _ z => z) hd ?_
  rw [← xAd_st h1 h2]
  exact (kk x p l e s mI args below meth c Q H locs ls F X hH hS hz hL)
theorem g_tald {sc : XS} {M : MM} {pc : Nat} {L : XL} {S : List Value} {h : XH} {w : Nat × Nat} {R : Option Value → XH → Prop} {c j : Nat} {i : Int32} (h1 : 1 ≤ c) (h2 : c < 5) (hd : decode (mB M) pc = .ok (.iaload, 1)) (hj : ixD i j (sRow c).length) (kk : G sc M (pc + 1) L (.int ((sRow c).getD j 0) :: S) h w R) : G sc M pc L (.int i :: .ref c :: S) h w R := by
  intro x p l e s mI args below meth cd Q H locs ls F X hH hS hz hL
  obtain ⟨h3, rfl⟩ := hj
  have hE := F.2.2.2.2.2.2.2.2.2.1
  have hT := (hE.2.2 c h1 h2).1
  rw [← xAd_st h1 h2] at hT
  exact va_ti F.1 F.2.1 hT hS h3 rfl hd (kk x p l e s mI args below meth cd Q H locs ls F X hH hS hz hL)
end
section
/-! RULES: copies, natives, what is made, calls -/
theorem gW_b {sc : XS} {M : MM} {x : XX} {p : Program} {s : State} {mI : MethodId} {args : Array Value} {meth : Method} {c : Code} (F : gFix sc M x p s mI args meth c) {w : Cond} (h : w ∈ gW) : w.before args s = true := F.2.2.2.2.1 _ h
/-- the words of the three natives -/
def NW (y : MethodName) : Prop := Cond.native y ∈ gW ∧ Cond.static y ∈ gW ∧ Cond.initialized y.cls ∈ gW
theorem cat_map (x : XX) (S : List Value) : ((S.map (xUp x)).map fun v => v.category).sum = (S.map fun v => v.category).sum := by
  rw [List.map_map]
  congr 1
  exact List.map_congr_left fun a _ => xUp_cat x a
theorem xTys_0 (x : XX) : (xTys x)[0]? = some (xCA x 10, .int) := rfl
theorem g_copy {sc : XS} {M : MM} {pc : Nat} {L : XL} {S : List Value} {h : XH} {w : Nat × Nat} {R : Option Value → XH → Prop} {idx c0 c n0 n1 j0 j1 k : Nat} {sp dp n : Int32} (hd : decode (mB M) pc = .ok (.invokestatic idx, 3)) (hl : Cond.methodLink (mY M).cls idx arraycopyName ∈ gW) (hw : NW arraycopyName) (h0 : CK h c0 10 n0) (h1 : CK h c 10 n1) (e0 : ¬ sp < 0 ∧ sp.toNatClampNeg = j0) (e1 : ¬ dp < 0 ∧ dp.toNatClampNeg = j1) (e2 : ¬ n < 0 ∧ n.toNatClampNeg = k) (b0 : j0 + k ≤ n0) (b1 : j1 + k ≤ n1) (hr : (decide (1 ≤ mFr M) && decide ((S.map fun v => v.category).sum + 18 ≤ mLo M)) = true) (kk : G sc M (pc + 3) L S (hR h c (va_cpy (h.2.2.1 c0) (h.2.2.1 c) j0 j1 k)) w R) : G sc M pc L (.int n :: .int dp :: .ref c :: .int sp :: .ref c0 :: S) h w R := by
  intro x p l e s mI args below meth cd Q H locs ls F X hH hS hz hL
  obtain ⟨e0, rfl⟩ := e0
  obtain ⟨e1, rfl⟩ := e1
  obtain ⟨e2, rfl⟩ := e2
  simp only [Bool.and_eq_true, decide_eq_true_eq] at hr
  refine va_copyi (q0 := c0 - 5) (q1 := c - 5) (t0 := 0) (t1 := 0) F.1 F.2.1 (F.2.2.1.trans hL.1.1.symm) F.2.2.2.1 (gW_b F hl) (gW_b F hw.1) (gW_b F hw.2.1) (gW_b F hw.2.2) F.2.2.2.2.2.2.2.2.1.1 hH.2 (xWs_D x h) hS.self (h0.i (by decide) (by decide)) (h1.i (by decide) (by decide)) rfl rfl rfl e0 e1 e2 b0 b1 (fun _ _ => rfl) hr.1 (by rw [cat_map]; exact hr.2) hd (fun H1 locs1 hP hD' hS1 => W_sz fun hz1 => ?_)
  have hz2 : H1.size = s.heap.size + w.1 := Nat.le_antisymm hz1 (by rw [← hz]; exact hS1.1)
  generalize va_cpy (h.2.2.1 c0) (h.2.2.1 c) sp.toNatClampNeg dp.toNatClampNeg n.toNatClampNeg = g at kk hP
  refine kk x p l e s mI args below meth cd Q H1 locs1 ls F X ⟨by rw [hz2, ← hz]; exact hH.1, ?_⟩ (hS.tr hS1) hz2 hL
  rw [xWs_set (h' := hR h c g) (h := h) rfl h1.2 (fun j r hj => xEn_ne (h := h) (h' := hR h c g) rfl (uR_ne (by have := h1.1; omega)) rfl r), ← h1.ad, show c - 5 + 5 = c by have := h1.1; omega]
  have e : xEn x (hR h c g) c (10, n1) = .inl (xCA x 10, n1, .inl g) := by
    unfold xEn
    rw [if_neg (show ¬ (10 : Nat) < 9 by decide), if_neg (show ¬ (10 : Nat) = 12 by decide)]
    rw [show (hR h c g).2.2.1 c = g from uR_eq]
  rw [e]
  exact hP
def rawF : MethodName := ⟨"java/lang/Float", "floatToRawIntBits", "(F)I"⟩
def rawD : MethodName := ⟨"java/lang/Double", "doubleToRawLongBits", "(D)J"⟩
theorem g_rawF {sc : XS} {M : MM} {pc : Nat} {L : XL} {S : List Value} {h : XH} {w : Nat × Nat} {R : Option Value → XH → Prop} {idx : Nat} {z : UInt32} (hd : decode (mB M) pc = .ok (.invokestatic idx, 3)) (hl : Cond.methodLink (mY M).cls idx rawF ∈ gW) (hw : NW rawF) (hr : (decide (1 ≤ mFr M) && decide ((S.map fun v => v.category).sum + 15 ≤ mLo M)) = true) (kk : G sc M (pc + 3) L (.int z.toInt32 :: S) h w R) : G sc M pc L (.float z :: S) h w R := by
  intro x p l e s mI args below meth cd Q H locs ls F X hH hS hz hL
  simp only [Bool.and_eq_true, decide_eq_true_eq] at hr
  exact vn_f2i F.1 F.2.1 (F.2.2.1.trans hL.1.1.symm) F.2.2.2.1 (gW_b F hl) (gW_b F hw.1) (gW_b F hw.2.1) (gW_b F hw.2.2) hr.1 (by rw [cat_map]; exact hr.2) hd (kk x p l e s mI args below meth cd Q H locs ls F X hH hS hz hL)
theorem g_rawD {sc : XS} {M : MM} {pc : Nat} {L : XL} {S : List Value} {h : XH} {w : Nat × Nat} {R : Option Value → XH → Prop} {idx : Nat} {z : UInt64} (hd : decode (mB M) pc = .ok (.invokestatic idx, 3)) (hl : Cond.methodLink (mY M).cls idx rawD ∈ gW) (hw : NW rawD) (hr : (decide (1 ≤ mFr M) && decide ((S.map fun v => v.category).sum + 15 ≤ mLo M)) = true) (kk : G sc M (pc + 3) L (.long z.toInt64 :: S) h w R) : G sc M pc L (.double z :: S) h w R := by
  intro x p l e s mI args below meth cd Q H locs ls F X hH hS hz hL
  simp only [Bool.and_eq_true, decide_eq_true_eq] at hr
  exact vn_d2l F.1 F.2.1 (F.2.2.1.trans hL.1.1.symm) F.2.2.2.1 (gW_b F hl) (gW_b F hw.1) (gW_b F hw.2.1) (gW_b F hw.2.2) hr.1 (by rw [cat_map]; exact hr.2) hd (kk x p l e s mI args below meth cd Q H locs ls F X hH hS hz hL)
theorem g_obj {sc : XS} {M : MM} {pc : Nat} {L : XL} {S : List Value} {h : XH} {w : Nat × Nat} {R : Option Value → XH → Prop} {idx c : Nat} (hd : decode (mB M) pc = .ok (.invokespecial idx, 3)) (hl : Cond.methodLink (mY M).cls idx objectInit ∈ gW) (hw : Cond.instanceMethod objectInit ∈ gW ∧ Cond.code objectInit ⟨#[0xb1]⟩ 1 none ∈ gW) (hr : (decide (1 ≤ mFr M) && decide ((S.map fun v => v.category).sum + 12 ≤ mLo M)) = true) (kk : G sc M (pc + 3) L S h w R) : G sc M pc L (.ref c :: S) h w R := by
  intro x p l e s mI args below meth cd Q H locs ls F X hH hS hz hL
  simp only [Bool.and_eq_true, decide_eq_true_eq] at hr
  refine W.objInit F.1 F.2.1 F.2.2.2.1 (gW_b F hl) (gW_b F hw.1) (gW_b F hw.2) rfl (hL.1.1.trans F.2.2.1.symm) rfl hd hr.1 (by show 2 * 0 + _ + 12 ≤ _; rw [cat_map]; have := hr.2; show _ ≤ mLo M; omega) (kk x p l e s mI args below meth cd Q H locs ls F X hH hS hz hL)
/-- one cell more -/
def hN (h : XH) (q : Nat × Nat) : XH := (h.1 ++ [q], uR h.2.1 (h.1.length + 5) (fun _ => 0), uR h.2.2.1 (h.1.length + 5) (fun _ => 0), uR h.2.2.2 (h.1.length + 5) (fun _ => 0))
theorem xWs_N {x : XX} {h : XH} {q : Nat × Nat} : xWs x (hN h q) = xWs x h ++ [(xN x + h.1.length, xEn x (hN h q) (h.1.length + 5) q)] := by
  refine List.ext_getElem? fun j => ?_
  have hl : (hN h q).1.length = h.1.length + 1 := by simp [hN]
  rcases Nat.lt_trichotomy j h.1.length with hj | hj | hj
  · have hq : h.1[j]? = some h.1[j] := List.getElem?_eq_getElem hj
    rw [xWs_get (h := hN h q) (q := h.1[j]) (by show (h.1 ++ [q])[j]? = _; rw [List.getElem?_append_left hj]; exact hq), List.getElem?_append_left (by rw [xWs_len]; exact hj), xWs_get hq, xEn_ne (h := h) (h' := hN h q) (uR_ne (by omega)) (uR_ne (by omega)) (uR_ne (by omega))]
  · subst hj
    rw [xWs_get (h := hN h q) (q := q) (by show (h.1 ++ [q])[_]? = _; simp), List.getElem?_append_right (by rw [xWs_len]; exact Nat.le_refl _), xWs_len, Nat.sub_self]
    rfl
  · rw [List.getElem?_eq_none (by rw [xWs_len, hl]; omega), List.getElem?_eq_none (by rw [List.length_append, xWs_len]; simp; omega)]
theorem new_ad {x : XX} {h : XH} {H H1 : Heap} {q : Nat} {e : va_E} {k : Nat} (hz : H.size = xN x + h.1.length) (hz1 : H1.size ≤ xN x + h.1.length + 1) (hP : va_P (xD x) vwCl (xWs x h ++ [(q, e)]) H1) (hD : va_D (xA x) (xWs x h ++ [(q, e)])) : q = xN x + h.1.length := by
  have hg : (xWs x h ++ [(q, e)])[h.1.length]? = some (q, e) := by
    rw [List.getElem?_append_right (by rw [xWs_len]; exact Nat.le_refl _), xWs_len, Nat.sub_self]
    rfl
  have h1 : q < H1.size := (hP _ _ hg).lt
  have h2 : xN x ≤ q := hD.2 _ _ hg
  rcases Nat.lt_or_ge q (xN x + h.1.length) with hq | hq
  · exfalso
    have hi : q - xN x < h.1.length := by omega
    have hgi : (xWs x h ++ [(q, e)])[q - xN x]? = some (xN x + (q - xN x), xEn x h (q - xN x + 5) h.1[q - xN x]) := by
      rw [List.getElem?_append_left (by rw [xWs_len]; exact hi)]
      exact xWs_get (List.getElem?_eq_getElem hi)
    have := hD.1 _ _ _ _ hgi hg (by show xN x + (q - xN x) = q; omega)
    omega
  · omega
theorem xHp_N {x : XX} {h : XH} {H H1 : Heap} {s : State} {w : Nat × Nat} {q : Nat} {r : Nat × Nat} {e : va_E} {locs : List Loc} (hH : xHp x h H) (hz : H.size = s.heap.size + w.1) (hz1 : H1.size ≤ s.heap.size + (w.1 + 1)) (hP : va_P (xD x) vwCl (xWs x h ++ [(q, e)]) H1) (hD : va_D (xA x) (xWs x h ++ [(q, e)])) (he : e = xEn x (hN h r) (h.1.length + 5) r) : q = xAd x (h.1.length + 5) ∧ xHp x (hN h r) H1 ∧ H1.size = s.heap.size + (w.1 + 1) := by
  have h1 := hH.1
  have hq := new_ad (k := 0) hH.1 (by omega) hP hD
  have hg : (xWs x h ++ [(q, e)])[h.1.length]? = some (q, e) := by
    rw [List.getElem?_append_right (by rw [xWs_len]; exact Nat.le_refl _), xWs_len, Nat.sub_self]
    rfl
  have h3 : q < H1.size := (hP _ _ hg).lt
  refine ⟨by rw [xAd_5]; exact hq, ⟨by show _ = xN x + (h.1 ++ [r]).length; rw [List.length_append]; simp; omega, ?_⟩, by omega⟩
  rw [xWs_N, ← he, ← hq]
  exact hP
theorem g_new {sc : XS} {M : MM} {pc : Nat} {L : XL} {S : List Value} {h : XH} {w : Nat × Nat} {R : Option Value → XH → Prop} {idx ci n : Nat} {C : String} {T : u_T} (hd : decode (mB M) pc = .ok (.new idx, 3)) (hq : vwCl[ci]? = some (C, T, n)) (h1 : Cond.classLink (mY M).cls idx C ∈ gW) (h2 : Cond.instantiable C n ∈ gW) (h3 : Cond.initialized C ∈ gW) (hty : ∀ k, k < n → ∃ ty, parseFieldDescriptor (T k).2.2.1 = some ty ∧ ((xTy ci k = 0 ∧ defaultValue ty = .int 0) ∨ (xTy ci k = 1 ∧ defaultValue ty = .double 0) ∨ (xTy ci k = 2 ∧ defaultValue ty = .null))) (hr : (decide (w.1 + 1 ≤ mCe M) && decide (w.2 + n ≤ mSl M)) = true) (kk : G sc M (pc + 3) L (.ref (h.1.length + 5) :: S) (hN h (ci, n)) (w.1 + 1, w.2 + n) R) : G sc M pc L S h w R := by
  intro x p l e s mI args below meth cd Q H locs ls F X hH hS hz hL
  simp only [Bool.and_eq_true, decide_eq_true_eq] at hr
  obtain ⟨hw, ⟨ty, hty0⟩, hnm⟩ := cl_ok _ _ hq
  have hci := vwCl_lt hq
  refine va_new (ci := ci) (fs := (List.range n).map (fun k => xFv x (hN h (ci, n)) (h.1.length + 5) ci k)) F.1 F.2.1 F.2.2.2.2.1 hw ty hty0 F.2.2.2.1 (gW_b F h1) (gW_b F h2) (gW_b F h3) F.2.2.2.2.2.2.2.2.1.1 hH.2 (xWs_D x h) hS.self (fun q hq => (show xN x ≤ q by have := hH.1; omega)) hq ?_ hr.1 hr.2 hd (fun q H1 hP hD' hS1 => W_sz fun hz1 => ?_)
  · intro j hj
    obtain ⟨t, ht, hc⟩ := hty j hj
    have e1 : ty j = t := Option.some.inj ((hty0 j hj).symm.trans ht)
    rw [e1]
    unfold vp_V
    rw [List.getD_eq_getElem?_getD, List.getElem?_map, List.getElem?_range hj]
    show _ = xFv x (hN h (ci, n)) (h.1.length + 5) ci j
    unfold xFv hN
    rcases hc with ⟨a, b⟩ | ⟨a, b⟩ | ⟨a, b⟩
    · rw [b, a]; simp [uR]
    · rw [b, a]; simp [uR]
    · rw [b, a]; simp [uR, xRo, va_rf]
  · obtain ⟨e1, e2, e3⟩ := xHp_N (r := (ci, n)) (locs := locs) hH hz hz1 hP hD' (by unfold xEn; rw [if_pos hci])
    rw [e1]
    exact kk x p l e s mI args below meth cd Q H1 locs ls F X e2 (hS.tr hS1) e3 hL
theorem xCA_of {x : XX} {s : State} {cA : ClassId} {ty : FieldType} {t0 : Nat} {c0 : ClassId} (hK : va_K (xD x) vwCl (xTys x) s) (ht : (xTys x)[t0]? = some (c0, ty)) (hK1 : va_K (xD x) vwCl (xTys x ++ [(cA, ty)]) s) : cA = c0 := by
  have a := (hK.2 t0 _ ht).2
  have b := (hK1.2 3 (cA, ty) rfl).2
  cases ty with
  | object C =>
    obtain ⟨_, _, _, _, _, a⟩ := a
    obtain ⟨_, _, _, _, _, b⟩ := b
    exact Option.some.inj (b.symm.trans a)
  | _ => exact Option.some.inj (Eq.trans (Eq.symm (show s.vm.findClass _ = some cA from b)) (show s.vm.findClass _ = some c0 from a))
theorem g_newai {sc : XS} {M : MM} {pc : Nat} {L : XL} {S : List Value} {h : XH} {w : Nat × Nat} {R : Option Value → XH → Prop} {n : Nat} {i : Int32} (hd : decode (mB M) pc = .ok (.newarray .int, 2)) (hw : Cond.arrayClass .int ∈ gW) (h1 : ¬ i < 0) (h2 : i.toNatClampNeg = n) (h3 : n * 4 ≤ 536870912) (hr : (decide (w.1 + 1 ≤ mCe M) && decide (w.2 + n ≤ mSl M)) = true) (kk : G sc M (pc + 2) L (.ref (h.1.length + 5) :: S) (hN h (10, n)) (w.1 + 1, w.2 + n) R) : G sc M pc L (.int i :: S) h w R := by
  intro x p l e s mI args below meth cd Q H locs ls F X hH hS hz hL
  simp only [Bool.and_eq_true, decide_eq_true_eq] at hr
  refine va_newa (atype := .int) (ty := .int) (a0 := (n, .inl (fun _ => 0))) F.1 F.2.1 (gW_b F hw) rfl F.2.2.2.2.2.2.2.2.1.1 hH.2 (xWs_D x h) hS.self (fun q hq => (show xN x ≤ q by have := hH.1; omega)) (fun _ => rfl) h1 h2 h3 hr.1 hr.2 hd (fun q cA H1 hK1 hP hD' hS1 => W_sz fun hz1 => ?_)
  have hcA := xCA_of (t0 := 0) F.2.2.2.2.2.2.2.2.1.1 rfl hK1
  subst hcA
  obtain ⟨e1, e2, e3⟩ := xHp_N (r := (10, n)) (locs := locs) hH hz hz1 hP hD' (by
    unfold xEn
    rw [if_neg (show ¬ (10 : Nat) < 9 by decide), if_neg (show ¬ (10 : Nat) = 12 by decide)]
    rw [show (hN h (10, n)).2.2.1 (h.1.length + 5) = fun _ => 0 from uR_eq])
  rw [e1]
  exact kk x p l e s mI args below meth cd Q H1 locs ls F X e2 (hS.tr hS1) e3 hL
theorem g_newaz {sc : XS} {M : MM} {pc : Nat} {L : XL} {S : List Value} {h : XH} {w : Nat × Nat} {R : Option Value → XH → Prop} {n : Nat} {i : Int32} (hd : decode (mB M) pc = .ok (.newarray .boolean, 2)) (hw : Cond.arrayClass .boolean ∈ gW) (h1 : ¬ i < 0) (h2 : i.toNatClampNeg = n) (h3 : n * componentBytes .boolean ≤ 536870912) (hr : (decide (w.1 + 1 ≤ mCe M) && decide (w.2 + n ≤ mSl M)) = true) (kk : G sc M (pc + 2) L (.ref (h.1.length + 5) :: S) (hN h (11, n)) (w.1 + 1, w.2 + n) R) : G sc M pc L (.int i :: S) h w R := by
  intro x p l e s mI args below meth cd Q H locs ls F X hH hS hz hL
  simp only [Bool.and_eq_true, decide_eq_true_eq] at hr
  refine va_newa (atype := .boolean) (ty := .boolean) (a0 := (n, .inl (fun _ => 0))) F.1 F.2.1 (gW_b F hw) rfl F.2.2.2.2.2.2.2.2.1.1 hH.2 (xWs_D x h) hS.self (fun q hq => (show xN x ≤ q by have := hH.1; omega)) (fun _ => rfl) h1 h2 h3 hr.1 hr.2 hd (fun q cA H1 hK1 hP hD' hS1 => W_sz fun hz1 => ?_)
  have hcA := xCA_of (t0 := 1) F.2.2.2.2.2.2.2.2.1.1 rfl hK1
  subst hcA
  obtain ⟨e1, e2, e3⟩ := xHp_N (r := (11, n)) (locs := locs) hH hz hz1 hP hD' (by
    unfold xEn
    rw [if_neg (show ¬ (11 : Nat) < 9 by decide), if_neg (show ¬ (11 : Nat) = 12 by decide)]
    rw [show (hN h (11, n)).2.2.1 (h.1.length + 5) = fun _ => 0 from uR_eq])
  rw [e1]
  exact kk x p l e s mI args below meth cd Q H1 locs ls F X e2 (hS.tr hS1) e3 hL
theorem g_newaq {sc : XS} {M : MM} {pc : Nat} {L : XL} {S : List Value} {h : XH} {w : Nat × Nat} {R : Option Value → XH → Prop} {n idx : Nat} {i : Int32} (hd : decode (mB M) pc = .ok (.anewarray idx, 3)) (hw : Cond.classLink (mY M).cls idx "PosterSheet$Layout" ∈ gW) (h1 : ¬ i < 0) (h2 : i.toNatClampNeg = n) (h3 : n * 4 ≤ 536870912) (hr : (decide (w.1 + 1 ≤ mCe M) && decide (w.2 + n ≤ mSl M)) = true) (kk : G sc M (pc + 3) L (.ref (h.1.length + 5) :: S) (hN h (12, n)) (w.1 + 1, w.2 + n) R) : G sc M pc L (.int i :: S) h w R := by
  intro x p l e s mI args below meth cd Q H locs ls F X hH hS hz hL
  simp only [Bool.and_eq_true, decide_eq_true_eq] at hr
  refine va_newq F.1 F.2.1 F.2.2.2.1 (gW_b F hw) F.2.2.2.2.2.2.2.2.1.2.2.2 F.2.2.2.2.2.2.2.2.1.1 hH.2 (xWs_D x h) hS.self (fun q hq => (show xN x ≤ q by have := hH.1; omega)) h1 h2 h3 hr.1 hr.2 hd (fun q cA H1 hK1 hP hD' hS1 => W_sz fun hz1 => ?_)
  have hcA := xCA_of (t0 := 2) F.2.2.2.2.2.2.2.2.1.1 rfl hK1
  subst hcA
  obtain ⟨e1, e2, e3⟩ := xHp_N (r := (12, n)) (locs := locs) hH hz hz1 hP hD' (by
    unfold xEn
    rw [if_neg (show ¬ (12 : Nat) < 9 by decide), if_pos rfl]
    rw [show (hN h (12, n)).2.1 (h.1.length + 5) = fun _ => 0 from uR_eq]
    rfl)
  rw [e1]
  exact kk x p l e s mI args below meth cd Q H1 locs ls F X e2 (hS.tr hS1) e3 hL
theorem g_aast {sc : XS} {M : MM} {pc : Nat} {L : XL} {S : List Value} {h : XH} {w : Nat × Nat} {R : Option Value → XH → Prop} {c d n nd j : Nat} {i : Int32} (hd : decode (mB M) pc = .ok (.aastore, 1)) (hc : CK h c 12 n) (hj : ixD i j n) (hv : CK h d 0 nd) (kk : G sc M (pc + 1) L S (hQ h c j d) w R) : G sc M pc L (.ref d :: .int i :: .ref c :: S) h w R := by
  intro x p l e s mI args below meth cd Q H locs ls F X hH hS hz hL
  obtain ⟨h1, rfl⟩ := hj
  refine va_astq (q0 := c - 5) (t0 := 2) (qk := d - 5) (ci := 0) (r := (RX1, TX1, 11)) F.1 F.2.1 F.2.2.2.2.2.2.2.2.1.1 hH.2 (xWs_D x h) hS.self hc.q rfl (hv.o (by decide)) rfl h1 hd (fun H1 locs1 hP hD' hS1 => W_sz fun hz1 => ?_)
  have hz2 : H1.size = s.heap.size + w.1 := Nat.le_antisymm hz1 (by rw [← hz]; exact hS1.1)
  refine kk x p l e s mI args below meth cd Q H1 locs1 ls F X ⟨by rw [hz2, ← hz]; exact hH.1, ?_⟩ (hS.tr hS1) hz2 hL
  rw [xWs_set (h' := hQ h c i.toNatClampNeg d) (h := h) rfl hc.2 (fun j r hj => xEn_ne (h := h) (h' := hQ h c i.toNatClampNeg d) (uI_ne (by have := hc.1; omega)) rfl rfl r), ← hc.ad, show c - 5 + 5 = c by have := hc.1; omega]
  have hee : xEn x (hQ h c i.toNatClampNeg d) c (12, n) = .inl (xCA x 12, n, .inr (.inr (.inr (.inr (va_up (fun i => xRo x (h.2.1 c i)) i.toNatClampNeg (some (xAd x d))))))) := by
    unfold xEn
    rw [if_neg (show ¬ (12 : Nat) < 9 by decide), if_pos rfl]
    have : (fun i_1 => xRo x ((hQ h c i.toNatClampNeg d).2.1 c i_1)) = va_up (fun i => xRo x (h.2.1 c i)) i.toNatClampNeg (some (xAd x d)) := by
      funext b
      simp only [hQ, uI, va_up]
      by_cases hb : b = i.toNatClampNeg
      · simp [hb, xRo]
      · simp [hb]
    rw [this]
  rw [hee]
  exact hP
end
section
/-! RULES: calls -/
theorem g_run {p : Program} {l : Launch} {e : Env} {Rm : Room} {s : State} {m : MethodId} {args : Array Value} {below : List Frame} {meth : Method} {c : Code} {H : Heap} {locs : List Loc} {cells slots mc ms : Nat} {Q : State → Prop} {pc : Nat} {ls : Array Slot} {rest st0 : List Value} {a : Array Value} {x : XX} {h' : XH} {v : Option Value} {H0 : Heap}
    (hr : va_Run p l e Rm s m args below meth c H locs cells slots mc ms (F0 m pc ls st0) rest (xQc x h' v a) (xA x)) (hS : va_S (xA x) H0 H locs)
    (kk : ∀ (H1 : Heap) (locs1 : List Loc), xHp x h' H1 → va_S (xA x) H0 H1 locs1 → W p l e Rm s m args below meth c H1 locs1 (cells + mc) (slots + ms) Q (F0 m (pc + 3) ls ((v.map (xUp x)).toList ++ rest))) : W p l e Rm s m args below meth c H locs cells slots Q (F0 m pc ls st0) := by
  intro T hT X
  obtain ⟨v1, st₀, t, T', L, h0, X', hL, e1, e2, ⟨hv, hp, hz, hk⟩, st⟩ := hr T hT X
  have hv : v1 = v.map (xUp x) := Outcome.returned.inj hv
  subst hv
  rw [h0] at hz hk
  rw [← e1] at hz hp hk
  obtain ⟨t2, a1, b1⟩ := kk T'.heap (locs ++ L) hp
    ⟨Nat.le_trans hS.1 hz, fun q h1 h2 => (hk q (Nat.lt_of_lt_of_le h1 hS.1) h2).trans (hS.2.1 q h1 h2), fun q hq => by
      rcases List.mem_append.mp hq with h | h
      · exact hS.2.2 q h
      · exact hL q h⟩ T' rfl X'
  exact ⟨t2, st t2 a1, b1⟩
theorem gWs_good (M : MM) (hc : Cond.code (mY M) (mB M) (mL M) (mR M) ∈ gW) : GoodIn gW (gWs M) := fun w hw => by
  rcases List.mem_cons.mp hw with rfl | hw
  · exact ⟨hc, good_of_word (gW_good hc)⟩
  · exact ⟨hw, good_of_word (gW_good hw)⟩
theorem goodIn_cons {w : Cond} {ws : List Cond} (h : w ∈ gW) (hs : GoodIn gW ws) : GoodIn gW (w :: ws) := fun u hu => by
  rcases List.mem_cons.mp hu with rfl | hu
  · exact ⟨h, good_of_word (gW_good h)⟩
  · exact hs u hu
theorem xTab.same {x : XX} {u U : State} (h : u.vm = U.vm) (k : xTab x u) : xTab x U :=
  ⟨k.1.moved (by rw [h]; exact Vm.Alike.refl _), fun q hq => va_Nw.same rfl h (k.2.1 q hq), fun q hq => va_Nw.same rfl h (k.2.2.1 q hq), k.2.2.2.moved (by rw [h]; exact Vm.Alike.refl _)⟩
theorem xPc_blind (x : XX) (sc : XS) (args : List Value) (h : XH) : FrameBlind (xPc x sc args h) := by
  intro a U g mk hq
  obtain ⟨h1, h2, h3, h4⟩ := hq
  exact ⟨h1, xTab.same (u := U) rfl h2, xExt.move (s := U) (Vm.Alike.refl _) (fun _ _ _ => rfl) h3, h4⟩
theorem xPc_pre {sc : XS} {M : MM} {x : XX} {p : Program} {s : State} {mI : MethodId} {args : Array Value} {meth : Method} {c : Code} (F : gFix sc M x p s mI args meth c) {h : XH} {H : Heap} {locs : List Loc} (hH : xHp x h H) (hS : va_S (xA x) s.heap H locs) (as : List Value) : ∀ U : State, U.heap = H → s.WarmedH U.vm → xPc x sc as h (as.map (xUp x)).toArray U := fun U hU hW =>
  ⟨rfl, F.2.2.2.2.2.2.2.2.1.warm hW, xExt.move hW.alike (by rw [hU]; exact xA_ext hS) F.2.2.2.2.2.2.2.2.2.1, by rw [hU]; exact hH⟩
/-- what the tables say of a method; of an instance method, a static one -/
def Mok (M : MM) (n : Nat) : Prop := Cond.initialized (mY M).cls ∈ gW ∧ Cond.code (mY M) (mB M) (mL M) (mR M) ∈ gW ∧ (mY M).cls ≠ "java/lang/invoke/MethodHandle" ∧ (mY M).cls ≠ "java/lang/invoke/VarHandle" ∧ (parseMethodDescriptor (mY M).desc).map (fun d => d.parameters.length) = some n
def MokV (M : MM) (n : Nat) : Prop := Cond.instanceMethod (mY M) ∈ gW ∧ Cond.selects (mY M).cls (mY M) (mY M) ∈ gW ∧ Mok M n
def MokS (M : MM) (n : Nat) : Prop := Cond.static (mY M) ∈ gW ∧ Mok M n
def MokI (M : MM) (n : Nat) : Prop := Cond.instanceMethod (mY M) ∈ gW ∧ (mY M).name = "<init>" ∧ mR M = none ∧ Mok M n
def okR (M M' : MM) (S : List Value) (w : Nat × Nat) : Bool := decide (mFr M' + 1 ≤ mFr M) && decide (8 + (mL M' + 11) + mLo M' ≤ mLo M) && decide (w.1 + mCe M' ≤ mCe M) && decide (w.2 + mSl M' ≤ mSl M) && decide ((S.map fun v => v.category).sum ≤ 8)
theorem okR_of {M M' : MM} {S : List Value} {w : Nat × Nat} (h : okR M M' S w = true) : (mFr M' + 1 ≤ mFr M ∧ 8 + (mL M' + 11) + mLo M' ≤ mLo M) ∧ (w.1 + mCe M' ≤ mCe M ∧ w.2 + mSl M' ≤ mSl M) ∧ (S.map fun v => v.category).sum ≤ 8 := by
  unfold okR at h
  simp only [Bool.and_eq_true, decide_eq_true_eq] at h
  exact ⟨⟨h.1.1.1.1, h.1.1.1.2⟩, ⟨h.1.1.2, h.1.2⟩, h.2⟩
/-- the receiver is an object of the class -/
def RC (h : XH) (b : Nat) (C : String) : Prop := ∃ ci n q, CK h b ci n ∧ vwCl[ci]? = some q ∧ q.1 = C
/-- a link of a method: plain, or of nest mates -/
def ML (own : String) (idx : Nat) (y : MethodName) : Prop := Cond.methodLink own idx y ∈ gW
def MLN (own : String) (idx : Nat) (y : MethodName) : Prop := (own, idx, y, "PosterSheet") ∈ nM
theorem cat_rest {x : XX} {S : List Value} {mI : MethodId} {pc : Nat} {ls : Array Slot} {st : List Value} (h : (S.map fun v => v.category).sum ≤ 8) : 2 * (F0 mI pc ls st).monitorRoom + ((S.map (xUp x)).map fun v => v.category).sum ≤ 8 := lv_room (by rw [cat_map]; exact h)
theorem sz_call {x : XX} {h h' : XH} {H H1 : Heap} {z a k : Nat} (h1 : xHp x h H) (h2 : xHp x h' H1) (hl : h'.1.length = h.1.length + k) (hz : H.size = z + a) : H1.size = z + (a + k) := by
  have e1 := h1.1
  have e2 := h2.1
  omega
theorem g_callV {sc : XS} {M : MM} {pc : Nat} {L : XL} {S : List Value} {h : XH} {w : Nat × Nat} {R : Option Value → XH → Prop} {M' : MM} {idx b n : Nat} {As : List Value} {v : Option Value} {h' : XH} {w' : Nat × Nat} (hd : decode (mB M) pc = .ok (.invokevirtual idx, 3)) (hl : ML (mY M).cls idx (mY M')) (hm : MokV M' n) (hE : E M' (.ref b :: As) h v h') (hn : As.length = n) (hrc : RC h b (mY M').cls) (hlen : h'.1.length = h.1.length + mCe M') (hr : okR M M' S w = true) (hw' : w' = (w.1 + mCe M', w.2 + mSl M')) (kk : G sc M (pc + 3) L (v.toList ++ S) h' w' R) : G sc M pc L (As.reverse ++ .ref b :: S) h w R := by
  intro x p l e s mI args below meth cd Q H locs ls F X hH hS hz hL
  subst hw'
  obtain ⟨hr1, hr2, hr3⟩ := okR_of hr
  obtain ⟨hm1, hm2, hm3, hm4, hm5, hm6, hm7⟩ := hm
  obtain ⟨ci, nn, q, hc, hq, hcls⟩ := hrc
  have hst : (As.reverse ++ Value.ref b :: S).map (xUp x) = (As.map (xUp x)).reverse ++ Value.ref (xAd x b) :: S.map (xUp x) := by
    rw [List.map_append, List.map_reverse, List.map_cons]; rfl
  rw [hst]
  refine g_run (va_runV (As := As.map (xUp x)) (rest := S.map (xUp x)) ⟨F.1, F.2.1, F.2.2.1, F.2.2.2.1, F.2.2.2.2.1⟩ (hE sc l x) (cwV (ws' := gW) (C := (mY M').cls) n F.2.2.2.2.1 (goodIn_cons hl (goodIn_cons hm1 (goodIn_cons hm2 (goodIn_cons hm3 (gWs_good M' hm4))))) rfl rfl rfl ⟨rfl, hm5, hm6, hm7⟩ hr1) ⟨xPc_blind x sc _ h, ?_, ?_⟩ rfl (by rw [List.length_map]; exact hn) hL.1.1 rfl (cat_rest hr3) hd hr2) hS (fun H1 locs1 hH1 hS1 => ?_)
  · obtain ⟨cell, g1, g2, g3⟩ := va_recv F.2.2.2.2.2.2.2.2.1.1 hH.2 hq (hc.o (vwCl_lt hq))
    exact ⟨cell, g1, g2, by rw [← hcls]; exact g3⟩
  · exact xPc_pre F hH hS (.ref b :: As)
  · have := kk x p l e s mI args below meth cd Q H1 locs1 ls F X hH1 hS1 (sz_call hH hH1 hlen hz) hL
    rw [List.map_append] at this
    cases v <;> exact this
theorem g_callI {sc : XS} {M : MM} {pc : Nat} {L : XL} {S : List Value} {h : XH} {w : Nat × Nat} {R : Option Value → XH → Prop} {M' : MM} {idx b n : Nat} {As : List Value} {h' : XH} {w' : Nat × Nat} (hd : decode (mB M) pc = .ok (.invokespecial idx, 3)) (hl : ML (mY M).cls idx (mY M')) (hm : MokI M' n) (hE : E M' (.ref b :: As) h none h') (hn : As.length = n) (hlen : h'.1.length = h.1.length + mCe M') (hr : okR M M' S w = true) (hw' : w' = (w.1 + mCe M', w.2 + mSl M')) (kk : G sc M (pc + 3) L S h' w' R) : G sc M pc L (As.reverse ++ .ref b :: S) h w R := by
  intro x p l e s mI args below meth cd Q H locs ls F X hH hS hz hL
  subst hw'
  obtain ⟨hr1, hr2, hr3⟩ := okR_of hr
  obtain ⟨hm1, hm2, hm0, hm3, hm4, hm5, hm6, hm7⟩ := hm
  have hst : (As.reverse ++ Value.ref b :: S).map (xUp x) = (As.map (xUp x)).reverse ++ Value.ref (xAd x b) :: S.map (xUp x) := by
    rw [List.map_append, List.map_reverse, List.map_cons]; rfl
  rw [hst]
  refine g_run (va_runI (As := As.map (xUp x)) (rest := S.map (xUp x)) ⟨F.1, F.2.1, F.2.2.1, F.2.2.2.1, F.2.2.2.2.1⟩ (hE sc l x) (cwI (ws' := gW) n F.2.2.2.2.1 (gWs_good M' hm4) (by rw [gWs, hm0]) rfl rfl (gW_b F hm3) (gW_b F hl) (gW_b F hm1) hm2 ⟨hm5, hm6, hm7⟩ hr1) ⟨xPc_blind x sc _ h, ?_⟩ rfl (by rw [List.length_map]; exact hn) hL.1.1 rfl (cat_rest hr3) hd hr2) hS (fun H1 locs1 hH1 hS1 => ?_)
  · exact xPc_pre F hH hS (.ref b :: As)
  · exact kk x p l e s mI args below meth cd Q H1 locs1 ls F X hH1 hS1 (sz_call hH hH1 hlen hz) hL
theorem g_callIN {sc : XS} {M : MM} {pc : Nat} {L : XL} {S : List Value} {h : XH} {w : Nat × Nat} {R : Option Value → XH → Prop} {M' : MM} {idx b n : Nat} {As : List Value} {h' : XH} {w' : Nat × Nat} (hd : decode (mB M) pc = .ok (.invokespecial idx, 3)) (hl : MLN (mY M).cls idx (mY M')) (hm : MokI M' n) (hE : E M' (.ref b :: As) h none h') (hn : As.length = n) (hlen : h'.1.length = h.1.length + mCe M') (hr : okR M M' S w = true) (hw' : w' = (w.1 + mCe M', w.2 + mSl M')) (kk : G sc M (pc + 3) L S h' w' R) : G sc M pc L (As.reverse ++ .ref b :: S) h w R := by
  intro x p l e s mI args below meth cd Q H locs ls F X hH hS hz hL
  subst hw'
  obtain ⟨hr1, hr2, hr3⟩ := okR_of hr
  obtain ⟨hm1, hm2, hm0, hm3, hm4, hm5, hm6, hm7⟩ := hm
  have hst : (As.reverse ++ Value.ref b :: S).map (xUp x) = (As.map (xUp x)).reverse ++ Value.ref (xAd x b) :: S.map (xUp x) := by
    rw [List.map_append, List.map_reverse, List.map_cons]; rfl
  rw [hst]
  refine g_run (va_runIN (As := As.map (xUp x)) (rest := S.map (xUp x)) ⟨F.1, F.2.1, F.2.2.1, F.2.2.2.1, F.2.2.2.2.1⟩ (hE sc l x) ⟨va_cnB (ws' := gW) n F.2.2.2.2.1 (gWs_good M' hm4) (by rw [gWs, hm0]) rfl rfl (F.2.2.2.2.2.2.2.2.1.2.2.1 _ hl) (gW_b F hm3) ⟨hm5, hm6, hm7⟩ hr1, hm2, gW_b F hm1⟩ ⟨xPc_blind x sc _ h, ?_⟩ rfl (by rw [List.length_map]; exact hn) hL.1.1 rfl (cat_rest hr3) hd hr2) hS (fun H1 locs1 hH1 hS1 => ?_)
  · exact xPc_pre F hH hS (.ref b :: As)
  · exact kk x p l e s mI args below meth cd Q H1 locs1 ls F X hH1 hS1 (sz_call hH hH1 hlen hz) hL
theorem g_callS {sc : XS} {M : MM} {pc : Nat} {L : XL} {S : List Value} {h : XH} {w : Nat × Nat} {R : Option Value → XH → Prop} {M' : MM} {idx n : Nat} {As : List Value} {v : Option Value} {h' : XH} {w' : Nat × Nat} (hd : decode (mB M) pc = .ok (.invokestatic idx, 3)) (hl : ML (mY M).cls idx (mY M')) (hm : MokS M' n) (hE : E M' As h v h') (hn : As.length = n) (hlen : h'.1.length = h.1.length + mCe M') (hr : okR M M' S w = true) (hw' : w' = (w.1 + mCe M', w.2 + mSl M')) (kk : G sc M (pc + 3) L (v.toList ++ S) h' w' R) : G sc M pc L (As.reverse ++ S) h w R := by
  intro x p l e s mI args below meth cd Q H locs ls F X hH hS hz hL
  subst hw'
  obtain ⟨hr1, hr2, hr3⟩ := okR_of hr
  obtain ⟨hm1, hm3, hm4, hm5, hm6, hm7⟩ := hm
  have hst : (As.reverse ++ S).map (xUp x) = (As.map (xUp x)).reverse ++ S.map (xUp x) := by
    rw [List.map_append, List.map_reverse]
  rw [hst]
  refine g_run (va_runS (As := As.map (xUp x)) (rest := S.map (xUp x)) ⟨F.1, F.2.1, F.2.2.1, F.2.2.2.1, F.2.2.2.2.1⟩ (hE sc l x) (va_cwS (ws' := gW) n F.2.2.2.2.1 (goodIn_cons hl (goodIn_cons hm1 (goodIn_cons hm3 (gWs_good M' hm4)))) rfl rfl rfl ⟨hm5, hm6, hm7⟩ hr1) ⟨xPc_blind x sc _ h, ?_⟩ rfl (by rw [List.length_map]; exact hn) hL.1.1 rfl (cat_rest hr3) hd hr2) hS (fun H1 locs1 hH1 hS1 => ?_)
  · exact xPc_pre F hH hS As
  · have := kk x p l e s mI args below meth cd Q H1 locs1 ls F X hH1 hS1 (sz_call hH hH1 hlen hz) hL
    rw [List.map_append] at this
    cases v <;> exact this
theorem g_callSN {sc : XS} {M : MM} {pc : Nat} {L : XL} {S : List Value} {h : XH} {w : Nat × Nat} {R : Option Value → XH → Prop} {M' : MM} {idx n : Nat} {As : List Value} {v : Option Value} {h' : XH} {w' : Nat × Nat} (hd : decode (mB M) pc = .ok (.invokestatic idx, 3)) (hl : MLN (mY M).cls idx (mY M')) (hm : MokS M' n) (hE : E M' As h v h') (hn : As.length = n) (hlen : h'.1.length = h.1.length + mCe M') (hr : okR M M' S w = true) (hw' : w' = (w.1 + mCe M', w.2 + mSl M')) (kk : G sc M (pc + 3) L (v.toList ++ S) h' w' R) : G sc M pc L (As.reverse ++ S) h w R := by
  intro x p l e s mI args below meth cd Q H locs ls F X hH hS hz hL
  subst hw'
  obtain ⟨hr1, hr2, hr3⟩ := okR_of hr
  obtain ⟨hm1, hm3, hm4, hm5, hm6, hm7⟩ := hm
  have hst : (As.reverse ++ S).map (xUp x) = (As.map (xUp x)).reverse ++ S.map (xUp x) := by
    rw [List.map_append, List.map_reverse]
  rw [hst]
  refine g_run (va_runSN (As := As.map (xUp x)) (rest := S.map (xUp x)) ⟨F.1, F.2.1, F.2.2.1, F.2.2.2.1, F.2.2.2.2.1⟩ (hE sc l x) ⟨va_cnB (ws' := gW) n F.2.2.2.2.1 (gWs_good M' hm4) rfl rfl rfl (F.2.2.2.2.2.2.2.2.1.2.2.1 _ hl) (gW_b F hm3) ⟨hm5, hm6, hm7⟩ hr1, gW_b F hm1, trivial⟩ ⟨xPc_blind x sc _ h, ?_⟩ rfl (by rw [List.length_map]; exact hn) hL.1.1 rfl (cat_rest hr3) hd hr2) hS (fun H1 locs1 hH1 hS1 => ?_)
  · exact xPc_pre F hH hS As
  · have := kk x p l e s mI args below meth cd Q H1 locs1 ls F X hH1 hS1 (sz_call hH hH1 hlen hz) hL
    rw [List.map_append] at this
    cases v <;> exact this
theorem g_v0 {sc : XS} {M : MM} {pc : Nat} {L : XL} {S : List Value} {h : XH} {w : Nat × Nat} {R : Option Value → XH → Prop} {M' : MM} {idx b : Nat}  {v : Value} {h' : XH} (hd : decode (mB M) pc = .ok (.invokevirtual idx, 3)) (hl : ML (mY M).cls idx (mY M')) (hm : MokV M' 0) (hE : E M' (.ref b :: []) h (some v) h') (hrc : RC h b (mY M').cls) (hlen : h'.1.length = h.1.length) (hr : okR M M' S w = true) (hc : mCe M' = 0 ∧ mSl M' = 0) (kk : G sc M (pc + 3) L (v :: S) h' w R) : G sc M pc L (.ref b :: S) h w R :=
  g_callV (As := []) (w' := w) hd hl hm hE rfl hrc (by rw [hc.1]; exact hlen) hr (by rw [hc.1, hc.2]; rfl) kk
theorem g_v0n {sc : XS} {M : MM} {pc : Nat} {L : XL} {S : List Value} {h : XH} {w : Nat × Nat} {R : Option Value → XH → Prop} {M' : MM} {idx b : Nat}  {h' : XH} (hd : decode (mB M) pc = .ok (.invokevirtual idx, 3)) (hl : ML (mY M).cls idx (mY M')) (hm : MokV M' 0) (hE : E M' (.ref b :: []) h (none) h') (hrc : RC h b (mY M').cls) (hlen : h'.1.length = h.1.length) (hr : okR M M' S w = true) (hc : mCe M' = 0 ∧ mSl M' = 0) (kk : G sc M (pc + 3) L (S) h' w R) : G sc M pc L (.ref b :: S) h w R :=
  g_callV (As := []) (w' := w) hd hl hm hE rfl hrc (by rw [hc.1]; exact hlen) hr (by rw [hc.1, hc.2]; rfl) kk
theorem g_v1 {sc : XS} {M : MM} {pc : Nat} {L : XL} {S : List Value} {h : XH} {w : Nat × Nat} {R : Option Value → XH → Prop} {M' : MM} {idx b : Nat} {a0 : Value} {v : Value} {h' : XH} (hd : decode (mB M) pc = .ok (.invokevirtual idx, 3)) (hl : ML (mY M).cls idx (mY M')) (hm : MokV M' 1) (hE : E M' (.ref b :: [a0]) h (some v) h') (hrc : RC h b (mY M').cls) (hlen : h'.1.length = h.1.length) (hr : okR M M' S w = true) (hc : mCe M' = 0 ∧ mSl M' = 0) (kk : G sc M (pc + 3) L (v :: S) h' w R) : G sc M pc L (a0 :: .ref b :: S) h w R :=
  g_callV (As := [a0]) (w' := w) hd hl hm hE rfl hrc (by rw [hc.1]; exact hlen) hr (by rw [hc.1, hc.2]; rfl) kk
theorem g_v1n {sc : XS} {M : MM} {pc : Nat} {L : XL} {S : List Value} {h : XH} {w : Nat × Nat} {R : Option Value → XH → Prop} {M' : MM} {idx b : Nat} {a0 : Value} {h' : XH} (hd : decode (mB M) pc = .ok (.invokevirtual idx, 3)) (hl : ML (mY M).cls idx (mY M')) (hm : MokV M' 1) (hE : E M' (.ref b :: [a0]) h (none) h') (hrc : RC h b (mY M').cls) (hlen : h'.1.length = h.1.length) (hr : okR M M' S w = true) (hc : mCe M' = 0 ∧ mSl M' = 0) (kk : G sc M (pc + 3) L (S) h' w R) : G sc M pc L (a0 :: .ref b :: S) h w R :=
  g_callV (As := [a0]) (w' := w) hd hl hm hE rfl hrc (by rw [hc.1]; exact hlen) hr (by rw [hc.1, hc.2]; rfl) kk
theorem g_v2 {sc : XS} {M : MM} {pc : Nat} {L : XL} {S : List Value} {h : XH} {w : Nat × Nat} {R : Option Value → XH → Prop} {M' : MM} {idx b : Nat} {a0 a1 : Value} {v : Value} {h' : XH} (hd : decode (mB M) pc = .ok (.invokevirtual idx, 3)) (hl : ML (mY M).cls idx (mY M')) (hm : MokV M' 2) (hE : E M' (.ref b :: [a0, a1]) h (some v) h') (hrc : RC h b (mY M').cls) (hlen : h'.1.length = h.1.length) (hr : okR M M' S w = true) (hc : mCe M' = 0 ∧ mSl M' = 0) (kk : G sc M (pc + 3) L (v :: S) h' w R) : G sc M pc L (a1 :: a0 :: .ref b :: S) h w R :=
  g_callV (As := [a0, a1]) (w' := w) hd hl hm hE rfl hrc (by rw [hc.1]; exact hlen) hr (by rw [hc.1, hc.2]; rfl) kk
theorem g_v2n {sc : XS} {M : MM} {pc : Nat} {L : XL} {S : List Value} {h : XH} {w : Nat × Nat} {R : Option Value → XH → Prop} {M' : MM} {idx b : Nat} {a0 a1 : Value} {h' : XH} (hd : decode (mB M) pc = .ok (.invokevirtual idx, 3)) (hl : ML (mY M).cls idx (mY M')) (hm : MokV M' 2) (hE : E M' (.ref b :: [a0, a1]) h (none) h') (hrc : RC h b (mY M').cls) (hlen : h'.1.length = h.1.length) (hr : okR M M' S w = true) (hc : mCe M' = 0 ∧ mSl M' = 0) (kk : G sc M (pc + 3) L (S) h' w R) : G sc M pc L (a1 :: a0 :: .ref b :: S) h w R :=
  g_callV (As := [a0, a1]) (w' := w) hd hl hm hE rfl hrc (by rw [hc.1]; exact hlen) hr (by rw [hc.1, hc.2]; rfl) kk
theorem g_v3 {sc : XS} {M : MM} {pc : Nat} {L : XL} {S : List Value} {h : XH} {w : Nat × Nat} {R : Option Value → XH → Prop} {M' : MM} {idx b : Nat} {a0 a1 a2 : Value} {v : Value} {h' : XH} (hd : decode (mB M) pc = .ok (.invokevirtual idx, 3)) (hl : ML (mY M).cls idx (mY M')) (hm : MokV M' 3) (hE : E M' (.ref b :: [a0, a1, a2]) h (some v) h') (hrc : RC h b (mY M').cls) (hlen : h'.1.length = h.1.length) (hr : okR M M' S w = true) (hc : mCe M' = 0 ∧ mSl M' = 0) (kk : G sc M (pc + 3) L (v :: S) h' w R) : G sc M pc L (a2 :: a1 :: a0 :: .ref b :: S) h w R :=
  g_callV (As := [a0, a1, a2]) (w' := w) hd hl hm hE rfl hrc (by rw [hc.1]; exact hlen) hr (by rw [hc.1, hc.2]; rfl) kk
theorem g_v3n {sc : XS} {M : MM} {pc : Nat} {L : XL} {S : List Value} {h : XH} {w : Nat × Nat} {R : Option Value → XH → Prop} {M' : MM} {idx b : Nat} {a0 a1 a2 : Value} {h' : XH} (hd : decode (mB M) pc = .ok (.invokevirtual idx, 3)) (hl : ML (mY M).cls idx (mY M')) (hm : MokV M' 3) (hE : E M' (.ref b :: [a0, a1, a2]) h (none) h') (hrc : RC h b (mY M').cls) (hlen : h'.1.length = h.1.length) (hr : okR M M' S w = true) (hc : mCe M' = 0 ∧ mSl M' = 0) (kk : G sc M (pc + 3) L (S) h' w R) : G sc M pc L (a2 :: a1 :: a0 :: .ref b :: S) h w R :=
  g_callV (As := [a0, a1, a2]) (w' := w) hd hl hm hE rfl hrc (by rw [hc.1]; exact hlen) hr (by rw [hc.1, hc.2]; rfl) kk
theorem g_v4 {sc : XS} {M : MM} {pc : Nat} {L : XL} {S : List Value} {h : XH} {w : Nat × Nat} {R : Option Value → XH → Prop} {M' : MM} {idx b : Nat} {a0 a1 a2 a3 : Value} {v : Value} {h' : XH} (hd : decode (mB M) pc = .ok (.invokevirtual idx, 3)) (hl : ML (mY M).cls idx (mY M')) (hm : MokV M' 4) (hE : E M' (.ref b :: [a0, a1, a2, a3]) h (some v) h') (hrc : RC h b (mY M').cls) (hlen : h'.1.length = h.1.length) (hr : okR M M' S w = true) (hc : mCe M' = 0 ∧ mSl M' = 0) (kk : G sc M (pc + 3) L (v :: S) h' w R) : G sc M pc L (a3 :: a2 :: a1 :: a0 :: .ref b :: S) h w R :=
  g_callV (As := [a0, a1, a2, a3]) (w' := w) hd hl hm hE rfl hrc (by rw [hc.1]; exact hlen) hr (by rw [hc.1, hc.2]; rfl) kk
theorem g_v4n {sc : XS} {M : MM} {pc : Nat} {L : XL} {S : List Value} {h : XH} {w : Nat × Nat} {R : Option Value → XH → Prop} {M' : MM} {idx b : Nat} {a0 a1 a2 a3 : Value} {h' : XH} (hd : decode (mB M) pc = .ok (.invokevirtual idx, 3)) (hl : ML (mY M).cls idx (mY M')) (hm : MokV M' 4) (hE : E M' (.ref b :: [a0, a1, a2, a3]) h (none) h') (hrc : RC h b (mY M').cls) (hlen : h'.1.length = h.1.length) (hr : okR M M' S w = true) (hc : mCe M' = 0 ∧ mSl M' = 0) (kk : G sc M (pc + 3) L (S) h' w R) : G sc M pc L (a3 :: a2 :: a1 :: a0 :: .ref b :: S) h w R :=
  g_callV (As := [a0, a1, a2, a3]) (w' := w) hd hl hm hE rfl hrc (by rw [hc.1]; exact hlen) hr (by rw [hc.1, hc.2]; rfl) kk
theorem g_s0 {sc : XS} {M : MM} {pc : Nat} {L : XL} {S : List Value} {h : XH} {w : Nat × Nat} {R : Option Value → XH → Prop} {M' : MM} {idx : Nat}  {v : Value} {h' : XH} (hd : decode (mB M) pc = .ok (.invokestatic idx, 3)) (hl : ML (mY M).cls idx (mY M')) (hm : MokS M' 0) (hE : E M' [] h (some v) h') (hlen : h'.1.length = h.1.length) (hr : okR M M' S w = true) (hc : mCe M' = 0 ∧ mSl M' = 0) (kk : G sc M (pc + 3) L (v :: S) h' w R) : G sc M pc L (S) h w R :=
  g_callS (As := []) (w' := w) hd hl hm hE rfl (by rw [hc.1]; exact hlen) hr (by rw [hc.1, hc.2]; rfl) kk
theorem g_s0N {sc : XS} {M : MM} {pc : Nat} {L : XL} {S : List Value} {h : XH} {w : Nat × Nat} {R : Option Value → XH → Prop} {M' : MM} {idx : Nat}  {v : Value} {h' : XH} (hd : decode (mB M) pc = .ok (.invokestatic idx, 3)) (hl : MLN (mY M).cls idx (mY M')) (hm : MokS M' 0) (hE : E M' [] h (some v) h') (hlen : h'.1.length = h.1.length) (hr : okR M M' S w = true) (hc : mCe M' = 0 ∧ mSl M' = 0) (kk : G sc M (pc + 3) L (v :: S) h' w R) : G sc M pc L (S) h w R :=
  g_callSN (As := []) (w' := w) hd hl hm hE rfl (by rw [hc.1]; exact hlen) hr (by rw [hc.1, hc.2]; rfl) kk
theorem g_s0n {sc : XS} {M : MM} {pc : Nat} {L : XL} {S : List Value} {h : XH} {w : Nat × Nat} {R : Option Value → XH → Prop} {M' : MM} {idx : Nat}  {h' : XH} (hd : decode (mB M) pc = .ok (.invokestatic idx, 3)) (hl : ML (mY M).cls idx (mY M')) (hm : MokS M' 0) (hE : E M' [] h (none) h') (hlen : h'.1.length = h.1.length) (hr : okR M M' S w = true) (hc : mCe M' = 0 ∧ mSl M' = 0) (kk : G sc M (pc + 3) L (S) h' w R) : G sc M pc L (S) h w R :=
  g_callS (As := []) (w' := w) hd hl hm hE rfl (by rw [hc.1]; exact hlen) hr (by rw [hc.1, hc.2]; rfl) kk
theorem g_s0nN {sc : XS} {M : MM} {pc : Nat} {L : XL} {S : List Value} {h : XH} {w : Nat × Nat} {R : Option Value → XH → Prop} {M' : MM} {idx : Nat}  {h' : XH} (hd : decode (mB M) pc = .ok (.invokestatic idx, 3)) (hl : MLN (mY M).cls idx (mY M')) (hm : MokS M' 0) (hE : E M' [] h (none) h') (hlen : h'.1.length = h.1.length) (hr : okR M M' S w = true) (hc : mCe M' = 0 ∧ mSl M' = 0) (kk : G sc M (pc + 3) L (S) h' w R) : G sc M pc L (S) h w R :=
  g_callSN (As := []) (w' := w) hd hl hm hE rfl (by rw [hc.1]; exact hlen) hr (by rw [hc.1, hc.2]; rfl) kk
theorem g_s1 {sc : XS} {M : MM} {pc : Nat} {L : XL} {S : List Value} {h : XH} {w : Nat × Nat} {R : Option Value → XH → Prop} {M' : MM} {idx : Nat} {a0 : Value} {v : Value} {h' : XH} (hd : decode (mB M) pc = .ok (.invokestatic idx, 3)) (hl : ML (mY M).cls idx (mY M')) (hm : MokS M' 1) (hE : E M' [a0] h (some v) h') (hlen : h'.1.length = h.1.length) (hr : okR M M' S w = true) (hc : mCe M' = 0 ∧ mSl M' = 0) (kk : G sc M (pc + 3) L (v :: S) h' w R) : G sc M pc L (a0 :: S) h w R :=
  g_callS (As := [a0]) (w' := w) hd hl hm hE rfl (by rw [hc.1]; exact hlen) hr (by rw [hc.1, hc.2]; rfl) kk
theorem g_s1N {sc : XS} {M : MM} {pc : Nat} {L : XL} {S : List Value} {h : XH} {w : Nat × Nat} {R : Option Value → XH → Prop} {M' : MM} {idx : Nat} {a0 : Value} {v : Value} {h' : XH} (hd : decode (mB M) pc = .ok (.invokestatic idx, 3)) (hl : MLN (mY M).cls idx (mY M')) (hm : MokS M' 1) (hE : E M' [a0] h (some v) h') (hlen : h'.1.length = h.1.length) (hr : okR M M' S w = true) (hc : mCe M' = 0 ∧ mSl M' = 0) (kk : G sc M (pc + 3) L (v :: S) h' w R) : G sc M pc L (a0 :: S) h w R :=
  g_callSN (As := [a0]) (w' := w) hd hl hm hE rfl (by rw [hc.1]; exact hlen) hr (by rw [hc.1, hc.2]; rfl) kk
theorem g_s1n {sc : XS} {M : MM} {pc : Nat} {L : XL} {S : List Value} {h : XH} {w : Nat × Nat} {R : Option Value → XH → Prop} {M' : MM} {idx : Nat} {a0 : Value} {h' : XH} (hd : decode (mB M) pc = .ok (.invokestatic idx, 3)) (hl : ML (mY M).cls idx (mY M')) (hm : MokS M' 1) (hE : E M' [a0] h (none) h') (hlen : h'.1.length = h.1.length) (hr : okR M M' S w = true) (hc : mCe M' = 0 ∧ mSl M' = 0) (kk : G sc M (pc + 3) L (S) h' w R) : G sc M pc L (a0 :: S) h w R :=
  g_callS (As := [a0]) (w' := w) hd hl hm hE rfl (by rw [hc.1]; exact hlen) hr (by rw [hc.1, hc.2]; rfl) kk
theorem g_s1nN {sc : XS} {M : MM} {pc : Nat} {L : XL} {S : List Value} {h : XH} {w : Nat × Nat} {R : Option Value → XH → Prop} {M' : MM} {idx : Nat} {a0 : Value} {h' : XH} (hd : decode (mB M) pc = .ok (.invokestatic idx, 3)) (hl : MLN (mY M).cls idx (mY M')) (hm : MokS M' 1) (hE : E M' [a0] h (none) h') (hlen : h'.1.length = h.1.length) (hr : okR M M' S w = true) (hc : mCe M' = 0 ∧ mSl M' = 0) (kk : G sc M (pc + 3) L (S) h' w R) : G sc M pc L (a0 :: S) h w R :=
  g_callSN (As := [a0]) (w' := w) hd hl hm hE rfl (by rw [hc.1]; exact hlen) hr (by rw [hc.1, hc.2]; rfl) kk
theorem g_s2 {sc : XS} {M : MM} {pc : Nat} {L : XL} {S : List Value} {h : XH} {w : Nat × Nat} {R : Option Value → XH → Prop} {M' : MM} {idx : Nat} {a0 a1 : Value} {v : Value} {h' : XH} (hd : decode (mB M) pc = .ok (.invokestatic idx, 3)) (hl : ML (mY M).cls idx (mY M')) (hm : MokS M' 2) (hE : E M' [a0, a1] h (some v) h') (hlen : h'.1.length = h.1.length) (hr : okR M M' S w = true) (hc : mCe M' = 0 ∧ mSl M' = 0) (kk : G sc M (pc + 3) L (v :: S) h' w R) : G sc M pc L (a1 :: a0 :: S) h w R :=
  g_callS (As := [a0, a1]) (w' := w) hd hl hm hE rfl (by rw [hc.1]; exact hlen) hr (by rw [hc.1, hc.2]; rfl) kk
theorem g_s2N {sc : XS} {M : MM} {pc : Nat} {L : XL} {S : List Value} {h : XH} {w : Nat × Nat} {R : Option Value → XH → Prop} {M' : MM} {idx : Nat} {a0 a1 : Value} {v : Value} {h' : XH} (hd : decode (mB M) pc = .ok (.invokestatic idx, 3)) (hl : MLN (mY M).cls idx (mY M')) (hm : MokS M' 2) (hE : E M' [a0, a1] h (some v) h') (hlen : h'.1.length = h.1.length) (hr : okR M M' S w = true) (hc : mCe M' = 0 ∧ mSl M' = 0) (kk : G sc M (pc + 3) L (v :: S) h' w R) : G sc M pc L (a1 :: a0 :: S) h w R :=
  g_callSN (As := [a0, a1]) (w' := w) hd hl hm hE rfl (by rw [hc.1]; exact hlen) hr (by rw [hc.1, hc.2]; rfl) kk
theorem g_s2n {sc : XS} {M : MM} {pc : Nat} {L : XL} {S : List Value} {h : XH} {w : Nat × Nat} {R : Option Value → XH → Prop} {M' : MM} {idx : Nat} {a0 a1 : Value} {h' : XH} (hd : decode (mB M) pc = .ok (.invokestatic idx, 3)) (hl : ML (mY M).cls idx (mY M')) (hm : MokS M' 2) (hE : E M' [a0, a1] h (none) h') (hlen : h'.1.length = h.1.length) (hr : okR M M' S w = true) (hc : mCe M' = 0 ∧ mSl M' = 0) (kk : G sc M (pc + 3) L (S) h' w R) : G sc M pc L (a1 :: a0 :: S) h w R :=
  g_callS (As := [a0, a1]) (w' := w) hd hl hm hE rfl (by rw [hc.1]; exact hlen) hr (by rw [hc.1, hc.2]; rfl) kk
theorem g_s2nN {sc : XS} {M : MM} {pc : Nat} {L : XL} {S : List Value} {h : XH} {w : Nat × Nat} {R : Option Value → XH → Prop} {M' : MM} {idx : Nat} {a0 a1 : Value} {h' : XH} (hd : decode (mB M) pc = .ok (.invokestatic idx, 3)) (hl : MLN (mY M).cls idx (mY M')) (hm : MokS M' 2) (hE : E M' [a0, a1] h (none) h') (hlen : h'.1.length = h.1.length) (hr : okR M M' S w = true) (hc : mCe M' = 0 ∧ mSl M' = 0) (kk : G sc M (pc + 3) L (S) h' w R) : G sc M pc L (a1 :: a0 :: S) h w R :=
  g_callSN (As := [a0, a1]) (w' := w) hd hl hm hE rfl (by rw [hc.1]; exact hlen) hr (by rw [hc.1, hc.2]; rfl) kk
theorem g_s3 {sc : XS} {M : MM} {pc : Nat} {L : XL} {S : List Value} {h : XH} {w : Nat × Nat} {R : Option Value → XH → Prop} {M' : MM} {idx : Nat} {a0 a1 a2 : Value} {v : Value} {h' : XH} (hd : decode (mB M) pc = .ok (.invokestatic idx, 3)) (hl : ML (mY M).cls idx (mY M')) (hm : MokS M' 3) (hE : E M' [a0, a1, a2] h (some v) h') (hlen : h'.1.length = h.1.length) (hr : okR M M' S w = true) (hc : mCe M' = 0 ∧ mSl M' = 0) (kk : G sc M (pc + 3) L (v :: S) h' w R) : G sc M pc L (a2 :: a1 :: a0 :: S) h w R :=
  g_callS (As := [a0, a1, a2]) (w' := w) hd hl hm hE rfl (by rw [hc.1]; exact hlen) hr (by rw [hc.1, hc.2]; rfl) kk
theorem g_s3N {sc : XS} {M : MM} {pc : Nat} {L : XL} {S : List Value} {h : XH} {w : Nat × Nat} {R : Option Value → XH → Prop} {M' : MM} {idx : Nat} {a0 a1 a2 : Value} {v : Value} {h' : XH} (hd : decode (mB M) pc = .ok (.invokestatic idx, 3)) (hl : MLN (mY M).cls idx (mY M')) (hm : MokS M' 3) (hE : E M' [a0, a1, a2] h (some v) h') (hlen : h'.1.length = h.1.length) (hr : okR M M' S w = true) (hc : mCe M' = 0 ∧ mSl M' = 0) (kk : G sc M (pc + 3) L (v :: S) h' w R) : G sc M pc L (a2 :: a1 :: a0 :: S) h w R :=
  g_callSN (As := [a0, a1, a2]) (w' := w) hd hl hm hE rfl (by rw [hc.1]; exact hlen) hr (by rw [hc.1, hc.2]; rfl) kk
theorem g_s3n {sc : XS} {M : MM} {pc : Nat} {L : XL} {S : List Value} {h : XH} {w : Nat × Nat} {R : Option Value → XH → Prop} {M' : MM} {idx : Nat} {a0 a1 a2 : Value} {h' : XH} (hd : decode (mB M) pc = .ok (.invokestatic idx, 3)) (hl : ML (mY M).cls idx (mY M')) (hm : MokS M' 3) (hE : E M' [a0, a1, a2] h (none) h') (hlen : h'.1.length = h.1.length) (hr : okR M M' S w = true) (hc : mCe M' = 0 ∧ mSl M' = 0) (kk : G sc M (pc + 3) L (S) h' w R) : G sc M pc L (a2 :: a1 :: a0 :: S) h w R :=
  g_callS (As := [a0, a1, a2]) (w' := w) hd hl hm hE rfl (by rw [hc.1]; exact hlen) hr (by rw [hc.1, hc.2]; rfl) kk
theorem g_s3nN {sc : XS} {M : MM} {pc : Nat} {L : XL} {S : List Value} {h : XH} {w : Nat × Nat} {R : Option Value → XH → Prop} {M' : MM} {idx : Nat} {a0 a1 a2 : Value} {h' : XH} (hd : decode (mB M) pc = .ok (.invokestatic idx, 3)) (hl : MLN (mY M).cls idx (mY M')) (hm : MokS M' 3) (hE : E M' [a0, a1, a2] h (none) h') (hlen : h'.1.length = h.1.length) (hr : okR M M' S w = true) (hc : mCe M' = 0 ∧ mSl M' = 0) (kk : G sc M (pc + 3) L (S) h' w R) : G sc M pc L (a2 :: a1 :: a0 :: S) h w R :=
  g_callSN (As := [a0, a1, a2]) (w' := w) hd hl hm hE rfl (by rw [hc.1]; exact hlen) hr (by rw [hc.1, hc.2]; rfl) kk
theorem g_s4 {sc : XS} {M : MM} {pc : Nat} {L : XL} {S : List Value} {h : XH} {w : Nat × Nat} {R : Option Value → XH → Prop} {M' : MM} {idx : Nat} {a0 a1 a2 a3 : Value} {v : Value} {h' : XH} (hd : decode (mB M) pc = .ok (.invokestatic idx, 3)) (hl : ML (mY M).cls idx (mY M')) (hm : MokS M' 4) (hE : E M' [a0, a1, a2, a3] h (some v) h') (hlen : h'.1.length = h.1.length) (hr : okR M M' S w = true) (hc : mCe M' = 0 ∧ mSl M' = 0) (kk : G sc M (pc + 3) L (v :: S) h' w R) : G sc M pc L (a3 :: a2 :: a1 :: a0 :: S) h w R :=
  g_callS (As := [a0, a1, a2, a3]) (w' := w) hd hl hm hE rfl (by rw [hc.1]; exact hlen) hr (by rw [hc.1, hc.2]; rfl) kk
theorem g_s4N {sc : XS} {M : MM} {pc : Nat} {L : XL} {S : List Value} {h : XH} {w : Nat × Nat} {R : Option Value → XH → Prop} {M' : MM} {idx : Nat} {a0 a1 a2 a3 : Value} {v : Value} {h' : XH} (hd : decode (mB M) pc = .ok (.invokestatic idx, 3)) (hl : MLN (mY M).cls idx (mY M')) (hm : MokS M' 4) (hE : E M' [a0, a1, a2, a3] h (some v) h') (hlen : h'.1.length = h.1.length) (hr : okR M M' S w = true) (hc : mCe M' = 0 ∧ mSl M' = 0) (kk : G sc M (pc + 3) L (v :: S) h' w R) : G sc M pc L (a3 :: a2 :: a1 :: a0 :: S) h w R :=
  g_callSN (As := [a0, a1, a2, a3]) (w' := w) hd hl hm hE rfl (by rw [hc.1]; exact hlen) hr (by rw [hc.1, hc.2]; rfl) kk
theorem g_s4n {sc : XS} {M : MM} {pc : Nat} {L : XL} {S : List Value} {h : XH} {w : Nat × Nat} {R : Option Value → XH → Prop} {M' : MM} {idx : Nat} {a0 a1 a2 a3 : Value} {h' : XH} (hd : decode (mB M) pc = .ok (.invokestatic idx, 3)) (hl : ML (mY M).cls idx (mY M')) (hm : MokS M' 4) (hE : E M' [a0, a1, a2, a3] h (none) h') (hlen : h'.1.length = h.1.length) (hr : okR M M' S w = true) (hc : mCe M' = 0 ∧ mSl M' = 0) (kk : G sc M (pc + 3) L (S) h' w R) : G sc M pc L (a3 :: a2 :: a1 :: a0 :: S) h w R :=
  g_callS (As := [a0, a1, a2, a3]) (w' := w) hd hl hm hE rfl (by rw [hc.1]; exact hlen) hr (by rw [hc.1, hc.2]; rfl) kk
theorem g_s4nN {sc : XS} {M : MM} {pc : Nat} {L : XL} {S : List Value} {h : XH} {w : Nat × Nat} {R : Option Value → XH → Prop} {M' : MM} {idx : Nat} {a0 a1 a2 a3 : Value} {h' : XH} (hd : decode (mB M) pc = .ok (.invokestatic idx, 3)) (hl : MLN (mY M).cls idx (mY M')) (hm : MokS M' 4) (hE : E M' [a0, a1, a2, a3] h (none) h') (hlen : h'.1.length = h.1.length) (hr : okR M M' S w = true) (hc : mCe M' = 0 ∧ mSl M' = 0) (kk : G sc M (pc + 3) L (S) h' w R) : G sc M pc L (a3 :: a2 :: a1 :: a0 :: S) h w R :=
  g_callSN (As := [a0, a1, a2, a3]) (w' := w) hd hl hm hE rfl (by rw [hc.1]; exact hlen) hr (by rw [hc.1, hc.2]; rfl) kk
end
