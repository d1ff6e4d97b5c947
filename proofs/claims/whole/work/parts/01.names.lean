-- ===== PART A: goes FIRST, ahead of the names: the tables' words, and 'selects' of the private methods out of them =====
/-- a private method of a class that the tables say can be made, by its rows of tables_1 -/
def lw_okq (q : MethodName × Nat) : Prop := (q.1.cls ≠ "java/lang/invoke/MethodHandle" ∧ q.1.cls ≠ "java/lang/invoke/VarHandle") ∧ Cond.instantiable q.1.cls q.2 ∈ tables_1 ∧ Cond.privateMethod q.1 ∈ tables_1 ∧ Cond.instanceMethod q.1 ∈ tables_1
theorem lw_p0 : lw_okq (⟨"PosterSheet", "mayChange", "(I)Z"⟩, 10) := ⟨⟨by decide +kernel, by decide +kernel⟩, List.mem_of_getElem? (i := 19) (by decide +kernel), List.mem_of_getElem? (i := 260) (by decide +kernel), List.mem_of_getElem? (i := 261) (by decide +kernel)⟩
theorem lw_p1 : lw_okq (⟨"PosterSheet", "mayAnswer", "(I)Z"⟩, 10) := ⟨⟨by decide +kernel, by decide +kernel⟩, List.mem_of_getElem? (i := 19) (by decide +kernel), List.mem_of_getElem? (i := 264) (by decide +kernel), List.mem_of_getElem? (i := 265) (by decide +kernel)⟩
theorem lw_p2 : lw_okq (⟨"PosterSheet$Layout", "measure", "()V"⟩, 11) := ⟨⟨by decide +kernel, by decide +kernel⟩, List.mem_of_getElem? (i := 27) (by decide +kernel), List.mem_of_getElem? (i := 288) (by decide +kernel), List.mem_of_getElem? (i := 289) (by decide +kernel)⟩
theorem lw_p3 : lw_okq (⟨"PosterSheet$Layout", "isTrait", "(II)Z"⟩, 11) := ⟨⟨by decide +kernel, by decide +kernel⟩, List.mem_of_getElem? (i := 27) (by decide +kernel), List.mem_of_getElem? (i := 340) (by decide +kernel), List.mem_of_getElem? (i := 341) (by decide +kernel)⟩
theorem lw_p4 : lw_okq (⟨"PosterSheet$Scales", "add", "(LPosterSheet$Layout;III)V"⟩, 3) := ⟨⟨by decide +kernel, by decide +kernel⟩, List.mem_of_getElem? (i := 116) (by decide +kernel), List.mem_of_getElem? (i := 515) (by decide +kernel), List.mem_of_getElem? (i := 516) (by decide +kernel)⟩
theorem lw_p5 : lw_okq (⟨"PosterSheet$Scales", "balance", "(LPosterSheet$Layout;)D"⟩, 3) := ⟨⟨by decide +kernel, by decide +kernel⟩, List.mem_of_getElem? (i := 116) (by decide +kernel), List.mem_of_getElem? (i := 528) (by decide +kernel), List.mem_of_getElem? (i := 529) (by decide +kernel)⟩
theorem lw_p6 : lw_okq (⟨"PosterSheet$Scales", "centreX", "(LPosterSheet$Layout;)D"⟩, 3) := ⟨⟨by decide +kernel, by decide +kernel⟩, List.mem_of_getElem? (i := 116) (by decide +kernel), List.mem_of_getElem? (i := 532) (by decide +kernel), List.mem_of_getElem? (i := 533) (by decide +kernel)⟩
theorem lw_p7 : lw_okq (⟨"PosterSheet$Scales", "centreY", "(LPosterSheet$Layout;)D"⟩, 3) := ⟨⟨by decide +kernel, by decide +kernel⟩, List.mem_of_getElem? (i := 116) (by decide +kernel), List.mem_of_getElem? (i := 536) (by decide +kernel), List.mem_of_getElem? (i := 537) (by decide +kernel)⟩
theorem lw_p8 : lw_okq (⟨"PosterSheet$Places", "first", "(LPosterSheet$Layout;I)I"⟩, 3) := ⟨⟨by decide +kernel, by decide +kernel⟩, List.mem_of_getElem? (i := 132) (by decide +kernel), List.mem_of_getElem? (i := 557) (by decide +kernel), List.mem_of_getElem? (i := 558) (by decide +kernel)⟩
theorem lw_p9 : lw_okq (⟨"PosterSheet$Places", "findClashes", "(LPosterSheet$Layout;)I"⟩, 3) := ⟨⟨by decide +kernel, by decide +kernel⟩, List.mem_of_getElem? (i := 132) (by decide +kernel), List.mem_of_getElem? (i := 577) (by decide +kernel), List.mem_of_getElem? (i := 578) (by decide +kernel)⟩
theorem lw_p10 : lw_okq (⟨"PosterSheet$Places", "hasNoClash", "(I)Z"⟩, 3) := ⟨⟨by decide +kernel, by decide +kernel⟩, List.mem_of_getElem? (i := 132) (by decide +kernel), List.mem_of_getElem? (i := 586) (by decide +kernel), List.mem_of_getElem? (i := 587) (by decide +kernel)⟩
theorem lw_p11 : lw_okq (⟨"PosterSheet$Places", "takeOffAll", "(LPosterSheet$Layout;I)V"⟩, 3) := ⟨⟨by decide +kernel, by decide +kernel⟩, List.mem_of_getElem? (i := 132) (by decide +kernel), List.mem_of_getElem? (i := 596) (by decide +kernel), List.mem_of_getElem? (i := 597) (by decide +kernel)⟩
theorem lw_p12 : lw_okq (⟨"PosterSheet$Places", "nearest", "(LPosterSheet$Layout;III)I"⟩, 3) := ⟨⟨by decide +kernel, by decide +kernel⟩, List.mem_of_getElem? (i := 132) (by decide +kernel), List.mem_of_getElem? (i := 600) (by decide +kernel), List.mem_of_getElem? (i := 601) (by decide +kernel)⟩
theorem lw_p13 : lw_okq (⟨"PosterSheet$White", "cover", "(LPosterSheet$Layout;I)V"⟩, 11) := ⟨⟨by decide +kernel, by decide +kernel⟩, List.mem_of_getElem? (i := 148) (by decide +kernel), List.mem_of_getElem? (i := 635) (by decide +kernel), List.mem_of_getElem? (i := 636) (by decide +kernel)⟩
theorem lw_p14 : lw_okq (⟨"PosterSheet$White", "countCells", "()V"⟩, 11) := ⟨⟨by decide +kernel, by decide +kernel⟩, List.mem_of_getElem? (i := 148) (by decide +kernel), List.mem_of_getElem? (i := 645) (by decide +kernel), List.mem_of_getElem? (i := 646) (by decide +kernel)⟩
theorem lw_p15 : lw_okq (⟨"PosterSheet$White", "findBlock", "()V"⟩, 11) := ⟨⟨by decide +kernel, by decide +kernel⟩, List.mem_of_getElem? (i := 148) (by decide +kernel), List.mem_of_getElem? (i := 649) (by decide +kernel), List.mem_of_getElem? (i := 650) (by decide +kernel)⟩
def lw_privs_1 : List (MethodName × Nat) := [(⟨"PosterSheet", "mayChange", "(I)Z"⟩, 10), (⟨"PosterSheet", "mayAnswer", "(I)Z"⟩, 10), (⟨"PosterSheet$Layout", "measure", "()V"⟩, 11), (⟨"PosterSheet$Layout", "isTrait", "(II)Z"⟩, 11), (⟨"PosterSheet$Scales", "add", "(LPosterSheet$Layout;III)V"⟩, 3), (⟨"PosterSheet$Scales", "balance", "(LPosterSheet$Layout;)D"⟩, 3), (⟨"PosterSheet$Scales", "centreX", "(LPosterSheet$Layout;)D"⟩, 3), (⟨"PosterSheet$Scales", "centreY", "(LPosterSheet$Layout;)D"⟩, 3), (⟨"PosterSheet$Places", "first", "(LPosterSheet$Layout;I)I"⟩, 3), (⟨"PosterSheet$Places", "findClashes", "(LPosterSheet$Layout;)I"⟩, 3), (⟨"PosterSheet$Places", "hasNoClash", "(I)Z"⟩, 3), (⟨"PosterSheet$Places", "takeOffAll", "(LPosterSheet$Layout;I)V"⟩, 3), (⟨"PosterSheet$Places", "nearest", "(LPosterSheet$Layout;III)I"⟩, 3), (⟨"PosterSheet$White", "cover", "(LPosterSheet$Layout;I)V"⟩, 11), (⟨"PosterSheet$White", "countCells", "()V"⟩, 11), (⟨"PosterSheet$White", "findBlock", "()V"⟩, 11)]
theorem lw_r1 : ∀ q ∈ lw_privs_1, lw_okq q := List.forall_mem_cons.mpr ⟨lw_p0, List.forall_mem_cons.mpr ⟨lw_p1, List.forall_mem_cons.mpr ⟨lw_p2, List.forall_mem_cons.mpr ⟨lw_p3, List.forall_mem_cons.mpr ⟨lw_p4, List.forall_mem_cons.mpr ⟨lw_p5, List.forall_mem_cons.mpr ⟨lw_p6, List.forall_mem_cons.mpr ⟨lw_p7, List.forall_mem_cons.mpr ⟨lw_p8, List.forall_mem_cons.mpr ⟨lw_p9, List.forall_mem_cons.mpr ⟨lw_p10, List.forall_mem_cons.mpr ⟨lw_p11, List.forall_mem_cons.mpr ⟨lw_p12, List.forall_mem_cons.mpr ⟨lw_p13, List.forall_mem_cons.mpr ⟨lw_p14, List.forall_mem_cons.mpr ⟨lw_p15, fun _ h => absurd h List.not_mem_nil⟩⟩⟩⟩⟩⟩⟩⟩⟩⟩⟩⟩⟩⟩⟩⟩
theorem lw_p16 : lw_okq (⟨"PosterSheet$White", "tryBlocks", "(II)V"⟩, 11) := ⟨⟨by decide +kernel, by decide +kernel⟩, List.mem_of_getElem? (i := 148) (by decide +kernel), List.mem_of_getElem? (i := 653) (by decide +kernel), List.mem_of_getElem? (i := 654) (by decide +kernel)⟩
theorem lw_p17 : lw_okq (⟨"PosterSheet$White", "countParts", "()V"⟩, 11) := ⟨⟨by decide +kernel, by decide +kernel⟩, List.mem_of_getElem? (i := 148) (by decide +kernel), List.mem_of_getElem? (i := 657) (by decide +kernel), List.mem_of_getElem? (i := 658) (by decide +kernel)⟩
theorem lw_p18 : lw_okq (⟨"PosterSheet$White", "reach", "(II)V"⟩, 11) := ⟨⟨by decide +kernel, by decide +kernel⟩, List.mem_of_getElem? (i := 148) (by decide +kernel), List.mem_of_getElem? (i := 661) (by decide +kernel), List.mem_of_getElem? (i := 662) (by decide +kernel)⟩
theorem lw_p19 : lw_okq (⟨"PosterSheet$White", "spread", "(I)V"⟩, 11) := ⟨⟨by decide +kernel, by decide +kernel⟩, List.mem_of_getElem? (i := 148) (by decide +kernel), List.mem_of_getElem? (i := 666) (by decide +kernel), List.mem_of_getElem? (i := 667) (by decide +kernel)⟩
theorem lw_p20 : lw_okq (⟨"PosterSheet$White", "share", "()F"⟩, 11) := ⟨⟨by decide +kernel, by decide +kernel⟩, List.mem_of_getElem? (i := 148) (by decide +kernel), List.mem_of_getElem? (i := 674) (by decide +kernel), List.mem_of_getElem? (i := 675) (by decide +kernel)⟩
theorem lw_p21 : lw_okq (⟨"PosterSheet$Layout", "badlyLyingBits", "()I"⟩, 11) := ⟨⟨by decide +kernel, by decide +kernel⟩, List.mem_of_getElem? (i := 27) (by decide +kernel), List.mem_of_getElem? (i := 702) (by decide +kernel), List.mem_of_getElem? (i := 703) (by decide +kernel)⟩
theorem lw_p22 : lw_okq (⟨"PosterSheet$Layout", "lyingWeight", "()I"⟩, 11) := ⟨⟨by decide +kernel, by decide +kernel⟩, List.mem_of_getElem? (i := 27) (by decide +kernel), List.mem_of_getElem? (i := 706) (by decide +kernel), List.mem_of_getElem? (i := 707) (by decide +kernel)⟩
theorem lw_p23 : lw_okq (⟨"PosterSheet$Layout", "lesserPairs", "()I"⟩, 11) := ⟨⟨by decide +kernel, by decide +kernel⟩, List.mem_of_getElem? (i := 27) (by decide +kernel), List.mem_of_getElem? (i := 710) (by decide +kernel), List.mem_of_getElem? (i := 711) (by decide +kernel)⟩
theorem lw_p24 : lw_okq (⟨"PosterSheet$Layout", "howManyBefore", "(I)I"⟩, 11) := ⟨⟨by decide +kernel, by decide +kernel⟩, List.mem_of_getElem? (i := 27) (by decide +kernel), List.mem_of_getElem? (i := 724) (by decide +kernel), List.mem_of_getElem? (i := 725) (by decide +kernel)⟩
theorem lw_p25 : lw_okq (⟨"PosterSheet$Series", "then", "(III)I"⟩, 2) := ⟨⟨by decide +kernel, by decide +kernel⟩, List.mem_of_getElem? (i := 33) (by decide +kernel), List.mem_of_getElem? (i := 757) (by decide +kernel), List.mem_of_getElem? (i := 758) (by decide +kernel)⟩
theorem lw_p26 : lw_okq (⟨"PosterSheet$Series", "lay", "(II)Z"⟩, 2) := ⟨⟨by decide +kernel, by decide +kernel⟩, List.mem_of_getElem? (i := 33) (by decide +kernel), List.mem_of_getElem? (i := 771) (by decide +kernel), List.mem_of_getElem? (i := 772) (by decide +kernel)⟩
theorem lw_p27 : lw_okq (⟨"PosterSheet$Series", "isAlike", "(LPosterSheet$Layout;II)Z"⟩, 2) := ⟨⟨by decide +kernel, by decide +kernel⟩, List.mem_of_getElem? (i := 33) (by decide +kernel), List.mem_of_getElem? (i := 775) (by decide +kernel), List.mem_of_getElem? (i := 776) (by decide +kernel)⟩
theorem lw_p28 : lw_okq (⟨"PosterSheet$Text", "skipBlanks", "()V"⟩, 6) := ⟨⟨by decide +kernel, by decide +kernel⟩, List.mem_of_getElem? (i := 188) (by decide +kernel), List.mem_of_getElem? (i := 813) (by decide +kernel), List.mem_of_getElem? (i := 814) (by decide +kernel)⟩
theorem lw_p29 : lw_okq (⟨"PosterSheet$Text", "here", "()I"⟩, 6) := ⟨⟨by decide +kernel, by decide +kernel⟩, List.mem_of_getElem? (i := 188) (by decide +kernel), List.mem_of_getElem? (i := 817) (by decide +kernel), List.mem_of_getElem? (i := 818) (by decide +kernel)⟩
theorem lw_p30 : lw_okq (⟨"PosterSheet$Text", "findOrder", "(I)Z"⟩, 6) := ⟨⟨by decide +kernel, by decide +kernel⟩, List.mem_of_getElem? (i := 188) (by decide +kernel), List.mem_of_getElem? (i := 821) (by decide +kernel), List.mem_of_getElem? (i := 822) (by decide +kernel)⟩
theorem lw_p31 : lw_okq (⟨"PosterSheet$Text", "findNumber", "(I)Z"⟩, 6) := ⟨⟨by decide +kernel, by decide +kernel⟩, List.mem_of_getElem? (i := 188) (by decide +kernel), List.mem_of_getElem? (i := 831) (by decide +kernel), List.mem_of_getElem? (i := 832) (by decide +kernel)⟩
def lw_privs_2 : List (MethodName × Nat) := [(⟨"PosterSheet$White", "tryBlocks", "(II)V"⟩, 11), (⟨"PosterSheet$White", "countParts", "()V"⟩, 11), (⟨"PosterSheet$White", "reach", "(II)V"⟩, 11), (⟨"PosterSheet$White", "spread", "(I)V"⟩, 11), (⟨"PosterSheet$White", "share", "()F"⟩, 11), (⟨"PosterSheet$Layout", "badlyLyingBits", "()I"⟩, 11), (⟨"PosterSheet$Layout", "lyingWeight", "()I"⟩, 11), (⟨"PosterSheet$Layout", "lesserPairs", "()I"⟩, 11), (⟨"PosterSheet$Layout", "howManyBefore", "(I)I"⟩, 11), (⟨"PosterSheet$Series", "then", "(III)I"⟩, 2), (⟨"PosterSheet$Series", "lay", "(II)Z"⟩, 2), (⟨"PosterSheet$Series", "isAlike", "(LPosterSheet$Layout;II)Z"⟩, 2), (⟨"PosterSheet$Text", "skipBlanks", "()V"⟩, 6), (⟨"PosterSheet$Text", "here", "()I"⟩, 6), (⟨"PosterSheet$Text", "findOrder", "(I)Z"⟩, 6), (⟨"PosterSheet$Text", "findNumber", "(I)Z"⟩, 6)]
theorem lw_r2 : ∀ q ∈ lw_privs_2, lw_okq q := List.forall_mem_cons.mpr ⟨lw_p16, List.forall_mem_cons.mpr ⟨lw_p17, List.forall_mem_cons.mpr ⟨lw_p18, List.forall_mem_cons.mpr ⟨lw_p19, List.forall_mem_cons.mpr ⟨lw_p20, List.forall_mem_cons.mpr ⟨lw_p21, List.forall_mem_cons.mpr ⟨lw_p22, List.forall_mem_cons.mpr ⟨lw_p23, List.forall_mem_cons.mpr ⟨lw_p24, List.forall_mem_cons.mpr ⟨lw_p25, List.forall_mem_cons.mpr ⟨lw_p26, List.forall_mem_cons.mpr ⟨lw_p27, List.forall_mem_cons.mpr ⟨lw_p28, List.forall_mem_cons.mpr ⟨lw_p29, List.forall_mem_cons.mpr ⟨lw_p30, List.forall_mem_cons.mpr ⟨lw_p31, fun _ h => absurd h List.not_mem_nil⟩⟩⟩⟩⟩⟩⟩⟩⟩⟩⟩⟩⟩⟩⟩⟩
theorem lw_p32 : lw_okq (⟨"PosterSheet$Text", "isFigureHere", "()Z"⟩, 6) := ⟨⟨by decide +kernel, by decide +kernel⟩, List.mem_of_getElem? (i := 188) (by decide +kernel), List.mem_of_getElem? (i := 835) (by decide +kernel), List.mem_of_getElem? (i := 836) (by decide +kernel)⟩
theorem lw_p33 : lw_okq (⟨"PosterSheet", "obeys", "(I)Z"⟩, 10) := ⟨⟨by decide +kernel, by decide +kernel⟩, List.mem_of_getElem? (i := 19) (by decide +kernel), List.mem_of_getElem? (i := 840) (by decide +kernel), List.mem_of_getElem? (i := 841) (by decide +kernel)⟩
theorem lw_p34 : lw_okq (⟨"PosterSheetModel", "isItem", "(I)Z"⟩, 16) := ⟨⟨by decide +kernel, by decide +kernel⟩, List.mem_of_getElem? (i := 879) (by decide +kernel), List.mem_of_getElem? (i := 939) (by decide +kernel), List.mem_of_getElem? (i := 940) (by decide +kernel)⟩
theorem lw_p35 : lw_okq (⟨"PosterSheetModel", "many", "()I"⟩, 16) := ⟨⟨by decide +kernel, by decide +kernel⟩, List.mem_of_getElem? (i := 879) (by decide +kernel), List.mem_of_getElem? (i := 943) (by decide +kernel), List.mem_of_getElem? (i := 944) (by decide +kernel)⟩
theorem lw_p36 : lw_okq (⟨"PosterSheetModel", "isFit", "(III)Z"⟩, 16) := ⟨⟨by decide +kernel, by decide +kernel⟩, List.mem_of_getElem? (i := 879) (by decide +kernel), List.mem_of_getElem? (i := 954) (by decide +kernel), List.mem_of_getElem? (i := 955) (by decide +kernel)⟩
theorem lw_p37 : lw_okq (⟨"PosterSheetModel", "isWithin", "(III)Z"⟩, 16) := ⟨⟨by decide +kernel, by decide +kernel⟩, List.mem_of_getElem? (i := 879) (by decide +kernel), List.mem_of_getElem? (i := 958) (by decide +kernel), List.mem_of_getElem? (i := 959) (by decide +kernel)⟩
theorem lw_p38 : lw_okq (⟨"PosterSheetModel", "wide", "(I)I"⟩, 16) := ⟨⟨by decide +kernel, by decide +kernel⟩, List.mem_of_getElem? (i := 879) (by decide +kernel), List.mem_of_getElem? (i := 962) (by decide +kernel), List.mem_of_getElem? (i := 963) (by decide +kernel)⟩
theorem lw_p39 : lw_okq (⟨"PosterSheetModel", "its", "(II)I"⟩, 16) := ⟨⟨by decide +kernel, by decide +kernel⟩, List.mem_of_getElem? (i := 879) (by decide +kernel), List.mem_of_getElem? (i := 966) (by decide +kernel), List.mem_of_getElem? (i := 967) (by decide +kernel)⟩
theorem lw_p40 : lw_okq (⟨"PosterSheetModel", "sideOf", "(I)F"⟩, 16) := ⟨⟨by decide +kernel, by decide +kernel⟩, List.mem_of_getElem? (i := 879) (by decide +kernel), List.mem_of_getElem? (i := 970) (by decide +kernel), List.mem_of_getElem? (i := 971) (by decide +kernel)⟩
theorem lw_p41 : lw_okq (⟨"PosterSheetModel", "high", "(I)I"⟩, 16) := ⟨⟨by decide +kernel, by decide +kernel⟩, List.mem_of_getElem? (i := 879) (by decide +kernel), List.mem_of_getElem? (i := 979) (by decide +kernel), List.mem_of_getElem? (i := 980) (by decide +kernel)⟩
theorem lw_p42 : lw_okq (⟨"PosterSheetModel", "isLine", "(I)Z"⟩, 16) := ⟨⟨by decide +kernel, by decide +kernel⟩, List.mem_of_getElem? (i := 879) (by decide +kernel), List.mem_of_getElem? (i := 983) (by decide +kernel), List.mem_of_getElem? (i := 984) (by decide +kernel)⟩
theorem lw_p43 : lw_okq (⟨"PosterSheetModel", "lineAt", "(I)I"⟩, 16) := ⟨⟨by decide +kernel, by decide +kernel⟩, List.mem_of_getElem? (i := 879) (by decide +kernel), List.mem_of_getElem? (i := 987) (by decide +kernel), List.mem_of_getElem? (i := 988) (by decide +kernel)⟩
theorem lw_p44 : lw_okq (⟨"PosterSheetModel", "lies", "(I)Z"⟩, 16) := ⟨⟨by decide +kernel, by decide +kernel⟩, List.mem_of_getElem? (i := 879) (by decide +kernel), List.mem_of_getElem? (i := 991) (by decide +kernel), List.mem_of_getElem? (i := 992) (by decide +kernel)⟩
theorem lw_p45 : lw_okq (⟨"PosterSheetModel", "isApart", "(IIII)Z"⟩, 16) := ⟨⟨by decide +kernel, by decide +kernel⟩, List.mem_of_getElem? (i := 879) (by decide +kernel), List.mem_of_getElem? (i := 995) (by decide +kernel), List.mem_of_getElem? (i := 996) (by decide +kernel)⟩
theorem lw_p46 : lw_okq (⟨"PosterSheetModel", "refuses", "(I)I"⟩, 16) := ⟨⟨by decide +kernel, by decide +kernel⟩, List.mem_of_getElem? (i := 879) (by decide +kernel), List.mem_of_getElem? (i := 999) (by decide +kernel), List.mem_of_getElem? (i := 1000) (by decide +kernel)⟩
theorem lw_p47 : lw_okq (⟨"PosterSheetModel", "keep", "()V"⟩, 16) := ⟨⟨by decide +kernel, by decide +kernel⟩, List.mem_of_getElem? (i := 879) (by decide +kernel), List.mem_of_getElem? (i := 1012) (by decide +kernel), List.mem_of_getElem? (i := 1013) (by decide +kernel)⟩
def lw_privs_3 : List (MethodName × Nat) := [(⟨"PosterSheet$Text", "isFigureHere", "()Z"⟩, 6), (⟨"PosterSheet", "obeys", "(I)Z"⟩, 10), (⟨"PosterSheetModel", "isItem", "(I)Z"⟩, 16), (⟨"PosterSheetModel", "many", "()I"⟩, 16), (⟨"PosterSheetModel", "isFit", "(III)Z"⟩, 16), (⟨"PosterSheetModel", "isWithin", "(III)Z"⟩, 16), (⟨"PosterSheetModel", "wide", "(I)I"⟩, 16), (⟨"PosterSheetModel", "its", "(II)I"⟩, 16), (⟨"PosterSheetModel", "sideOf", "(I)F"⟩, 16), (⟨"PosterSheetModel", "high", "(I)I"⟩, 16), (⟨"PosterSheetModel", "isLine", "(I)Z"⟩, 16), (⟨"PosterSheetModel", "lineAt", "(I)I"⟩, 16), (⟨"PosterSheetModel", "lies", "(I)Z"⟩, 16), (⟨"PosterSheetModel", "isApart", "(IIII)Z"⟩, 16), (⟨"PosterSheetModel", "refuses", "(I)I"⟩, 16), (⟨"PosterSheetModel", "keep", "()V"⟩, 16)]
theorem lw_r3 : ∀ q ∈ lw_privs_3, lw_okq q := List.forall_mem_cons.mpr ⟨lw_p32, List.forall_mem_cons.mpr ⟨lw_p33, List.forall_mem_cons.mpr ⟨lw_p34, List.forall_mem_cons.mpr ⟨lw_p35, List.forall_mem_cons.mpr ⟨lw_p36, List.forall_mem_cons.mpr ⟨lw_p37, List.forall_mem_cons.mpr ⟨lw_p38, List.forall_mem_cons.mpr ⟨lw_p39, List.forall_mem_cons.mpr ⟨lw_p40, List.forall_mem_cons.mpr ⟨lw_p41, List.forall_mem_cons.mpr ⟨lw_p42, List.forall_mem_cons.mpr ⟨lw_p43, List.forall_mem_cons.mpr ⟨lw_p44, List.forall_mem_cons.mpr ⟨lw_p45, List.forall_mem_cons.mpr ⟨lw_p46, List.forall_mem_cons.mpr ⟨lw_p47, fun _ h => absurd h List.not_mem_nil⟩⟩⟩⟩⟩⟩⟩⟩⟩⟩⟩⟩⟩⟩⟩⟩
theorem lw_p48 : lw_okq (⟨"PosterSheetModel", "sheetNow", "(II)I"⟩, 16) := ⟨⟨by decide +kernel, by decide +kernel⟩, List.mem_of_getElem? (i := 879) (by decide +kernel), List.mem_of_getElem? (i := 1016) (by decide +kernel), List.mem_of_getElem? (i := 1017) (by decide +kernel)⟩
theorem lw_p49 : lw_okq (⟨"PosterSheetModel", "setNow", "(II)I"⟩, 16) := ⟨⟨by decide +kernel, by decide +kernel⟩, List.mem_of_getElem? (i := 879) (by decide +kernel), List.mem_of_getElem? (i := 1031) (by decide +kernel), List.mem_of_getElem? (i := 1032) (by decide +kernel)⟩
theorem lw_p50 : lw_okq (⟨"PosterSheetModel", "canItem", "(IIII)I"⟩, 16) := ⟨⟨by decide +kernel, by decide +kernel⟩, List.mem_of_getElem? (i := 879) (by decide +kernel), List.mem_of_getElem? (i := 1039) (by decide +kernel), List.mem_of_getElem? (i := 1040) (by decide +kernel)⟩
theorem lw_p51 : lw_okq (⟨"PosterSheetModel", "itemNow", "(IIII)I"⟩, 16) := ⟨⟨by decide +kernel, by decide +kernel⟩, List.mem_of_getElem? (i := 879) (by decide +kernel), List.mem_of_getElem? (i := 1048) (by decide +kernel), List.mem_of_getElem? (i := 1049) (by decide +kernel)⟩
theorem lw_p52 : lw_okq (⟨"PosterSheetModel", "puts", "(III)V"⟩, 16) := ⟨⟨by decide +kernel, by decide +kernel⟩, List.mem_of_getElem? (i := 879) (by decide +kernel), List.mem_of_getElem? (i := 1052) (by decide +kernel), List.mem_of_getElem? (i := 1053) (by decide +kernel)⟩
theorem lw_p53 : lw_okq (⟨"PosterSheetModel", "ofNow", "(II)I"⟩, 16) := ⟨⟨by decide +kernel, by decide +kernel⟩, List.mem_of_getElem? (i := 879) (by decide +kernel), List.mem_of_getElem? (i := 1069) (by decide +kernel), List.mem_of_getElem? (i := 1070) (by decide +kernel)⟩
theorem lw_p54 : lw_okq (⟨"PosterSheetModel", "weight", "(I)I"⟩, 16) := ⟨⟨by decide +kernel, by decide +kernel⟩, List.mem_of_getElem? (i := 879) (by decide +kernel), List.mem_of_getElem? (i := 1073) (by decide +kernel), List.mem_of_getElem? (i := 1074) (by decide +kernel)⟩
theorem lw_p55 : lw_okq (⟨"PosterSheetModel", "isFitThere", "(I)Z"⟩, 16) := ⟨⟨by decide +kernel, by decide +kernel⟩, List.mem_of_getElem? (i := 879) (by decide +kernel), List.mem_of_getElem? (i := 1077) (by decide +kernel), List.mem_of_getElem? (i := 1078) (by decide +kernel)⟩
theorem lw_p56 : lw_okq (⟨"PosterSheetModel", "sideBits", "(I)I"⟩, 16) := ⟨⟨by decide +kernel, by decide +kernel⟩, List.mem_of_getElem? (i := 879) (by decide +kernel), List.mem_of_getElem? (i := 1085) (by decide +kernel), List.mem_of_getElem? (i := 1086) (by decide +kernel)⟩
theorem lw_p57 : lw_okq (⟨"PosterSheetModel", "canLay", "(III)I"⟩, 16) := ⟨⟨by decide +kernel, by decide +kernel⟩, List.mem_of_getElem? (i := 879) (by decide +kernel), List.mem_of_getElem? (i := 1107) (by decide +kernel), List.mem_of_getElem? (i := 1108) (by decide +kernel)⟩
theorem lw_p58 : lw_okq (⟨"PosterSheetModel", "layNow", "(III)I"⟩, 16) := ⟨⟨by decide +kernel, by decide +kernel⟩, List.mem_of_getElem? (i := 879) (by decide +kernel), List.mem_of_getElem? (i := 1111) (by decide +kernel), List.mem_of_getElem? (i := 1112) (by decide +kernel)⟩
theorem lw_p59 : lw_okq (⟨"PosterSheetModel", "canOff", "(I)I"⟩, 16) := ⟨⟨by decide +kernel, by decide +kernel⟩, List.mem_of_getElem? (i := 879) (by decide +kernel), List.mem_of_getElem? (i := 1119) (by decide +kernel), List.mem_of_getElem? (i := 1120) (by decide +kernel)⟩
theorem lw_p60 : lw_okq (⟨"PosterSheetModel", "offNow", "(I)I"⟩, 16) := ⟨⟨by decide +kernel, by decide +kernel⟩, List.mem_of_getElem? (i := 879) (by decide +kernel), List.mem_of_getElem? (i := 1123) (by decide +kernel), List.mem_of_getElem? (i := 1124) (by decide +kernel)⟩
theorem lw_p61 : lw_okq (⟨"PosterSheetModel", "liesMany", "()I"⟩, 16) := ⟨⟨by decide +kernel, by decide +kernel⟩, List.mem_of_getElem? (i := 879) (by decide +kernel), List.mem_of_getElem? (i := 1127) (by decide +kernel), List.mem_of_getElem? (i := 1128) (by decide +kernel)⟩
theorem lw_p62 : lw_okq (⟨"PosterSheetModel", "freeNow", "(II)I"⟩, 16) := ⟨⟨by decide +kernel, by decide +kernel⟩, List.mem_of_getElem? (i := 879) (by decide +kernel), List.mem_of_getElem? (i := 1139) (by decide +kernel), List.mem_of_getElem? (i := 1140) (by decide +kernel)⟩
theorem lw_p63 : lw_okq (⟨"PosterSheetModel", "firstPlace", "(I)I"⟩, 16) := ⟨⟨by decide +kernel, by decide +kernel⟩, List.mem_of_getElem? (i := 879) (by decide +kernel), List.mem_of_getElem? (i := 1143) (by decide +kernel), List.mem_of_getElem? (i := 1144) (by decide +kernel)⟩
def lw_privs_4 : List (MethodName × Nat) := [(⟨"PosterSheetModel", "sheetNow", "(II)I"⟩, 16), (⟨"PosterSheetModel", "setNow", "(II)I"⟩, 16), (⟨"PosterSheetModel", "canItem", "(IIII)I"⟩, 16), (⟨"PosterSheetModel", "itemNow", "(IIII)I"⟩, 16), (⟨"PosterSheetModel", "puts", "(III)V"⟩, 16), (⟨"PosterSheetModel", "ofNow", "(II)I"⟩, 16), (⟨"PosterSheetModel", "weight", "(I)I"⟩, 16), (⟨"PosterSheetModel", "isFitThere", "(I)Z"⟩, 16), (⟨"PosterSheetModel", "sideBits", "(I)I"⟩, 16), (⟨"PosterSheetModel", "canLay", "(III)I"⟩, 16), (⟨"PosterSheetModel", "layNow", "(III)I"⟩, 16), (⟨"PosterSheetModel", "canOff", "(I)I"⟩, 16), (⟨"PosterSheetModel", "offNow", "(I)I"⟩, 16), (⟨"PosterSheetModel", "liesMany", "()I"⟩, 16), (⟨"PosterSheetModel", "freeNow", "(II)I"⟩, 16), (⟨"PosterSheetModel", "firstPlace", "(I)I"⟩, 16)]
theorem lw_r4 : ∀ q ∈ lw_privs_4, lw_okq q := List.forall_mem_cons.mpr ⟨lw_p48, List.forall_mem_cons.mpr ⟨lw_p49, List.forall_mem_cons.mpr ⟨lw_p50, List.forall_mem_cons.mpr ⟨lw_p51, List.forall_mem_cons.mpr ⟨lw_p52, List.forall_mem_cons.mpr ⟨lw_p53, List.forall_mem_cons.mpr ⟨lw_p54, List.forall_mem_cons.mpr ⟨lw_p55, List.forall_mem_cons.mpr ⟨lw_p56, List.forall_mem_cons.mpr ⟨lw_p57, List.forall_mem_cons.mpr ⟨lw_p58, List.forall_mem_cons.mpr ⟨lw_p59, List.forall_mem_cons.mpr ⟨lw_p60, List.forall_mem_cons.mpr ⟨lw_p61, List.forall_mem_cons.mpr ⟨lw_p62, List.forall_mem_cons.mpr ⟨lw_p63, fun _ h => absurd h List.not_mem_nil⟩⟩⟩⟩⟩⟩⟩⟩⟩⟩⟩⟩⟩⟩⟩⟩
theorem lw_p64 : lw_okq (⟨"PosterSheetModel", "placesMany", "(I)I"⟩, 16) := ⟨⟨by decide +kernel, by decide +kernel⟩, List.mem_of_getElem? (i := 879) (by decide +kernel), List.mem_of_getElem? (i := 1147) (by decide +kernel), List.mem_of_getElem? (i := 1148) (by decide +kernel)⟩
theorem lw_p65 : lw_okq (⟨"PosterSheetModel", "bestPlace", "(I)I"⟩, 16) := ⟨⟨by decide +kernel, by decide +kernel⟩, List.mem_of_getElem? (i := 879) (by decide +kernel), List.mem_of_getElem? (i := 1151) (by decide +kernel), List.mem_of_getElem? (i := 1152) (by decide +kernel)⟩
theorem lw_p66 : lw_okq (⟨"PosterSheetModel", "balance", "()D"⟩, 16) := ⟨⟨by decide +kernel, by decide +kernel⟩, List.mem_of_getElem? (i := 879) (by decide +kernel), List.mem_of_getElem? (i := 1155) (by decide +kernel), List.mem_of_getElem? (i := 1156) (by decide +kernel)⟩
theorem lw_p67 : lw_okq (⟨"PosterSheetModel", "centreOf", "(Z)D"⟩, 16) := ⟨⟨by decide +kernel, by decide +kernel⟩, List.mem_of_getElem? (i := 879) (by decide +kernel), List.mem_of_getElem? (i := 1159) (by decide +kernel), List.mem_of_getElem? (i := 1160) (by decide +kernel)⟩
theorem lw_p68 : lw_okq (⟨"PosterSheetModel", "weights", "()I"⟩, 16) := ⟨⟨by decide +kernel, by decide +kernel⟩, List.mem_of_getElem? (i := 879) (by decide +kernel), List.mem_of_getElem? (i := 1163) (by decide +kernel), List.mem_of_getElem? (i := 1164) (by decide +kernel)⟩
theorem lw_p69 : lw_okq (⟨"PosterSheetModel", "middle", "(Z)D"⟩, 16) := ⟨⟨by decide +kernel, by decide +kernel⟩, List.mem_of_getElem? (i := 879) (by decide +kernel), List.mem_of_getElem? (i := 1168) (by decide +kernel), List.mem_of_getElem? (i := 1169) (by decide +kernel)⟩
theorem lw_p70 : lw_okq (⟨"PosterSheetModel", "lastPlace", "(I)I"⟩, 16) := ⟨⟨by decide +kernel, by decide +kernel⟩, List.mem_of_getElem? (i := 879) (by decide +kernel), List.mem_of_getElem? (i := 1172) (by decide +kernel), List.mem_of_getElem? (i := 1173) (by decide +kernel)⟩
theorem lw_p71 : lw_okq (⟨"PosterSheetModel", "packNow", "()I"⟩, 16) := ⟨⟨by decide +kernel, by decide +kernel⟩, List.mem_of_getElem? (i := 879) (by decide +kernel), List.mem_of_getElem? (i := 1180) (by decide +kernel), List.mem_of_getElem? (i := 1181) (by decide +kernel)⟩
theorem lw_p72 : lw_okq (⟨"PosterSheetModel", "staying", "()I"⟩, 16) := ⟨⟨by decide +kernel, by decide +kernel⟩, List.mem_of_getElem? (i := 879) (by decide +kernel), List.mem_of_getElem? (i := 1188) (by decide +kernel), List.mem_of_getElem? (i := 1189) (by decide +kernel)⟩
theorem lw_p73 : lw_okq (⟨"PosterSheetModel", "areFit", "(I)Z"⟩, 16) := ⟨⟨by decide +kernel, by decide +kernel⟩, List.mem_of_getElem? (i := 879) (by decide +kernel), List.mem_of_getElem? (i := 1192) (by decide +kernel), List.mem_of_getElem? (i := 1193) (by decide +kernel)⟩
theorem lw_p74 : lw_okq (⟨"PosterSheetModel", "nearest", "(III)I"⟩, 16) := ⟨⟨by decide +kernel, by decide +kernel⟩, List.mem_of_getElem? (i := 879) (by decide +kernel), List.mem_of_getElem? (i := 1203) (by decide +kernel), List.mem_of_getElem? (i := 1204) (by decide +kernel)⟩
theorem lw_p75 : lw_okq (⟨"PosterSheetModel", "isCell", "(II)Z"⟩, 16) := ⟨⟨by decide +kernel, by decide +kernel⟩, List.mem_of_getElem? (i := 879) (by decide +kernel), List.mem_of_getElem? (i := 1214) (by decide +kernel), List.mem_of_getElem? (i := 1215) (by decide +kernel)⟩
theorem lw_p76 : lw_okq (⟨"PosterSheetModel", "covering", "(II)I"⟩, 16) := ⟨⟨by decide +kernel, by decide +kernel⟩, List.mem_of_getElem? (i := 879) (by decide +kernel), List.mem_of_getElem? (i := 1218) (by decide +kernel), List.mem_of_getElem? (i := 1219) (by decide +kernel)⟩
theorem lw_p77 : lw_okq (⟨"PosterSheetModel", "covers", "(III)Z"⟩, 16) := ⟨⟨by decide +kernel, by decide +kernel⟩, List.mem_of_getElem? (i := 879) (by decide +kernel), List.mem_of_getElem? (i := 1222) (by decide +kernel), List.mem_of_getElem? (i := 1223) (by decide +kernel)⟩
theorem lw_p78 : lw_okq (⟨"PosterSheetModel", "whiteNow", "(I)I"⟩, 16) := ⟨⟨by decide +kernel, by decide +kernel⟩, List.mem_of_getElem? (i := 879) (by decide +kernel), List.mem_of_getElem? (i := 1231) (by decide +kernel), List.mem_of_getElem? (i := 1232) (by decide +kernel)⟩
theorem lw_p79 : lw_okq (⟨"PosterSheetModel", "laysWhite", "()I"⟩, 16) := ⟨⟨by decide +kernel, by decide +kernel⟩, List.mem_of_getElem? (i := 879) (by decide +kernel), List.mem_of_getElem? (i := 1235) (by decide +kernel), List.mem_of_getElem? (i := 1236) (by decide +kernel)⟩
def lw_privs_5 : List (MethodName × Nat) := [(⟨"PosterSheetModel", "placesMany", "(I)I"⟩, 16), (⟨"PosterSheetModel", "bestPlace", "(I)I"⟩, 16), (⟨"PosterSheetModel", "balance", "()D"⟩, 16), (⟨"PosterSheetModel", "centreOf", "(Z)D"⟩, 16), (⟨"PosterSheetModel", "weights", "()I"⟩, 16), (⟨"PosterSheetModel", "middle", "(Z)D"⟩, 16), (⟨"PosterSheetModel", "lastPlace", "(I)I"⟩, 16), (⟨"PosterSheetModel", "packNow", "()I"⟩, 16), (⟨"PosterSheetModel", "staying", "()I"⟩, 16), (⟨"PosterSheetModel", "areFit", "(I)Z"⟩, 16), (⟨"PosterSheetModel", "nearest", "(III)I"⟩, 16), (⟨"PosterSheetModel", "isCell", "(II)Z"⟩, 16), (⟨"PosterSheetModel", "covering", "(II)I"⟩, 16), (⟨"PosterSheetModel", "covers", "(III)Z"⟩, 16), (⟨"PosterSheetModel", "whiteNow", "(I)I"⟩, 16), (⟨"PosterSheetModel", "laysWhite", "()I"⟩, 16)]
theorem lw_r5 : ∀ q ∈ lw_privs_5, lw_okq q := List.forall_mem_cons.mpr ⟨lw_p64, List.forall_mem_cons.mpr ⟨lw_p65, List.forall_mem_cons.mpr ⟨lw_p66, List.forall_mem_cons.mpr ⟨lw_p67, List.forall_mem_cons.mpr ⟨lw_p68, List.forall_mem_cons.mpr ⟨lw_p69, List.forall_mem_cons.mpr ⟨lw_p70, List.forall_mem_cons.mpr ⟨lw_p71, List.forall_mem_cons.mpr ⟨lw_p72, List.forall_mem_cons.mpr ⟨lw_p73, List.forall_mem_cons.mpr ⟨lw_p74, List.forall_mem_cons.mpr ⟨lw_p75, List.forall_mem_cons.mpr ⟨lw_p76, List.forall_mem_cons.mpr ⟨lw_p77, List.forall_mem_cons.mpr ⟨lw_p78, List.forall_mem_cons.mpr ⟨lw_p79, fun _ h => absurd h List.not_mem_nil⟩⟩⟩⟩⟩⟩⟩⟩⟩⟩⟩⟩⟩⟩⟩⟩
theorem lw_p80 : lw_okq (⟨"PosterSheetModel", "heaps", "()I"⟩, 16) := ⟨⟨by decide +kernel, by decide +kernel⟩, List.mem_of_getElem? (i := 879) (by decide +kernel), List.mem_of_getElem? (i := 1239) (by decide +kernel), List.mem_of_getElem? (i := 1240) (by decide +kernel)⟩
theorem lw_p81 : lw_okq (⟨"PosterSheetModel", "heapOf", "(I)I"⟩, 16) := ⟨⟨by decide +kernel, by decide +kernel⟩, List.mem_of_getElem? (i := 879) (by decide +kernel), List.mem_of_getElem? (i := 1243) (by decide +kernel), List.mem_of_getElem? (i := 1244) (by decide +kernel)⟩
theorem lw_p82 : lw_okq (⟨"PosterSheetModel", "findsBlock", "()V"⟩, 16) := ⟨⟨by decide +kernel, by decide +kernel⟩, List.mem_of_getElem? (i := 879) (by decide +kernel), List.mem_of_getElem? (i := 1247) (by decide +kernel), List.mem_of_getElem? (i := 1248) (by decide +kernel)⟩
theorem lw_p83 : lw_okq (⟨"PosterSheetModel", "centreBits", "(I)J"⟩, 16) := ⟨⟨by decide +kernel, by decide +kernel⟩, List.mem_of_getElem? (i := 879) (by decide +kernel), List.mem_of_getElem? (i := 1255) (by decide +kernel), List.mem_of_getElem? (i := 1256) (by decide +kernel)⟩
theorem lw_p84 : lw_okq (⟨"PosterSheetModel", "allNow", "(I)I"⟩, 16) := ⟨⟨by decide +kernel, by decide +kernel⟩, List.mem_of_getElem? (i := 879) (by decide +kernel), List.mem_of_getElem? (i := 1273) (by decide +kernel), List.mem_of_getElem? (i := 1274) (by decide +kernel)⟩
theorem lw_p85 : lw_okq (⟨"PosterSheetModel", "smallPairs", "()I"⟩, 16) := ⟨⟨by decide +kernel, by decide +kernel⟩, List.mem_of_getElem? (i := 879) (by decide +kernel), List.mem_of_getElem? (i := 1277) (by decide +kernel), List.mem_of_getElem? (i := 1278) (by decide +kernel)⟩
theorem lw_p86 : lw_okq (⟨"PosterSheetModel", "cells", "(I)I"⟩, 16) := ⟨⟨by decide +kernel, by decide +kernel⟩, List.mem_of_getElem? (i := 879) (by decide +kernel), List.mem_of_getElem? (i := 1281) (by decide +kernel), List.mem_of_getElem? (i := 1282) (by decide +kernel)⟩
theorem lw_p87 : lw_okq (⟨"PosterSheetModel", "aheadOf", "(I)I"⟩, 16) := ⟨⟨by decide +kernel, by decide +kernel⟩, List.mem_of_getElem? (i := 879) (by decide +kernel), List.mem_of_getElem? (i := 1289) (by decide +kernel), List.mem_of_getElem? (i := 1290) (by decide +kernel)⟩
theorem lw_p88 : lw_okq (⟨"PosterSheetModel", "isKept", "(I)Z"⟩, 16) := ⟨⟨by decide +kernel, by decide +kernel⟩, List.mem_of_getElem? (i := 879) (by decide +kernel), List.mem_of_getElem? (i := 1301) (by decide +kernel), List.mem_of_getElem? (i := 1302) (by decide +kernel)⟩
theorem lw_p89 : lw_okq (⟨"PosterSheetModel", "kept", "(III)I"⟩, 16) := ⟨⟨by decide +kernel, by decide +kernel⟩, List.mem_of_getElem? (i := 879) (by decide +kernel), List.mem_of_getElem? (i := 1305) (by decide +kernel), List.mem_of_getElem? (i := 1306) (by decide +kernel)⟩
theorem lw_p90 : lw_okq (⟨"PosterSheetModel", "otherwiseNow", "(II)I"⟩, 16) := ⟨⟨by decide +kernel, by decide +kernel⟩, List.mem_of_getElem? (i := 879) (by decide +kernel), List.mem_of_getElem? (i := 1313) (by decide +kernel), List.mem_of_getElem? (i := 1314) (by decide +kernel)⟩
theorem lw_p91 : lw_okq (⟨"PosterSheetModel", "readsOrder", "(Z)Z"⟩, 16) := ⟨⟨by decide +kernel, by decide +kernel⟩, List.mem_of_getElem? (i := 879) (by decide +kernel), List.mem_of_getElem? (i := 1330) (by decide +kernel), List.mem_of_getElem? (i := 1331) (by decide +kernel)⟩
theorem lw_p92 : lw_okq (⟨"PosterSheetModel", "here", "()I"⟩, 16) := ⟨⟨by decide +kernel, by decide +kernel⟩, List.mem_of_getElem? (i := 879) (by decide +kernel), List.mem_of_getElem? (i := 1334) (by decide +kernel), List.mem_of_getElem? (i := 1335) (by decide +kernel)⟩
theorem lw_p93 : lw_okq (⟨"PosterSheetModel", "takesAll", "(I)Z"⟩, 16) := ⟨⟨by decide +kernel, by decide +kernel⟩, List.mem_of_getElem? (i := 879) (by decide +kernel), List.mem_of_getElem? (i := 1344) (by decide +kernel), List.mem_of_getElem? (i := 1345) (by decide +kernel)⟩
theorem lw_p94 : lw_okq (⟨"PosterSheetModel", "isFigure", "(I)Z"⟩, 16) := ⟨⟨by decide +kernel, by decide +kernel⟩, List.mem_of_getElem? (i := 879) (by decide +kernel), List.mem_of_getElem? (i := 1348) (by decide +kernel), List.mem_of_getElem? (i := 1349) (by decide +kernel)⟩
theorem lw_p95 : lw_okq (⟨"PosterSheetModel", "can", "(I)I"⟩, 16) := ⟨⟨by decide +kernel, by decide +kernel⟩, List.mem_of_getElem? (i := 879) (by decide +kernel), List.mem_of_getElem? (i := 1354) (by decide +kernel), List.mem_of_getElem? (i := 1355) (by decide +kernel)⟩
def lw_privs_6 : List (MethodName × Nat) := [(⟨"PosterSheetModel", "heaps", "()I"⟩, 16), (⟨"PosterSheetModel", "heapOf", "(I)I"⟩, 16), (⟨"PosterSheetModel", "findsBlock", "()V"⟩, 16), (⟨"PosterSheetModel", "centreBits", "(I)J"⟩, 16), (⟨"PosterSheetModel", "allNow", "(I)I"⟩, 16), (⟨"PosterSheetModel", "smallPairs", "()I"⟩, 16), (⟨"PosterSheetModel", "cells", "(I)I"⟩, 16), (⟨"PosterSheetModel", "aheadOf", "(I)I"⟩, 16), (⟨"PosterSheetModel", "isKept", "(I)Z"⟩, 16), (⟨"PosterSheetModel", "kept", "(III)I"⟩, 16), (⟨"PosterSheetModel", "otherwiseNow", "(II)I"⟩, 16), (⟨"PosterSheetModel", "readsOrder", "(Z)Z"⟩, 16), (⟨"PosterSheetModel", "here", "()I"⟩, 16), (⟨"PosterSheetModel", "takesAll", "(I)Z"⟩, 16), (⟨"PosterSheetModel", "isFigure", "(I)Z"⟩, 16), (⟨"PosterSheetModel", "can", "(I)I"⟩, 16)]
theorem lw_r6 : ∀ q ∈ lw_privs_6, lw_okq q := List.forall_mem_cons.mpr ⟨lw_p80, List.forall_mem_cons.mpr ⟨lw_p81, List.forall_mem_cons.mpr ⟨lw_p82, List.forall_mem_cons.mpr ⟨lw_p83, List.forall_mem_cons.mpr ⟨lw_p84, List.forall_mem_cons.mpr ⟨lw_p85, List.forall_mem_cons.mpr ⟨lw_p86, List.forall_mem_cons.mpr ⟨lw_p87, List.forall_mem_cons.mpr ⟨lw_p88, List.forall_mem_cons.mpr ⟨lw_p89, List.forall_mem_cons.mpr ⟨lw_p90, List.forall_mem_cons.mpr ⟨lw_p91, List.forall_mem_cons.mpr ⟨lw_p92, List.forall_mem_cons.mpr ⟨lw_p93, List.forall_mem_cons.mpr ⟨lw_p94, List.forall_mem_cons.mpr ⟨lw_p95, fun _ h => absurd h List.not_mem_nil⟩⟩⟩⟩⟩⟩⟩⟩⟩⟩⟩⟩⟩⟩⟩⟩
theorem lw_p96 : lw_okq (⟨"PosterSheetModel", "does", "(I)I"⟩, 16) := ⟨⟨by decide +kernel, by decide +kernel⟩, List.mem_of_getElem? (i := 879) (by decide +kernel), List.mem_of_getElem? (i := 1361) (by decide +kernel), List.mem_of_getElem? (i := 1362) (by decide +kernel)⟩
theorem lw_p97 : lw_okq (⟨"PosterSheetModel", "keepsAside", "()V"⟩, 16) := ⟨⟨by decide +kernel, by decide +kernel⟩, List.mem_of_getElem? (i := 879) (by decide +kernel), List.mem_of_getElem? (i := 1365) (by decide +kernel), List.mem_of_getElem? (i := 1366) (by decide +kernel)⟩
theorem lw_p98 : lw_okq (⟨"PosterSheetModel", "toldOf", "(I)I"⟩, 16) := ⟨⟨by decide +kernel, by decide +kernel⟩, List.mem_of_getElem? (i := 879) (by decide +kernel), List.mem_of_getElem? (i := 1378) (by decide +kernel), List.mem_of_getElem? (i := 1379) (by decide +kernel)⟩
theorem lw_p99 : lw_okq (⟨"PosterSheetModel", "keptSet", "()I"⟩, 16) := ⟨⟨by decide +kernel, by decide +kernel⟩, List.mem_of_getElem? (i := 879) (by decide +kernel), List.mem_of_getElem? (i := 1382) (by decide +kernel), List.mem_of_getElem? (i := 1383) (by decide +kernel)⟩
def lw_privs_7 : List (MethodName × Nat) := [(⟨"PosterSheetModel", "does", "(I)I"⟩, 16), (⟨"PosterSheetModel", "keepsAside", "()V"⟩, 16), (⟨"PosterSheetModel", "toldOf", "(I)I"⟩, 16), (⟨"PosterSheetModel", "keptSet", "()I"⟩, 16)]
theorem lw_r7 : ∀ q ∈ lw_privs_7, lw_okq q := List.forall_mem_cons.mpr ⟨lw_p96, List.forall_mem_cons.mpr ⟨lw_p97, List.forall_mem_cons.mpr ⟨lw_p98, List.forall_mem_cons.mpr ⟨lw_p99, fun _ h => absurd h List.not_mem_nil⟩⟩⟩⟩
def lw_privs : List (MethodName × Nat) := lw_privs_1 ++ (lw_privs_2 ++ (lw_privs_3 ++ (lw_privs_4 ++ (lw_privs_5 ++ (lw_privs_6 ++ (lw_privs_7))))))
def lw_tbl : List Cond := k2_sels lw_privs ++ tables_1
theorem lw_privs_ok : ∀ q ∈ lw_privs, lw_okq q := by
  show ∀ q ∈ lw_privs_1 ++ (lw_privs_2 ++ (lw_privs_3 ++ (lw_privs_4 ++ (lw_privs_5 ++ (lw_privs_6 ++ (lw_privs_7)))))), lw_okq q
  exact List.forall_mem_append.mpr ⟨lw_r1, List.forall_mem_append.mpr ⟨lw_r2, List.forall_mem_append.mpr ⟨lw_r3, List.forall_mem_append.mpr ⟨lw_r4, List.forall_mem_append.mpr ⟨lw_r5, List.forall_mem_append.mpr ⟨lw_r6, lw_r7⟩⟩⟩⟩⟩⟩
/-- the streams that the claim lets the run draw from -/
abbrev lw_cs : List Choice := [Jvm.Choice.named "NaN.bits"]
theorem lw_bits : nanBits ∈ lw_cs := by first | decide | exact List.mem_cons_self | simp [lw_cs, nanBits]
def RX0 : String := "PosterSheet$Bits"
def TX0 : u_T := fun k => match k with
  | _ => ("", "", "", false)
def tyX0 : Nat → FieldType := fun k => match k with
  | _ => .int
abbrev wsX00 : List Cond := u_ws RX0 TX0 0
theorem nmX0 : ∀ a, a < 0 → ∀ b, b < 0 → a ≠ b → (TX0 a).2.1 ≠ (TX0 b).2.1 := by decide +kernel
theorem tyX0_ok : ∀ k, k < 0 → parseFieldDescriptor (TX0 k).2.2.1 = some (tyX0 k) := by decide +kernel
abbrev cX0_ofFloat : ByteArray := prog_2_method_2_code
def yX0_ofFloat : MethodName := ⟨RX0, "ofFloat", "(F)I"⟩
abbrev cX0_ofDouble : ByteArray := prog_2_method_3_code
def yX0_ofDouble : MethodName := ⟨RX0, "ofDouble", "(D)J"⟩
def RX1 : String := "PosterSheet$Layout"
def TX1 : u_T := fun k => match k with
  | 0 => ("PosterSheet$Layout", "width", "I", false)
  | 1 => ("PosterSheet$Layout", "height", "I", false)
  | 2 => ("PosterSheet$Layout", "count", "I", false)
  | 3 => ("PosterSheet$Layout", "series", "LPosterSheet$Series;", true)
  | 4 => ("PosterSheet$Layout", "settings", "[I", true)
  | 5 => ("PosterSheet$Layout", "traits", "[I", true)
  | 6 => ("PosterSheet$Layout", "xs", "[I", true)
  | 7 => ("PosterSheet$Layout", "ys", "[I", true)
  | 8 => ("PosterSheet$Layout", "wides", "[I", true)
  | 9 => ("PosterSheet$Layout", "highs", "[I", true)
  | _ => ("PosterSheet$Layout", "lineBits", "I", false)
def tyX1 : Nat → FieldType := fun k => match k with
  | 0 => .int
  | 1 => .int
  | 2 => .int
  | 3 => .object "PosterSheet$Series"
  | 4 => .array .int
  | 5 => .array .int
  | 6 => .array .int
  | 7 => .array .int
  | 8 => .array .int
  | 9 => .array .int
  | _ => .int
abbrev wsX10 : List Cond := u_ws RX1 TX1 11
theorem nmX1 : ∀ a, a < 11 → ∀ b, b < 11 → a ≠ b → (TX1 a).2.1 ≠ (TX1 b).2.1 := by decide +kernel
theorem tyX1_ok : ∀ k, k < 11 → parseFieldDescriptor (TX1 k).2.2.1 = some (tyX1 k) := by decide +kernel
abbrev cX1_init : ByteArray := prog_3_method_1_code
def yX1_init : MethodName := ⟨RX1, "<init>", "()V"⟩
abbrev cX1_copyFrom : ByteArray := prog_3_method_2_code
def yX1_copyFrom : MethodName := ⟨RX1, "copyFrom", "(LPosterSheet$Layout;)V"⟩
abbrev cX1_hasItem : ByteArray := prog_3_method_3_code
def yX1_hasItem : MethodName := ⟨RX1, "hasItem", "(I)Z"⟩
abbrev cX1_setting : ByteArray := prog_3_method_4_code
def yX1_setting : MethodName := ⟨RX1, "setting", "(I)I"⟩
abbrev cX1_trait : ByteArray := prog_3_method_5_code
def yX1_trait : MethodName := ⟨RX1, "trait", "(II)I"⟩
abbrev cX1_againstSize : ByteArray := prog_3_method_6_code
def yX1_againstSize : MethodName := ⟨RX1, "againstSize", "(II)I"⟩
abbrev cX1_resize : ByteArray := prog_3_method_7_code
def yX1_resize : MethodName := ⟨RX1, "resize", "(II)I"⟩
abbrev cX1_againstSetting : ByteArray := prog_3_method_8_code
def yX1_againstSetting : MethodName := ⟨RX1, "againstSetting", "(II)I"⟩
abbrev cX1_putSetting : ByteArray := prog_3_method_9_code
def yX1_putSetting : MethodName := ⟨RX1, "putSetting", "(II)I"⟩
abbrev cX1_isTrait : ByteArray := prog_3_method_10_code
def yX1_isTrait : MethodName := ⟨RX1, "isTrait", "(II)Z"⟩
abbrev cX1_againstItem : ByteArray := prog_3_method_11_code
def yX1_againstItem : MethodName := ⟨RX1, "againstItem", "(IIII)I"⟩
abbrev cX1_addItem : ByteArray := prog_3_method_12_code
def yX1_addItem : MethodName := ⟨RX1, "addItem", "(IIII)I"⟩
abbrev cX1_removeItem : ByteArray := prog_3_method_13_code
def yX1_removeItem : MethodName := ⟨RX1, "removeItem", "(I)I"⟩
abbrev cX1_againstTrait : ByteArray := prog_3_method_14_code
def yX1_againstTrait : MethodName := ⟨RX1, "againstTrait", "(III)I"⟩
abbrev cX1_putTrait : ByteArray := prog_3_method_15_code
def yX1_putTrait : MethodName := ⟨RX1, "putTrait", "(III)I"⟩
abbrev cX1_sideOf : ByteArray := prog_3_method_16_code
def yX1_sideOf : MethodName := ⟨RX1, "sideOf", "(I)F"⟩
abbrev cX1_cutToCells : ByteArray := prog_3_method_17_code
def yX1_cutToCells : MethodName := ⟨RX1, "cutToCells", "(F)I"⟩
abbrev cX1_measure : ByteArray := prog_3_method_18_code
def yX1_measure : MethodName := ⟨RX1, "measure", "()V"⟩
abbrev cX1_lineOf : ByteArray := prog_3_method_19_code
def yX1_lineOf : MethodName := ⟨RX1, "lineOf", "(I)I"⟩
abbrev cX1_wide : ByteArray := prog_3_method_20_code
def yX1_wide : MethodName := ⟨RX1, "wide", "(I)I"⟩
abbrev cX1_high : ByteArray := prog_3_method_21_code
def yX1_high : MethodName := ⟨RX1, "high", "(I)I"⟩
abbrev cX1_weight : ByteArray := prog_3_method_22_code
def yX1_weight : MethodName := ⟨RX1, "weight", "(I)I"⟩
abbrev cX1_xOf : ByteArray := prog_3_method_23_code
def yX1_xOf : MethodName := ⟨RX1, "xOf", "(I)I"⟩
abbrev cX1_yOf : ByteArray := prog_3_method_24_code
def yX1_yOf : MethodName := ⟨RX1, "yOf", "(I)I"⟩
abbrev cX1_lies : ByteArray := prog_3_method_25_code
def yX1_lies : MethodName := ⟨RX1, "lies", "(I)Z"⟩
abbrev cX1_lying : ByteArray := prog_3_method_26_code
def yX1_lying : MethodName := ⟨RX1, "lying", "()I"⟩
abbrev cX1_lyingBits : ByteArray := prog_3_method_27_code
def yX1_lyingBits : MethodName := ⟨RX1, "lyingBits", "()I"⟩
abbrev cX1_put : ByteArray := prog_3_method_28_code
def yX1_put : MethodName := ⟨RX1, "put", "(III)V"⟩
abbrev cX1_hasRoomAlone : ByteArray := prog_3_method_29_code
def yX1_hasRoomAlone : MethodName := ⟨RX1, "hasRoomAlone", "(III)Z"⟩
abbrev cX1_isApart : ByteArray := prog_3_method_30_code
def yX1_isApart : MethodName := ⟨RX1, "isApart", "(IIII)Z"⟩
abbrev cX1_hasRoom : ByteArray := prog_3_method_31_code
def yX1_hasRoom : MethodName := ⟨RX1, "hasRoom", "(III)Z"⟩
abbrev cX1_liesWell : ByteArray := prog_3_method_32_code
def yX1_liesWell : MethodName := ⟨RX1, "liesWell", "(I)Z"⟩
abbrev cX1_againstLaying : ByteArray := prog_3_method_33_code
def yX1_againstLaying : MethodName := ⟨RX1, "againstLaying", "(III)I"⟩
abbrev cX1_lay : ByteArray := prog_3_method_34_code
def yX1_lay : MethodName := ⟨RX1, "lay", "(III)I"⟩
abbrev cX1_againstTakingOff : ByteArray := prog_3_method_35_code
def yX1_againstTakingOff : MethodName := ⟨RX1, "againstTakingOff", "(I)I"⟩
abbrev cX1_takeOff : ByteArray := prog_3_method_36_code
def yX1_takeOff : MethodName := ⟨RX1, "takeOff", "(I)I"⟩
abbrev cX1_againstSwap : ByteArray := prog_3_method_37_code
def yX1_againstSwap : MethodName := ⟨RX1, "againstSwap", "(II)I"⟩
abbrev cX1_swap : ByteArray := prog_3_method_38_code
def yX1_swap : MethodName := ⟨RX1, "swap", "(II)I"⟩
abbrev cX1_tellOfItem : ByteArray := prog_3_method_39_code
def yX1_tellOfItem : MethodName := ⟨RX1, "tellOfItem", "(II)I"⟩
abbrev cX1_tellOfAll : ByteArray := prog_3_method_40_code
def yX1_tellOfAll : MethodName := ⟨RX1, "tellOfAll", "(I)I"⟩
abbrev cX1_badlyLyingBits : ByteArray := prog_3_method_41_code
def yX1_badlyLyingBits : MethodName := ⟨RX1, "badlyLyingBits", "()I"⟩
abbrev cX1_lyingWeight : ByteArray := prog_3_method_42_code
def yX1_lyingWeight : MethodName := ⟨RX1, "lyingWeight", "()I"⟩
abbrev cX1_lesserPairs : ByteArray := prog_3_method_43_code
def yX1_lesserPairs : MethodName := ⟨RX1, "lesserPairs", "()I"⟩
abbrev cX1_leastOver : ByteArray := prog_3_method_44_code
def yX1_leastOver : MethodName := ⟨RX1, "leastOver", "(II)I"⟩
abbrev cX1_heaviest : ByteArray := prog_3_method_45_code
def yX1_heaviest : MethodName := ⟨RX1, "heaviest", "(II)I"⟩
abbrev cX1_howManyBefore : ByteArray := prog_3_method_46_code
def yX1_howManyBefore : MethodName := ⟨RX1, "howManyBefore", "(I)I"⟩
def RX2 : String := "PosterSheet$Places"
def TX2 : u_T := fun k => match k with
  | 0 => ("PosterSheet$Places", "clashes", "[I", true)
  | 1 => ("PosterSheet$Places", "oldXs", "[I", true)
  | _ => ("PosterSheet$Places", "oldYs", "[I", true)
def tyX2 : Nat → FieldType := fun k => match k with
  | 0 => .array .int
  | 1 => .array .int
  | _ => .array .int
abbrev wsX20 : List Cond := u_ws RX2 TX2 3
theorem nmX2 : ∀ a, a < 3 → ∀ b, b < 3 → a ≠ b → (TX2 a).2.1 ≠ (TX2 b).2.1 := by decide +kernel
theorem tyX2_ok : ∀ k, k < 3 → parseFieldDescriptor (TX2 k).2.2.1 = some (tyX2 k) := by decide +kernel
abbrev cX2_init : ByteArray := prog_4_method_1_code
def yX2_init : MethodName := ⟨RX2, "<init>", "()V"⟩
abbrev cX2_tell : ByteArray := prog_4_method_2_code
def yX2_tell : MethodName := ⟨RX2, "tell", "(LPosterSheet$Layout;II)I"⟩
abbrev cX2_best : ByteArray := prog_4_method_3_code
def yX2_best : MethodName := ⟨RX2, "best", "(LPosterSheet$Layout;LPosterSheet$Scales;I)I"⟩
abbrev cX2_first : ByteArray := prog_4_method_4_code
def yX2_first : MethodName := ⟨RX2, "first", "(LPosterSheet$Layout;I)I"⟩
abbrev cX2_nearest : ByteArray := prog_4_method_5_code
def yX2_nearest : MethodName := ⟨RX2, "nearest", "(LPosterSheet$Layout;III)I"⟩
abbrev cX2_putAt : ByteArray := prog_4_method_6_code
def yX2_putAt : MethodName := ⟨RX2, "putAt", "(LPosterSheet$Layout;II)V"⟩
abbrev cX2_pack : ByteArray := prog_4_method_7_code
def yX2_pack : MethodName := ⟨RX2, "pack", "(LPosterSheet$Layout;)I"⟩
abbrev cX2_tidy : ByteArray := prog_4_method_8_code
def yX2_tidy : MethodName := ⟨RX2, "tidy", "(LPosterSheet$Layout;)I"⟩
abbrev cX2_takeOffAll : ByteArray := prog_4_method_9_code
def yX2_takeOffAll : MethodName := ⟨RX2, "takeOffAll", "(LPosterSheet$Layout;I)V"⟩
abbrev cX2_staying : ByteArray := prog_4_method_10_code
def yX2_staying : MethodName := ⟨RX2, "staying", "(LPosterSheet$Layout;)I"⟩
abbrev cX2_findClashes : ByteArray := prog_4_method_11_code
def yX2_findClashes : MethodName := ⟨RX2, "findClashes", "(LPosterSheet$Layout;)I"⟩
abbrev cX2_hasNoClash : ByteArray := prog_4_method_12_code
def yX2_hasNoClash : MethodName := ⟨RX2, "hasNoClash", "(I)Z"⟩
abbrev cX2_weightOf : ByteArray := prog_4_method_13_code
def yX2_weightOf : MethodName := ⟨RX2, "weightOf", "(LPosterSheet$Layout;I)I"⟩
def RX3 : String := "PosterSheet$Scales"
def TX3 : u_T := fun k => match k with
  | 0 => ("PosterSheet$Scales", "weights", "D", false)
  | 1 => ("PosterSheet$Scales", "acrosses", "D", false)
  | _ => ("PosterSheet$Scales", "downs", "D", false)
def tyX3 : Nat → FieldType := fun k => match k with
  | 0 => .double
  | 1 => .double
  | _ => .double
abbrev wsX30 : List Cond := u_ws RX3 TX3 3
theorem nmX3 : ∀ a, a < 3 → ∀ b, b < 3 → a ≠ b → (TX3 a).2.1 ≠ (TX3 b).2.1 := by decide +kernel
theorem tyX3_ok : ∀ k, k < 3 → parseFieldDescriptor (TX3 k).2.2.1 = some (tyX3 k) := by decide +kernel
abbrev cX3_init : ByteArray := prog_5_method_1_code
def yX3_init : MethodName := ⟨RX3, "<init>", "()V"⟩
abbrev cX3_weighAll : ByteArray := prog_5_method_2_code
def yX3_weighAll : MethodName := ⟨RX3, "weighAll", "(LPosterSheet$Layout;I)V"⟩
abbrev cX3_add : ByteArray := prog_5_method_3_code
def yX3_add : MethodName := ⟨RX3, "add", "(LPosterSheet$Layout;III)V"⟩
abbrev cX3_centreX : ByteArray := prog_5_method_4_code
def yX3_centreX : MethodName := ⟨RX3, "centreX", "(LPosterSheet$Layout;)D"⟩
abbrev cX3_centreY : ByteArray := prog_5_method_5_code
def yX3_centreY : MethodName := ⟨RX3, "centreY", "(LPosterSheet$Layout;)D"⟩
abbrev cX3_balance : ByteArray := prog_5_method_6_code
def yX3_balance : MethodName := ⟨RX3, "balance", "(LPosterSheet$Layout;)D"⟩
abbrev cX3_balanceWith : ByteArray := prog_5_method_7_code
def yX3_balanceWith : MethodName := ⟨RX3, "balanceWith", "(LPosterSheet$Layout;III)D"⟩
abbrev cX3_tell : ByteArray := prog_5_method_8_code
def yX3_tell : MethodName := ⟨RX3, "tell", "(LPosterSheet$Layout;I)D"⟩
def RX4 : String := "PosterSheet$Series"
def TX4 : u_T := fun k => match k with
  | 0 => ("PosterSheet$Series", "bits", "I", false)
  | _ => ("PosterSheet$Series", "rows", "[I", true)
def tyX4 : Nat → FieldType := fun k => match k with
  | 0 => .int
  | _ => .array .int
abbrev wsX40 : List Cond := u_ws RX4 TX4 2
theorem nmX4 : ∀ a, a < 2 → ∀ b, b < 2 → a ≠ b → (TX4 a).2.1 ≠ (TX4 b).2.1 := by decide +kernel
theorem tyX4_ok : ∀ k, k < 2 → parseFieldDescriptor (TX4 k).2.2.1 = some (tyX4 k) := by decide +kernel
abbrev cX4_init : ByteArray := prog_6_method_1_code
def yX4_init : MethodName := ⟨RX4, "<init>", "()V"⟩
abbrev cX4_copyFrom : ByteArray := prog_6_method_2_code
def yX4_copyFrom : MethodName := ⟨RX4, "copyFrom", "(LPosterSheet$Series;)V"⟩
abbrev cX4_isRow : ByteArray := prog_6_method_3_code
def yX4_isRow : MethodName := ⟨RX4, "isRow", "(II)Z"⟩
abbrev cX4_then : ByteArray := prog_6_method_4_code
def yX4_then : MethodName := ⟨RX4, "then", "(III)I"⟩
abbrev cX4_lay : ByteArray := prog_6_method_5_code
def yX4_lay : MethodName := ⟨RX4, "lay", "(II)Z"⟩
abbrev cX4_againstUse : ByteArray := prog_6_method_6_code
def yX4_againstUse : MethodName := ⟨RX4, "againstUse", "(I)I"⟩
abbrev cX4_keep : ByteArray := prog_6_method_7_code
def yX4_keep : MethodName := ⟨RX4, "keep", "(LPosterSheet$Layout;I)I"⟩
abbrev cX4_layAgain : ByteArray := prog_6_method_8_code
def yX4_layAgain : MethodName := ⟨RX4, "layAgain", "(LPosterSheet$Layout;I)I"⟩
abbrev cX4_isAlike : ByteArray := prog_6_method_9_code
def yX4_isAlike : MethodName := ⟨RX4, "isAlike", "(LPosterSheet$Layout;II)Z"⟩
abbrev cX4_unlike : ByteArray := prog_6_method_10_code
def yX4_unlike : MethodName := ⟨RX4, "unlike", "(LPosterSheet$Layout;I)I"⟩
abbrev cX4_far : ByteArray := prog_6_method_11_code
def yX4_far : MethodName := ⟨RX4, "far", "(LPosterSheet$Layout;I)I"⟩
def RX5 : String := "PosterSheet$States"
def TX5 : u_T := fun k => match k with
  | 0 => ("PosterSheet$States", "count", "I", false)
  | 1 => ("PosterSheet$States", "oldest", "I", false)
  | _ => ("PosterSheet$States", "ring", "[LPosterSheet$Layout;", true)
def tyX5 : Nat → FieldType := fun k => match k with
  | 0 => .int
  | 1 => .int
  | _ => .array (.object "PosterSheet$Layout")
abbrev wsX50 : List Cond := u_ws RX5 TX5 3
theorem nmX5 : ∀ a, a < 3 → ∀ b, b < 3 → a ≠ b → (TX5 a).2.1 ≠ (TX5 b).2.1 := by decide +kernel
theorem tyX5_ok : ∀ k, k < 3 → parseFieldDescriptor (TX5 k).2.2.1 = some (tyX5 k) := by decide +kernel
abbrev cX5_init : ByteArray := prog_7_method_1_code
def yX5_init : MethodName := ⟨RX5, "<init>", "()V"⟩
abbrev cX5_push : ByteArray := prog_7_method_2_code
def yX5_push : MethodName := ⟨RX5, "push", "(LPosterSheet$Layout;)V"⟩
abbrev cX5_pop : ByteArray := prog_7_method_3_code
def yX5_pop : MethodName := ⟨RX5, "pop", "(LPosterSheet$Layout;)I"⟩
def RX6 : String := "PosterSheet$Text"
def TX6 : u_T := fun k => match k with
  | 0 => ("PosterSheet$Text", "length", "I", false)
  | 1 => ("PosterSheet$Text", "orders", "I", false)
  | 2 => ("PosterSheet$Text", "place", "I", false)
  | 3 => ("PosterSheet$Text", "bytes", "[I", true)
  | 4 => ("PosterSheet$Text", "letters", "[I", true)
  | _ => ("PosterSheet$Text", "numbers", "[I", true)
def tyX6 : Nat → FieldType := fun k => match k with
  | 0 => .int
  | 1 => .int
  | 2 => .int
  | 3 => .array .int
  | 4 => .array .int
  | _ => .array .int
abbrev wsX60 : List Cond := u_ws RX6 TX6 6
theorem nmX6 : ∀ a, a < 6 → ∀ b, b < 6 → a ≠ b → (TX6 a).2.1 ≠ (TX6 b).2.1 := by decide +kernel
theorem tyX6_ok : ∀ k, k < 6 → parseFieldDescriptor (TX6 k).2.2.1 = some (tyX6 k) := by decide +kernel
abbrev cX6_init : ByteArray := prog_8_method_1_code
def yX6_init : MethodName := ⟨RX6, "<init>", "()V"⟩
abbrev cX6_againstByte : ByteArray := prog_8_method_2_code
def yX6_againstByte : MethodName := ⟨RX6, "againstByte", "(I)I"⟩
abbrev cX6_append : ByteArray := prog_8_method_3_code
def yX6_append : MethodName := ⟨RX6, "append", "(I)I"⟩
abbrev cX6_empty : ByteArray := prog_8_method_4_code
def yX6_empty : MethodName := ⟨RX6, "empty", "()I"⟩
abbrev cX6_letter : ByteArray := prog_8_method_5_code
def yX6_letter : MethodName := ⟨RX6, "letter", "(I)I"⟩
abbrev cX6_number : ByteArray := prog_8_method_6_code
def yX6_number : MethodName := ⟨RX6, "number", "(II)I"⟩
abbrev cX6_settingOf : ByteArray := prog_8_method_7_code
def yX6_settingOf : MethodName := ⟨RX6, "settingOf", "(I)I"⟩
abbrev cX6_numbersBehind : ByteArray := prog_8_method_8_code
def yX6_numbersBehind : MethodName := ⟨RX6, "numbersBehind", "(I)I"⟩
abbrev cX6_findFault : ByteArray := prog_8_method_9_code
def yX6_findFault : MethodName := ⟨RX6, "findFault", "()I"⟩
abbrev cX6_here : ByteArray := prog_8_method_10_code
def yX6_here : MethodName := ⟨RX6, "here", "()I"⟩
abbrev cX6_isFigureHere : ByteArray := prog_8_method_11_code
def yX6_isFigureHere : MethodName := ⟨RX6, "isFigureHere", "()Z"⟩
abbrev cX6_skipBlanks : ByteArray := prog_8_method_12_code
def yX6_skipBlanks : MethodName := ⟨RX6, "skipBlanks", "()V"⟩
abbrev cX6_findOrder : ByteArray := prog_8_method_13_code
def yX6_findOrder : MethodName := ⟨RX6, "findOrder", "(I)Z"⟩
abbrev cX6_findNumber : ByteArray := prog_8_method_14_code
def yX6_findNumber : MethodName := ⟨RX6, "findNumber", "(I)Z"⟩
def RX7 : String := "PosterSheet$White"
def TX7 : u_T := fun k => match k with
  | 0 => ("PosterSheet$White", "width", "I", false)
  | 1 => ("PosterSheet$White", "height", "I", false)
  | 2 => ("PosterSheet$White", "cells", "I", false)
  | 3 => ("PosterSheet$White", "blockCells", "I", false)
  | 4 => ("PosterSheet$White", "blockPlace", "I", false)
  | 5 => ("PosterSheet$White", "blockWidth", "I", false)
  | 6 => ("PosterSheet$White", "parts", "I", false)
  | 7 => ("PosterSheet$White", "queued", "I", false)
  | 8 => ("PosterSheet$White", "runs", "[I", true)
  | 9 => ("PosterSheet$White", "open", "[I", true)
  | _ => ("PosterSheet$White", "queue", "[I", true)
def tyX7 : Nat → FieldType := fun k => match k with
  | 0 => .int
  | 1 => .int
  | 2 => .int
  | 3 => .int
  | 4 => .int
  | 5 => .int
  | 6 => .int
  | 7 => .int
  | 8 => .array .int
  | 9 => .array .int
  | _ => .array .int
abbrev wsX70 : List Cond := u_ws RX7 TX7 11
theorem nmX7 : ∀ a, a < 11 → ∀ b, b < 11 → a ≠ b → (TX7 a).2.1 ≠ (TX7 b).2.1 := by decide +kernel
theorem tyX7_ok : ∀ k, k < 11 → parseFieldDescriptor (TX7 k).2.2.1 = some (tyX7 k) := by decide +kernel
abbrev cX7_init : ByteArray := prog_9_method_1_code
def yX7_init : MethodName := ⟨RX7, "<init>", "()V"⟩
abbrev cX7_look : ByteArray := prog_9_method_2_code
def yX7_look : MethodName := ⟨RX7, "look", "(LPosterSheet$Layout;)V"⟩
abbrev cX7_tell : ByteArray := prog_9_method_3_code
def yX7_tell : MethodName := ⟨RX7, "tell", "(I)I"⟩
abbrev cX7_share : ByteArray := prog_9_method_4_code
def yX7_share : MethodName := ⟨RX7, "share", "()F"⟩
abbrev cX7_cover : ByteArray := prog_9_method_5_code
def yX7_cover : MethodName := ⟨RX7, "cover", "(LPosterSheet$Layout;I)V"⟩
abbrev cX7_countCells : ByteArray := prog_9_method_6_code
def yX7_countCells : MethodName := ⟨RX7, "countCells", "()V"⟩
abbrev cX7_findBlock : ByteArray := prog_9_method_7_code
def yX7_findBlock : MethodName := ⟨RX7, "findBlock", "()V"⟩
abbrev cX7_tryBlocks : ByteArray := prog_9_method_8_code
def yX7_tryBlocks : MethodName := ⟨RX7, "tryBlocks", "(II)V"⟩
abbrev cX7_countParts : ByteArray := prog_9_method_9_code
def yX7_countParts : MethodName := ⟨RX7, "countParts", "()V"⟩
abbrev cX7_spread : ByteArray := prog_9_method_10_code
def yX7_spread : MethodName := ⟨RX7, "spread", "(I)V"⟩
abbrev cX7_reach : ByteArray := prog_9_method_11_code
def yX7_reach : MethodName := ⟨RX7, "reach", "(II)V"⟩
def RX8 : String := "PosterSheet"
def TX8 : u_T := fun k => match k with
  | 0 => ("PosterSheet", "layout", "LPosterSheet$Layout;", true)
  | 1 => ("PosterSheet", "trial", "LPosterSheet$Layout;", true)
  | 2 => ("PosterSheet", "states", "LPosterSheet$States;", true)
  | 3 => ("PosterSheet", "places", "LPosterSheet$Places;", true)
  | 4 => ("PosterSheet", "scales", "LPosterSheet$Scales;", true)
  | 5 => ("PosterSheet", "whites", "LPosterSheet$White;", true)
  | 6 => ("PosterSheet", "text", "LPosterSheet$Text;", true)
  | 7 => ("PosterSheet", "bads", "I", false)
  | 8 => ("PosterSheet", "noes", "I", false)
  | _ => ("PosterSheet", "fulls", "I", false)
def tyX8 : Nat → FieldType := fun k => match k with
  | 0 => .object "PosterSheet$Layout"
  | 1 => .object "PosterSheet$Layout"
  | 2 => .object "PosterSheet$States"
  | 3 => .object "PosterSheet$Places"
  | 4 => .object "PosterSheet$Scales"
  | 5 => .object "PosterSheet$White"
  | 6 => .object "PosterSheet$Text"
  | 7 => .int
  | 8 => .int
  | _ => .int
abbrev wsX80 : List Cond := u_ws RX8 TX8 10
theorem nmX8 : ∀ a, a < 10 → ∀ b, b < 10 → a ≠ b → (TX8 a).2.1 ≠ (TX8 b).2.1 := by decide +kernel
theorem tyX8_ok : ∀ k, k < 10 → parseFieldDescriptor (TX8 k).2.2.1 = some (tyX8 k) := by decide +kernel
abbrev cX8_init : ByteArray := prog_1_method_1_code
def yX8_init : MethodName := ⟨RX8, "<init>", "()V"⟩
abbrev cX8_sheet : ByteArray := prog_1_method_2_code
def yX8_sheet : MethodName := ⟨RX8, "sheet", "(II)I"⟩
abbrev cX8_sets : ByteArray := prog_1_method_3_code
def yX8_sets : MethodName := ⟨RX8, "sets", "(II)I"⟩
abbrev cX8_item : ByteArray := prog_1_method_4_code
def yX8_item : MethodName := ⟨RX8, "item", "(IIII)I"⟩
abbrev cX8_drops : ByteArray := prog_1_method_5_code
def yX8_drops : MethodName := ⟨RX8, "drops", "(I)I"⟩
abbrev cX8_becomes : ByteArray := prog_1_method_6_code
def yX8_becomes : MethodName := ⟨RX8, "becomes", "(III)I"⟩
abbrev cX8_of : ByteArray := prog_1_method_7_code
def yX8_of : MethodName := ⟨RX8, "of", "(II)I"⟩
abbrev cX8_side : ByteArray := prog_1_method_8_code
def yX8_side : MethodName := ⟨RX8, "side", "(I)I"⟩
abbrev cX8_line : ByteArray := prog_1_method_9_code
def yX8_line : MethodName := ⟨RX8, "line", "(I)I"⟩
abbrev cX8_lays : ByteArray := prog_1_method_10_code
def yX8_lays : MethodName := ⟨RX8, "lays", "(III)I"⟩
abbrev cX8_off : ByteArray := prog_1_method_11_code
def yX8_off : MethodName := ⟨RX8, "off", "(I)I"⟩
abbrev cX8_swaps : ByteArray := prog_1_method_12_code
def yX8_swaps : MethodName := ⟨RX8, "swaps", "(II)I"⟩
abbrev cX8_fits : ByteArray := prog_1_method_13_code
def yX8_fits : MethodName := ⟨RX8, "fits", "(III)I"⟩
abbrev cX8_free : ByteArray := prog_1_method_14_code
def yX8_free : MethodName := ⟨RX8, "free", "(II)I"⟩
abbrev cX8_packs : ByteArray := prog_1_method_15_code
def yX8_packs : MethodName := ⟨RX8, "packs", "()I"⟩
abbrev cX8_tidies : ByteArray := prog_1_method_16_code
def yX8_tidies : MethodName := ⟨RX8, "tidies", "()I"⟩
abbrev cX8_stays : ByteArray := prog_1_method_17_code
def yX8_stays : MethodName := ⟨RX8, "stays", "()I"⟩
abbrev cX8_at : ByteArray := prog_1_method_18_code
def yX8_at : MethodName := ⟨RX8, "at", "(II)I"⟩
abbrev cX8_white : ByteArray := prog_1_method_19_code
def yX8_white : MethodName := ⟨RX8, "white", "(I)I"⟩
abbrev cX8_centre : ByteArray := prog_1_method_20_code
def yX8_centre : MethodName := ⟨RX8, "centre", "(I)J"⟩
abbrev cX8_all : ByteArray := prog_1_method_21_code
def yX8_all : MethodName := ⟨RX8, "all", "(I)I"⟩
abbrev cX8_sorted : ByteArray := prog_1_method_22_code
def yX8_sorted : MethodName := ⟨RX8, "sorted", "(II)I"⟩
abbrev cX8_keeps : ByteArray := prog_1_method_23_code
def yX8_keeps : MethodName := ⟨RX8, "keeps", "(I)I"⟩
abbrev cX8_takes : ByteArray := prog_1_method_24_code
def yX8_takes : MethodName := ⟨RX8, "takes", "(I)I"⟩
abbrev cX8_otherwise : ByteArray := prog_1_method_25_code
def yX8_otherwise : MethodName := ⟨RX8, "otherwise", "(II)I"⟩
abbrev cX8_type : ByteArray := prog_1_method_26_code
def yX8_type : MethodName := ⟨RX8, "type", "(I)I"⟩
abbrev cX8_clear : ByteArray := prog_1_method_27_code
def yX8_clear : MethodName := ⟨RX8, "clear", "()I"⟩
abbrev cX8_reads : ByteArray := prog_1_method_28_code
def yX8_reads : MethodName := ⟨RX8, "reads", "()I"⟩
abbrev cX8_back : ByteArray := prog_1_method_29_code
def yX8_back : MethodName := ⟨RX8, "back", "()I"⟩
abbrev cX8_told : ByteArray := prog_1_method_30_code
def yX8_told : MethodName := ⟨RX8, "told", "(I)I"⟩
abbrev cX8_digest : ByteArray := prog_1_method_31_code
def yX8_digest : MethodName := ⟨RX8, "digest", "()J"⟩
abbrev cX8_within : ByteArray := prog_1_method_32_code
def yX8_within : MethodName := ⟨RX8, "within", "(III)Z"⟩
abbrev cX8_isPlace : ByteArray := prog_1_method_33_code
def yX8_isPlace : MethodName := ⟨RX8, "isPlace", "(II)Z"⟩
abbrev cX8_goodIf : ByteArray := prog_1_method_34_code
def yX8_goodIf : MethodName := ⟨RX8, "goodIf", "(Z)I"⟩
abbrev cX8_placeOf : ByteArray := prog_1_method_35_code
def yX8_placeOf : MethodName := ⟨RX8, "placeOf", "(II)I"⟩
abbrev cX8_distance : ByteArray := prog_1_method_36_code
def yX8_distance : MethodName := ⟨RX8, "distance", "(II)I"⟩
abbrev cX8_mayAnswer : ByteArray := prog_1_method_37_code
def yX8_mayAnswer : MethodName := ⟨RX8, "mayAnswer", "(I)Z"⟩
abbrev cX8_mayChange : ByteArray := prog_1_method_38_code
def yX8_mayChange : MethodName := ⟨RX8, "mayChange", "(I)Z"⟩
abbrev cX8_obeys : ByteArray := prog_1_method_39_code
def yX8_obeys : MethodName := ⟨RX8, "obeys", "(I)Z"⟩
def RX9 : String := "PosterSheetModel"
def TX9 : u_T := fun k => match k with
  | 0 => ("PosterSheetModel", "all", "[I", true)
  | 1 => ("PosterSheetModel", "past", "[I", true)
  | 2 => ("PosterSheetModel", "aside", "[I", true)
  | 3 => ("PosterSheetModel", "states", "I", false)
  | 4 => ("PosterSheetModel", "refused", "[I", true)
  | 5 => ("PosterSheetModel", "elder", "[I", true)
  | 6 => ("PosterSheetModel", "white", "[Z", true)
  | 7 => ("PosterSheetModel", "heap", "[I", true)
  | 8 => ("PosterSheetModel", "blockCells", "I", false)
  | 9 => ("PosterSheetModel", "blockFirst", "I", false)
  | 10 => ("PosterSheetModel", "blockWide", "I", false)
  | 11 => ("PosterSheetModel", "text", "[I", true)
  | 12 => ("PosterSheetModel", "textLong", "I", false)
  | 13 => ("PosterSheetModel", "place", "I", false)
  | 14 => ("PosterSheetModel", "numbers", "[I", true)
  | _ => ("PosterSheetModel", "not", "I", false)
def tyX9 : Nat → FieldType := fun k => match k with
  | 0 => .array .int
  | 1 => .array .int
  | 2 => .array .int
  | 3 => .int
  | 4 => .array .int
  | 5 => .array .int
  | 6 => .array .boolean
  | 7 => .array .int
  | 8 => .int
  | 9 => .int
  | 10 => .int
  | 11 => .array .int
  | 12 => .int
  | 13 => .int
  | 14 => .array .int
  | _ => .int
abbrev wsX90 : List Cond := u_ws RX9 TX9 16
theorem nmX9 : ∀ a, a < 16 → ∀ b, b < 16 → a ≠ b → (TX9 a).2.1 ≠ (TX9 b).2.1 := by decide +kernel
theorem tyX9_ok : ∀ k, k < 16 → parseFieldDescriptor (TX9 k).2.2.1 = some (tyX9 k) := by decide +kernel
abbrev cX9_init : ByteArray := prog_11_method_1_code
def yX9_init : MethodName := ⟨RX9, "<init>", "()V"⟩
abbrev cX9_in : ByteArray := prog_11_method_3_code
def yX9_in : MethodName := ⟨RX9, "in", "(JJJ)Z"⟩
abbrev cX9_refuses : ByteArray := prog_11_method_4_code
def yX9_refuses : MethodName := ⟨RX9, "refuses", "(I)I"⟩
abbrev cX9_keep : ByteArray := prog_11_method_5_code
def yX9_keep : MethodName := ⟨RX9, "keep", "()V"⟩
abbrev cX9_abs : ByteArray := prog_11_method_6_code
def yX9_abs : MethodName := ⟨RX9, "abs", "(I)I"⟩
abbrev cX9_many : ByteArray := prog_11_method_7_code
def yX9_many : MethodName := ⟨RX9, "many", "()I"⟩
abbrev cX9_isItem : ByteArray := prog_11_method_8_code
def yX9_isItem : MethodName := ⟨RX9, "isItem", "(I)Z"⟩
abbrev cX9_its : ByteArray := prog_11_method_9_code
def yX9_its : MethodName := ⟨RX9, "its", "(II)I"⟩
abbrev cX9_puts : ByteArray := prog_11_method_10_code
def yX9_puts : MethodName := ⟨RX9, "puts", "(III)V"⟩
abbrev cX9_lies : ByteArray := prog_11_method_11_code
def yX9_lies : MethodName := ⟨RX9, "lies", "(I)Z"⟩
abbrev cX9_sideOf : ByteArray := prog_11_method_12_code
def yX9_sideOf : MethodName := ⟨RX9, "sideOf", "(I)F"⟩
abbrev cX9_cut : ByteArray := prog_11_method_13_code
def yX9_cut : MethodName := ⟨RX9, "cut", "(F)I"⟩
abbrev cX9_high : ByteArray := prog_11_method_14_code
def yX9_high : MethodName := ⟨RX9, "high", "(I)I"⟩
abbrev cX9_wide : ByteArray := prog_11_method_15_code
def yX9_wide : MethodName := ⟨RX9, "wide", "(I)I"⟩
abbrev cX9_weight : ByteArray := prog_11_method_16_code
def yX9_weight : MethodName := ⟨RX9, "weight", "(I)I"⟩
abbrev cX9_lineAt : ByteArray := prog_11_method_17_code
def yX9_lineAt : MethodName := ⟨RX9, "lineAt", "(I)I"⟩
abbrev cX9_isLine : ByteArray := prog_11_method_18_code
def yX9_isLine : MethodName := ⟨RX9, "isLine", "(I)Z"⟩
abbrev cX9_isWithin : ByteArray := prog_11_method_19_code
def yX9_isWithin : MethodName := ⟨RX9, "isWithin", "(III)Z"⟩
abbrev cX9_isApart : ByteArray := prog_11_method_20_code
def yX9_isApart : MethodName := ⟨RX9, "isApart", "(IIII)Z"⟩
abbrev cX9_isFit : ByteArray := prog_11_method_21_code
def yX9_isFit : MethodName := ⟨RX9, "isFit", "(III)Z"⟩
abbrev cX9_isFitThere : ByteArray := prog_11_method_22_code
def yX9_isFitThere : MethodName := ⟨RX9, "isFitThere", "(I)Z"⟩
abbrev cX9_isPlace : ByteArray := prog_11_method_23_code
def yX9_isPlace : MethodName := ⟨RX9, "isPlace", "(II)Z"⟩
abbrev cX9_fits : ByteArray := prog_11_method_24_code
def yX9_fits : MethodName := ⟨RX9, "fits", "(III)I"⟩
abbrev cX9_isSheet : ByteArray := prog_11_method_25_code
def yX9_isSheet : MethodName := ⟨RX9, "isSheet", "(II)Z"⟩
abbrev cX9_sheetNow : ByteArray := prog_11_method_26_code
def yX9_sheetNow : MethodName := ⟨RX9, "sheetNow", "(II)I"⟩
abbrev cX9_sheet : ByteArray := prog_11_method_27_code
def yX9_sheet : MethodName := ⟨RX9, "sheet", "(II)I"⟩
abbrev cX9_isSetting : ByteArray := prog_11_method_28_code
def yX9_isSetting : MethodName := ⟨RX9, "isSetting", "(II)Z"⟩
abbrev cX9_setNow : ByteArray := prog_11_method_29_code
def yX9_setNow : MethodName := ⟨RX9, "setNow", "(II)I"⟩
abbrev cX9_sets : ByteArray := prog_11_method_30_code
def yX9_sets : MethodName := ⟨RX9, "sets", "(II)I"⟩
abbrev cX9_isOf : ByteArray := prog_11_method_31_code
def yX9_isOf : MethodName := ⟨RX9, "isOf", "(II)Z"⟩
abbrev cX9_canItem : ByteArray := prog_11_method_32_code
def yX9_canItem : MethodName := ⟨RX9, "canItem", "(IIII)I"⟩
abbrev cX9_itemNow : ByteArray := prog_11_method_33_code
def yX9_itemNow : MethodName := ⟨RX9, "itemNow", "(IIII)I"⟩
abbrev cX9_item : ByteArray := prog_11_method_34_code
def yX9_item : MethodName := ⟨RX9, "item", "(IIII)I"⟩
abbrev cX9_drops : ByteArray := prog_11_method_35_code
def yX9_drops : MethodName := ⟨RX9, "drops", "(I)I"⟩
abbrev cX9_becomes : ByteArray := prog_11_method_36_code
def yX9_becomes : MethodName := ⟨RX9, "becomes", "(III)I"⟩
abbrev cX9_ofNow : ByteArray := prog_11_method_37_code
def yX9_ofNow : MethodName := ⟨RX9, "ofNow", "(II)I"⟩
abbrev cX9_of : ByteArray := prog_11_method_38_code
def yX9_of : MethodName := ⟨RX9, "of", "(II)I"⟩
abbrev cX9_sideBits : ByteArray := prog_11_method_39_code
def yX9_sideBits : MethodName := ⟨RX9, "sideBits", "(I)I"⟩
abbrev cX9_side : ByteArray := prog_11_method_40_code
def yX9_side : MethodName := ⟨RX9, "side", "(I)I"⟩
abbrev cX9_line : ByteArray := prog_11_method_41_code
def yX9_line : MethodName := ⟨RX9, "line", "(I)I"⟩
abbrev cX9_canLay : ByteArray := prog_11_method_42_code
def yX9_canLay : MethodName := ⟨RX9, "canLay", "(III)I"⟩
abbrev cX9_layNow : ByteArray := prog_11_method_43_code
def yX9_layNow : MethodName := ⟨RX9, "layNow", "(III)I"⟩
abbrev cX9_lays : ByteArray := prog_11_method_44_code
def yX9_lays : MethodName := ⟨RX9, "lays", "(III)I"⟩
abbrev cX9_liesMany : ByteArray := prog_11_method_45_code
def yX9_liesMany : MethodName := ⟨RX9, "liesMany", "()I"⟩
abbrev cX9_canOff : ByteArray := prog_11_method_46_code
def yX9_canOff : MethodName := ⟨RX9, "canOff", "(I)I"⟩
abbrev cX9_offNow : ByteArray := prog_11_method_47_code
def yX9_offNow : MethodName := ⟨RX9, "offNow", "(I)I"⟩
abbrev cX9_off : ByteArray := prog_11_method_48_code
def yX9_off : MethodName := ⟨RX9, "off", "(I)I"⟩
abbrev cX9_swaps : ByteArray := prog_11_method_49_code
def yX9_swaps : MethodName := ⟨RX9, "swaps", "(II)I"⟩
abbrev cX9_firstPlace : ByteArray := prog_11_method_50_code
def yX9_firstPlace : MethodName := ⟨RX9, "firstPlace", "(I)I"⟩
abbrev cX9_lastPlace : ByteArray := prog_11_method_51_code
def yX9_lastPlace : MethodName := ⟨RX9, "lastPlace", "(I)I"⟩
abbrev cX9_bestPlace : ByteArray := prog_11_method_52_code
def yX9_bestPlace : MethodName := ⟨RX9, "bestPlace", "(I)I"⟩
abbrev cX9_placesMany : ByteArray := prog_11_method_53_code
def yX9_placesMany : MethodName := ⟨RX9, "placesMany", "(I)I"⟩
abbrev cX9_freeNow : ByteArray := prog_11_method_54_code
def yX9_freeNow : MethodName := ⟨RX9, "freeNow", "(II)I"⟩
abbrev cX9_free : ByteArray := prog_11_method_55_code
def yX9_free : MethodName := ⟨RX9, "free", "(II)I"⟩
abbrev cX9_packNow : ByteArray := prog_11_method_56_code
def yX9_packNow : MethodName := ⟨RX9, "packNow", "()I"⟩
abbrev cX9_packs : ByteArray := prog_11_method_57_code
def yX9_packs : MethodName := ⟨RX9, "packs", "()I"⟩
abbrev cX9_areFit : ByteArray := prog_11_method_58_code
def yX9_areFit : MethodName := ⟨RX9, "areFit", "(I)Z"⟩
abbrev cX9_size : ByteArray := prog_11_method_59_code
def yX9_size : MethodName := ⟨RX9, "size", "(I)I"⟩
abbrev cX9_staying : ByteArray := prog_11_method_60_code
def yX9_staying : MethodName := ⟨RX9, "staying", "()I"⟩
abbrev cX9_stays : ByteArray := prog_11_method_61_code
def yX9_stays : MethodName := ⟨RX9, "stays", "()I"⟩
abbrev cX9_nearest : ByteArray := prog_11_method_62_code
def yX9_nearest : MethodName := ⟨RX9, "nearest", "(III)I"⟩
abbrev cX9_tidies : ByteArray := prog_11_method_63_code
def yX9_tidies : MethodName := ⟨RX9, "tidies", "()I"⟩
abbrev cX9_covers : ByteArray := prog_11_method_64_code
def yX9_covers : MethodName := ⟨RX9, "covers", "(III)Z"⟩
abbrev cX9_covering : ByteArray := prog_11_method_65_code
def yX9_covering : MethodName := ⟨RX9, "covering", "(II)I"⟩
abbrev cX9_isCell : ByteArray := prog_11_method_66_code
def yX9_isCell : MethodName := ⟨RX9, "isCell", "(II)Z"⟩
abbrev cX9_at : ByteArray := prog_11_method_67_code
def yX9_at : MethodName := ⟨RX9, "at", "(II)I"⟩
abbrev cX9_laysWhite : ByteArray := prog_11_method_68_code
def yX9_laysWhite : MethodName := ⟨RX9, "laysWhite", "()I"⟩
abbrev cX9_findsBlock : ByteArray := prog_11_method_69_code
def yX9_findsBlock : MethodName := ⟨RX9, "findsBlock", "()V"⟩
abbrev cX9_heapOf : ByteArray := prog_11_method_70_code
def yX9_heapOf : MethodName := ⟨RX9, "heapOf", "(I)I"⟩
abbrev cX9_heaps : ByteArray := prog_11_method_71_code
def yX9_heaps : MethodName := ⟨RX9, "heaps", "()I"⟩
abbrev cX9_whiteNow : ByteArray := prog_11_method_72_code
def yX9_whiteNow : MethodName := ⟨RX9, "whiteNow", "(I)I"⟩
abbrev cX9_white : ByteArray := prog_11_method_73_code
def yX9_white : MethodName := ⟨RX9, "white", "(I)I"⟩
abbrev cX9_weights : ByteArray := prog_11_method_74_code
def yX9_weights : MethodName := ⟨RX9, "weights", "()I"⟩
abbrev cX9_centreOf : ByteArray := prog_11_method_75_code
def yX9_centreOf : MethodName := ⟨RX9, "centreOf", "(Z)D"⟩
abbrev cX9_middle : ByteArray := prog_11_method_76_code
def yX9_middle : MethodName := ⟨RX9, "middle", "(Z)D"⟩
abbrev cX9_balance : ByteArray := prog_11_method_77_code
def yX9_balance : MethodName := ⟨RX9, "balance", "()D"⟩
abbrev cX9_centreBits : ByteArray := prog_11_method_78_code
def yX9_centreBits : MethodName := ⟨RX9, "centreBits", "(I)J"⟩
abbrev cX9_centre : ByteArray := prog_11_method_79_code
def yX9_centre : MethodName := ⟨RX9, "centre", "(I)J"⟩
abbrev cX9_cells : ByteArray := prog_11_method_80_code
def yX9_cells : MethodName := ⟨RX9, "cells", "(I)I"⟩
abbrev cX9_smallPairs : ByteArray := prog_11_method_81_code
def yX9_smallPairs : MethodName := ⟨RX9, "smallPairs", "()I"⟩
abbrev cX9_allNow : ByteArray := prog_11_method_82_code
def yX9_allNow : MethodName := ⟨RX9, "allNow", "(I)I"⟩
abbrev cX9_all : ByteArray := prog_11_method_83_code
def yX9_all : MethodName := ⟨RX9, "all", "(I)I"⟩
abbrev cX9_aheadOf : ByteArray := prog_11_method_84_code
def yX9_aheadOf : MethodName := ⟨RX9, "aheadOf", "(I)I"⟩
abbrev cX9_sorted : ByteArray := prog_11_method_85_code
def yX9_sorted : MethodName := ⟨RX9, "sorted", "(II)I"⟩
abbrev cX9_kept : ByteArray := prog_11_method_86_code
def yX9_kept : MethodName := ⟨RX9, "kept", "(III)I"⟩
abbrev cX9_isKept : ByteArray := prog_11_method_87_code
def yX9_isKept : MethodName := ⟨RX9, "isKept", "(I)Z"⟩
abbrev cX9_keeps : ByteArray := prog_11_method_88_code
def yX9_keeps : MethodName := ⟨RX9, "keeps", "(I)I"⟩
abbrev cX9_takes : ByteArray := prog_11_method_89_code
def yX9_takes : MethodName := ⟨RX9, "takes", "(I)I"⟩
abbrev cX9_otherwiseNow : ByteArray := prog_11_method_90_code
def yX9_otherwiseNow : MethodName := ⟨RX9, "otherwiseNow", "(II)I"⟩
abbrev cX9_otherwise : ByteArray := prog_11_method_91_code
def yX9_otherwise : MethodName := ⟨RX9, "otherwise", "(II)I"⟩
abbrev cX9_type : ByteArray := prog_11_method_92_code
def yX9_type : MethodName := ⟨RX9, "type", "(I)I"⟩
abbrev cX9_clear : ByteArray := prog_11_method_93_code
def yX9_clear : MethodName := ⟨RX9, "clear", "()I"⟩
abbrev cX9_here : ByteArray := prog_11_method_94_code
def yX9_here : MethodName := ⟨RX9, "here", "()I"⟩
abbrev cX9_isFigure : ByteArray := prog_11_method_95_code
def yX9_isFigure : MethodName := ⟨RX9, "isFigure", "(I)Z"⟩
abbrev cX9_takesAll : ByteArray := prog_11_method_96_code
def yX9_takesAll : MethodName := ⟨RX9, "takesAll", "(I)Z"⟩
abbrev cX9_numbersOf : ByteArray := prog_11_method_97_code
def yX9_numbersOf : MethodName := ⟨RX9, "numbersOf", "(I)I"⟩
abbrev cX9_settingOf : ByteArray := prog_11_method_98_code
def yX9_settingOf : MethodName := ⟨RX9, "settingOf", "(I)I"⟩
abbrev cX9_isOrder : ByteArray := prog_11_method_99_code
def yX9_isOrder : MethodName := ⟨RX9, "isOrder", "(I)Z"⟩
abbrev cX9_can : ByteArray := prog_11_method_100_code
def yX9_can : MethodName := ⟨RX9, "can", "(I)I"⟩
abbrev cX9_does : ByteArray := prog_11_method_101_code
def yX9_does : MethodName := ⟨RX9, "does", "(I)I"⟩
abbrev cX9_readsOrder : ByteArray := prog_11_method_102_code
def yX9_readsOrder : MethodName := ⟨RX9, "readsOrder", "(Z)Z"⟩
abbrev cX9_reads : ByteArray := prog_11_method_103_code
def yX9_reads : MethodName := ⟨RX9, "reads", "()I"⟩
abbrev cX9_keepsAside : ByteArray := prog_11_method_104_code
def yX9_keepsAside : MethodName := ⟨RX9, "keepsAside", "()V"⟩
abbrev cX9_back : ByteArray := prog_11_method_105_code
def yX9_back : MethodName := ⟨RX9, "back", "()I"⟩
abbrev cX9_keptSet : ByteArray := prog_11_method_106_code
def yX9_keptSet : MethodName := ⟨RX9, "keptSet", "()I"⟩
abbrev cX9_toldOf : ByteArray := prog_11_method_107_code
def yX9_toldOf : MethodName := ⟨RX9, "toldOf", "(I)I"⟩
abbrev cX9_told : ByteArray := prog_11_method_108_code
def yX9_told : MethodName := ⟨RX9, "told", "(I)I"⟩
abbrev cX9_digest : ByteArray := prog_11_method_109_code
def yX9_digest : MethodName := ⟨RX9, "digest", "()J"⟩
def RJx145de : String := "java/io/Serializable"
def TJx145de : u_T := fun k => match k with
  | _ => ("", "", "", false)
def tyJx145de : Nat → FieldType := fun k => match k with
  | _ => .int
abbrev wsJx145de0 : List Cond := u_ws RJx145de TJx145de 0
theorem nmJx145de : ∀ a, a < 0 → ∀ b, b < 0 → a ≠ b → (TJx145de a).2.1 ≠ (TJx145de b).2.1 := by decide +kernel
theorem tyJx145de_ok : ∀ k, k < 0 → parseFieldDescriptor (TJx145de k).2.2.1 = some (tyJx145de k) := by decide +kernel
def RJxb160c : String := "java/lang/Comparable"
def TJxb160c : u_T := fun k => match k with
  | _ => ("", "", "", false)
def tyJxb160c : Nat → FieldType := fun k => match k with
  | _ => .int
abbrev wsJxb160c0 : List Cond := u_ws RJxb160c TJxb160c 0
theorem nmJxb160c : ∀ a, a < 0 → ∀ b, b < 0 → a ≠ b → (TJxb160c a).2.1 ≠ (TJxb160c b).2.1 := by decide +kernel
theorem tyJxb160c_ok : ∀ k, k < 0 → parseFieldDescriptor (TJxb160c k).2.2.1 = some (tyJxb160c k) := by decide +kernel
def RJxe99ae : String := "java/lang/Double"
def TJxe99ae : u_T := fun k => match k with
  | _ => ("", "", "", false)
def tyJxe99ae : Nat → FieldType := fun k => match k with
  | _ => .int
abbrev wsJxe99ae0 : List Cond := u_ws RJxe99ae TJxe99ae 0
theorem nmJxe99ae : ∀ a, a < 0 → ∀ b, b < 0 → a ≠ b → (TJxe99ae a).2.1 ≠ (TJxe99ae b).2.1 := by decide +kernel
theorem tyJxe99ae_ok : ∀ k, k < 0 → parseFieldDescriptor (TJxe99ae k).2.2.1 = some (tyJxe99ae k) := by decide +kernel
abbrev cJxe99ae_isNaN_b9ae7 : ByteArray := prog_12_method_6_code
def yJxe99ae_isNaN_b9ae7 : MethodName := ⟨RJxe99ae, "isNaN", "(D)Z"⟩
abbrev cJxe99ae_doubleToLongBits_ccdee : ByteArray := prog_12_method_23_code
def yJxe99ae_doubleToLongBits_ccdee : MethodName := ⟨RJxe99ae, "doubleToLongBits", "(D)J"⟩
def RJxf58ca : String := "java/lang/Float"
def TJxf58ca : u_T := fun k => match k with
  | _ => ("", "", "", false)
def tyJxf58ca : Nat → FieldType := fun k => match k with
  | _ => .int
abbrev wsJxf58ca0 : List Cond := u_ws RJxf58ca TJxf58ca 0
theorem nmJxf58ca : ∀ a, a < 0 → ∀ b, b < 0 → a ≠ b → (TJxf58ca a).2.1 ≠ (TJxf58ca b).2.1 := by decide +kernel
theorem tyJxf58ca_ok : ∀ k, k < 0 → parseFieldDescriptor (TJxf58ca k).2.2.1 = some (tyJxf58ca k) := by decide +kernel
abbrev cJxf58ca_isNaN_12338 : ByteArray := prog_13_method_6_code
def yJxf58ca_isNaN_12338 : MethodName := ⟨RJxf58ca, "isNaN", "(F)Z"⟩
abbrev cJxf58ca_floatToIntBits_5c35a : ByteArray := prog_13_method_24_code
def yJxf58ca_floatToIntBits_5c35a : MethodName := ⟨RJxf58ca, "floatToIntBits", "(F)I"⟩
def RJ6 : String := "java/lang/Integer"
def TJ6 : u_T := fun k => match k with
  | _ => ("", "", "", false)
def tyJ6 : Nat → FieldType := fun k => match k with
  | _ => .int
abbrev wsJ60 : List Cond := u_ws RJ6 TJ6 0
theorem nmJ6 : ∀ a, a < 0 → ∀ b, b < 0 → a ≠ b → (TJ6 a).2.1 ≠ (TJ6 b).2.1 := by decide +kernel
theorem tyJ6_ok : ∀ k, k < 0 → parseFieldDescriptor (TJ6 k).2.2.1 = some (tyJ6 k) := by decide +kernel
abbrev cJ6_bitCount_0f7a4 : ByteArray := prog_14_method_49_code
def yJ6_bitCount_0f7a4 : MethodName := ⟨RJ6, "bitCount", "(I)I"⟩
def RJ9 : String := "java/lang/Math"
def TJ9 : u_T := fun k => match k with
  | _ => ("", "", "", false)
def tyJ9 : Nat → FieldType := fun k => match k with
  | _ => .int
abbrev wsJ90 : List Cond := u_ws RJ9 TJ9 0
theorem nmJ9 : ∀ a, a < 0 → ∀ b, b < 0 → a ≠ b → (TJ9 a).2.1 ≠ (TJ9 b).2.1 := by decide +kernel
theorem tyJ9_ok : ∀ k, k < 0 → parseFieldDescriptor (TJ9 k).2.2.1 = some (tyJ9 k) := by decide +kernel
abbrev cJ9_max_7cf53 : ByteArray := prog_15_method_65_code
def yJ9_max_7cf53 : MethodName := ⟨RJ9, "max", "(II)I"⟩
abbrev cJ9_min_7cf53 : ByteArray := prog_15_method_69_code
def yJ9_min_7cf53 : MethodName := ⟨RJ9, "min", "(II)I"⟩
def RJxd2413 : String := "java/lang/Number"
def TJxd2413 : u_T := fun k => match k with
  | _ => ("", "", "", false)
def tyJxd2413 : Nat → FieldType := fun k => match k with
  | _ => .int
abbrev wsJxd24130 : List Cond := u_ws RJxd2413 TJxd2413 0
theorem nmJxd2413 : ∀ a, a < 0 → ∀ b, b < 0 → a ≠ b → (TJxd2413 a).2.1 ≠ (TJxd2413 b).2.1 := by decide +kernel
theorem tyJxd2413_ok : ∀ k, k < 0 → parseFieldDescriptor (TJxd2413 k).2.2.1 = some (tyJxd2413 k) := by decide +kernel
def RJ10 : String := "java/lang/System"
def TJ10 : u_T := fun k => match k with
  | _ => ("", "", "", false)
def tyJ10 : Nat → FieldType := fun k => match k with
  | _ => .int
abbrev wsJ100 : List Cond := u_ws RJ10 TJ10 0
theorem nmJ10 : ∀ a, a < 0 → ∀ b, b < 0 → a ≠ b → (TJ10 a).2.1 ≠ (TJ10 b).2.1 := by decide +kernel
theorem tyJ10_ok : ∀ k, k < 0 → parseFieldDescriptor (TJ10 k).2.2.1 = some (tyJ10 k) := by decide +kernel
def RJxfd54e : String := "java/lang/constant/Constable"
def TJxfd54e : u_T := fun k => match k with
  | _ => ("", "", "", false)
def tyJxfd54e : Nat → FieldType := fun k => match k with
  | _ => .int
abbrev wsJxfd54e0 : List Cond := u_ws RJxfd54e TJxfd54e 0
theorem nmJxfd54e : ∀ a, a < 0 → ∀ b, b < 0 → a ≠ b → (TJxfd54e a).2.1 ≠ (TJxfd54e b).2.1 := by decide +kernel
theorem tyJxfd54e_ok : ∀ k, k < 0 → parseFieldDescriptor (TJxfd54e k).2.2.1 = some (tyJxfd54e k) := by decide +kernel
def RJx3cf43 : String := "java/lang/constant/ConstantDesc"
def TJx3cf43 : u_T := fun k => match k with
  | _ => ("", "", "", false)
def tyJx3cf43 : Nat → FieldType := fun k => match k with
  | _ => .int
abbrev wsJx3cf430 : List Cond := u_ws RJx3cf43 TJx3cf43 0
theorem nmJx3cf43 : ∀ a, a < 0 → ∀ b, b < 0 → a ≠ b → (TJx3cf43 a).2.1 ≠ (TJx3cf43 b).2.1 := by decide +kernel
theorem tyJx3cf43_ok : ∀ k, k < 0 → parseFieldDescriptor (TJx3cf43 k).2.2.1 = some (tyJx3cf43 k) := by decide +kernel
def RJ7 : String := "java/util/Arrays"
def TJ7 : u_T := fun k => match k with
  | _ => ("", "", "", false)
def tyJ7 : Nat → FieldType := fun k => match k with
  | _ => .int
abbrev wsJ70 : List Cond := u_ws RJ7 TJ7 0
theorem nmJ7 : ∀ a, a < 0 → ∀ b, b < 0 → a ≠ b → (TJ7 a).2.1 ≠ (TJ7 b).2.1 := by decide +kernel
theorem tyJ7_ok : ∀ k, k < 0 → parseFieldDescriptor (TJ7 k).2.2.1 = some (tyJ7 k) := by decide +kernel
abbrev cJ7_fill_53178 : ByteArray := prog_18_method_103_code
def yJ7_fill_53178 : MethodName := ⟨RJ7, "fill", "([II)V"⟩
def RL : String := "PosterSheetLaw"
abbrev cL_law : ByteArray := code
abbrev vwCl : List vw_C := [(RX1, TX1, 11), (RX2, TX2, 3), (RX3, TX3, 3), (RX4, TX4, 2), (RX5, TX5, 3), (RX6, TX6, 6), (RX7, TX7, 11), (RX8, TX8, 10), (RX9, TX9, 16)]
