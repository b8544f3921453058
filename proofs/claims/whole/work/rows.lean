section
-- ===== PART A: goes FIRST, ahead of the names: the tables' words, and 'selects' of the private methods out of them =====
/-- a private method of a class that the tables say can be made, by its rows of tables_1 -/
def lw_okq (q : MethodName × Nat) : Prop := (q.1.cls ≠ "java/lang/invoke/MethodHandle" ∧ q.1.cls ≠ "java/lang/invoke/VarHandle") ∧ Cond.instantiable q.1.cls q.2 ∈ tables_1 ∧ Cond.privateMethod q.1 ∈ tables_1 ∧ Cond.instanceMethod q.1 ∈ tables_1
theorem lw_p0 : lw_okq (⟨"KnottedWinds", "error", "(I)I"⟩, 9) := ⟨⟨by decide +kernel, by decide +kernel⟩, List.mem_of_getElem? (i := 18) (by decide +kernel), List.mem_of_getElem? (i := 324) (by decide +kernel), List.mem_of_getElem? (i := 325) (by decide +kernel)⟩
theorem lw_p1 : lw_okq (⟨"KnottedWinds", "isShip", "(I)Z"⟩, 9) := ⟨⟨by decide +kernel, by decide +kernel⟩, List.mem_of_getElem? (i := 18) (by decide +kernel), List.mem_of_getElem? (i := 355) (by decide +kernel), List.mem_of_getElem? (i := 356) (by decide +kernel)⟩
theorem lw_p2 : lw_okq (⟨"KnottedWinds", "isKnot", "(II)Z"⟩, 9) := ⟨⟨by decide +kernel, by decide +kernel⟩, List.mem_of_getElem? (i := 18) (by decide +kernel), List.mem_of_getElem? (i := 414) (by decide +kernel), List.mem_of_getElem? (i := 415) (by decide +kernel)⟩
theorem lw_p3 : lw_okq (⟨"KnottedWinds$Reader", "readLevel", "(II)V"⟩, 6) := ⟨⟨by decide +kernel, by decide +kernel⟩, List.mem_of_getElem? (i := 124) (by decide +kernel), List.mem_of_getElem? (i := 488) (by decide +kernel), List.mem_of_getElem? (i := 489) (by decide +kernel)⟩
theorem lw_p4 : lw_okq (⟨"KnottedWinds$Reader", "readOperand", "(I)V"⟩, 6) := ⟨⟨by decide +kernel, by decide +kernel⟩, List.mem_of_getElem? (i := 124) (by decide +kernel), List.mem_of_getElem? (i := 492) (by decide +kernel), List.mem_of_getElem? (i := 493) (by decide +kernel)⟩
theorem lw_p5 : lw_okq (⟨"KnottedWinds$Reader", "next", "()I"⟩, 6) := ⟨⟨by decide +kernel, by decide +kernel⟩, List.mem_of_getElem? (i := 124) (by decide +kernel), List.mem_of_getElem? (i := 496) (by decide +kernel), List.mem_of_getElem? (i := 497) (by decide +kernel)⟩
theorem lw_p6 : lw_okq (⟨"KnottedWinds$Reader", "readNumber", "()V"⟩, 6) := ⟨⟨by decide +kernel, by decide +kernel⟩, List.mem_of_getElem? (i := 124) (by decide +kernel), List.mem_of_getElem? (i := 503) (by decide +kernel), List.mem_of_getElem? (i := 504) (by decide +kernel)⟩
theorem lw_p7 : lw_okq (⟨"KnottedWinds$Reader", "readOpened", "(II)V"⟩, 6) := ⟨⟨by decide +kernel, by decide +kernel⟩, List.mem_of_getElem? (i := 124) (by decide +kernel), List.mem_of_getElem? (i := 511) (by decide +kernel), List.mem_of_getElem? (i := 512) (by decide +kernel)⟩
theorem lw_p8 : lw_okq (⟨"KnottedWinds$Reader", "readName", "(I)V"⟩, 6) := ⟨⟨by decide +kernel, by decide +kernel⟩, List.mem_of_getElem? (i := 124) (by decide +kernel), List.mem_of_getElem? (i := 515) (by decide +kernel), List.mem_of_getElem? (i := 516) (by decide +kernel)⟩
theorem lw_p9 : lw_okq (⟨"KnottedWinds$Sea", "along", "(IIII)I"⟩, 17) := ⟨⟨by decide +kernel, by decide +kernel⟩, List.mem_of_getElem? (i := 26) (by decide +kernel), List.mem_of_getElem? (i := 632) (by decide +kernel), List.mem_of_getElem? (i := 633) (by decide +kernel)⟩
theorem lw_p10 : lw_okq (⟨"KnottedWinds$Sea", "entered", "(II)I"⟩, 17) := ⟨⟨by decide +kernel, by decide +kernel⟩, List.mem_of_getElem? (i := 26) (by decide +kernel), List.mem_of_getElem? (i := 637) (by decide +kernel), List.mem_of_getElem? (i := 638) (by decide +kernel)⟩
theorem lw_p11 : lw_okq (⟨"KnottedWinds$Sea", "drawn", "()I"⟩, 17) := ⟨⟨by decide +kernel, by decide +kernel⟩, List.mem_of_getElem? (i := 26) (by decide +kernel), List.mem_of_getElem? (i := 653) (by decide +kernel), List.mem_of_getElem? (i := 654) (by decide +kernel)⟩
theorem lw_p12 : lw_okq (⟨"KnottedWinds$Search", "goOn", "(LKnottedWinds$Sea;III)V"⟩, 10) := ⟨⟨by decide +kernel, by decide +kernel⟩, List.mem_of_getElem? (i := 201) (by decide +kernel), List.mem_of_getElem? (i := 687) (by decide +kernel), List.mem_of_getElem? (i := 688) (by decide +kernel)⟩
theorem lw_p13 : lw_okq (⟨"KnottedWinds$Search", "keep", "(II)V"⟩, 10) := ⟨⟨by decide +kernel, by decide +kernel⟩, List.mem_of_getElem? (i := 201) (by decide +kernel), List.mem_of_getElem? (i := 692) (by decide +kernel), List.mem_of_getElem? (i := 693) (by decide +kernel)⟩
theorem lw_p14 : lw_okq (⟨"KnottedWinds$Search", "behind", "(LKnottedWinds$Sea;II)I"⟩, 10) := ⟨⟨by decide +kernel, by decide +kernel⟩, List.mem_of_getElem? (i := 201) (by decide +kernel), List.mem_of_getElem? (i := 697) (by decide +kernel), List.mem_of_getElem? (i := 698) (by decide +kernel)⟩
theorem lw_p15 : lw_okq (⟨"KnottedWinds$Foresight", "lookFrom", "(LKnottedWinds$Sea;I)V"⟩, 11) := ⟨⟨by decide +kernel, by decide +kernel⟩, List.mem_of_getElem? (i := 154) (by decide +kernel), List.mem_of_getElem? (i := 711) (by decide +kernel), List.mem_of_getElem? (i := 712) (by decide +kernel)⟩
def lw_privs_1 : List (MethodName × Nat) := [(⟨"KnottedWinds", "error", "(I)I"⟩, 9), (⟨"KnottedWinds", "isShip", "(I)Z"⟩, 9), (⟨"KnottedWinds", "isKnot", "(II)Z"⟩, 9), (⟨"KnottedWinds$Reader", "readLevel", "(II)V"⟩, 6), (⟨"KnottedWinds$Reader", "readOperand", "(I)V"⟩, 6), (⟨"KnottedWinds$Reader", "next", "()I"⟩, 6), (⟨"KnottedWinds$Reader", "readNumber", "()V"⟩, 6), (⟨"KnottedWinds$Reader", "readOpened", "(II)V"⟩, 6), (⟨"KnottedWinds$Reader", "readName", "(I)V"⟩, 6), (⟨"KnottedWinds$Sea", "along", "(IIII)I"⟩, 17), (⟨"KnottedWinds$Sea", "entered", "(II)I"⟩, 17), (⟨"KnottedWinds$Sea", "drawn", "()I"⟩, 17), (⟨"KnottedWinds$Search", "goOn", "(LKnottedWinds$Sea;III)V"⟩, 10), (⟨"KnottedWinds$Search", "keep", "(II)V"⟩, 10), (⟨"KnottedWinds$Search", "behind", "(LKnottedWinds$Sea;II)I"⟩, 10), (⟨"KnottedWinds$Foresight", "lookFrom", "(LKnottedWinds$Sea;I)V"⟩, 11)]
theorem lw_r1 : ∀ q ∈ lw_privs_1, lw_okq q := List.forall_mem_cons.mpr ⟨lw_p0, List.forall_mem_cons.mpr ⟨lw_p1, List.forall_mem_cons.mpr ⟨lw_p2, List.forall_mem_cons.mpr ⟨lw_p3, List.forall_mem_cons.mpr ⟨lw_p4, List.forall_mem_cons.mpr ⟨lw_p5, List.forall_mem_cons.mpr ⟨lw_p6, List.forall_mem_cons.mpr ⟨lw_p7, List.forall_mem_cons.mpr ⟨lw_p8, List.forall_mem_cons.mpr ⟨lw_p9, List.forall_mem_cons.mpr ⟨lw_p10, List.forall_mem_cons.mpr ⟨lw_p11, List.forall_mem_cons.mpr ⟨lw_p12, List.forall_mem_cons.mpr ⟨lw_p13, List.forall_mem_cons.mpr ⟨lw_p14, List.forall_mem_cons.mpr ⟨lw_p15, fun _ h => absurd h List.not_mem_nil⟩⟩⟩⟩⟩⟩⟩⟩⟩⟩⟩⟩⟩⟩⟩⟩
theorem lw_p16 : lw_okq (⟨"KnottedWinds$Foresight", "weigh", "(LKnottedWinds$Sea;I)V"⟩, 11) := ⟨⟨by decide +kernel, by decide +kernel⟩, List.mem_of_getElem? (i := 154) (by decide +kernel), List.mem_of_getElem? (i := 723) (by decide +kernel), List.mem_of_getElem? (i := 724) (by decide +kernel)⟩
theorem lw_p17 : lw_okq (⟨"KnottedWinds$Foresight", "foresee", "(LKnottedWinds$Sea;I)V"⟩, 11) := ⟨⟨by decide +kernel, by decide +kernel⟩, List.mem_of_getElem? (i := 154) (by decide +kernel), List.mem_of_getElem? (i := 727) (by decide +kernel), List.mem_of_getElem? (i := 728) (by decide +kernel)⟩
theorem lw_p18 : lw_okq (⟨"KnottedWinds$Foresight", "sailOn", "(LKnottedWinds$Sea;II)V"⟩, 11) := ⟨⟨by decide +kernel, by decide +kernel⟩, List.mem_of_getElem? (i := 154) (by decide +kernel), List.mem_of_getElem? (i := 732) (by decide +kernel), List.mem_of_getElem? (i := 733) (by decide +kernel)⟩
theorem lw_p19 : lw_okq (⟨"KnottedWinds$Foresight", "rowsOf", "(LKnottedWinds$Sea;I[I)I"⟩, 11) := ⟨⟨by decide +kernel, by decide +kernel⟩, List.mem_of_getElem? (i := 154) (by decide +kernel), List.mem_of_getElem? (i := 756) (by decide +kernel), List.mem_of_getElem? (i := 757) (by decide +kernel)⟩
theorem lw_p20 : lw_okq (⟨"KnottedWinds$Speaker", "speak", "(IIII)I"⟩, 6) := ⟨⟨by decide +kernel, by decide +kernel⟩, List.mem_of_getElem? (i := 241) (by decide +kernel), List.mem_of_getElem? (i := 772) (by decide +kernel), List.mem_of_getElem? (i := 773) (by decide +kernel)⟩
theorem lw_p21 : lw_okq (⟨"KnottedWinds$Speaker", "begin", "(I)V"⟩, 6) := ⟨⟨by decide +kernel, by decide +kernel⟩, List.mem_of_getElem? (i := 241) (by decide +kernel), List.mem_of_getElem? (i := 783) (by decide +kernel), List.mem_of_getElem? (i := 784) (by decide +kernel)⟩
theorem lw_p22 : lw_okq (⟨"KnottedWinds$Speaker", "partedBy", "(II)I"⟩, 6) := ⟨⟨by decide +kernel, by decide +kernel⟩, List.mem_of_getElem? (i := 241) (by decide +kernel), List.mem_of_getElem? (i := 787) (by decide +kernel), List.mem_of_getElem? (i := 788) (by decide +kernel)⟩
theorem lw_p23 : lw_okq (⟨"KnottedWindsModel", "error", "(I)I"⟩, 24) := ⟨⟨by decide +kernel, by decide +kernel⟩, List.mem_of_getElem? (i := 869) (by decide +kernel), List.mem_of_getElem? (i := 955) (by decide +kernel), List.mem_of_getElem? (i := 956) (by decide +kernel)⟩
theorem lw_p24 : lw_okq (⟨"KnottedWindsModel", "whole", "()Z"⟩, 24) := ⟨⟨by decide +kernel, by decide +kernel⟩, List.mem_of_getElem? (i := 869) (by decide +kernel), List.mem_of_getElem? (i := 965) (by decide +kernel), List.mem_of_getElem? (i := 966) (by decide +kernel)⟩
theorem lw_p25 : lw_okq (⟨"KnottedWindsModel", "both", "()Z"⟩, 24) := ⟨⟨by decide +kernel, by decide +kernel⟩, List.mem_of_getElem? (i := 869) (by decide +kernel), List.mem_of_getElem? (i := 969) (by decide +kernel), List.mem_of_getElem? (i := 970) (by decide +kernel)⟩
theorem lw_p26 : lw_okq (⟨"KnottedWindsModel", "compared", "()Z"⟩, 24) := ⟨⟨by decide +kernel, by decide +kernel⟩, List.mem_of_getElem? (i := 869) (by decide +kernel), List.mem_of_getElem? (i := 973) (by decide +kernel), List.mem_of_getElem? (i := 974) (by decide +kernel)⟩
theorem lw_p27 : lw_okq (⟨"KnottedWindsModel", "sum", "()Z"⟩, 24) := ⟨⟨by decide +kernel, by decide +kernel⟩, List.mem_of_getElem? (i := 869) (by decide +kernel), List.mem_of_getElem? (i := 977) (by decide +kernel), List.mem_of_getElem? (i := 978) (by decide +kernel)⟩
theorem lw_p28 : lw_okq (⟨"KnottedWindsModel", "product", "()Z"⟩, 24) := ⟨⟨by decide +kernel, by decide +kernel⟩, List.mem_of_getElem? (i := 869) (by decide +kernel), List.mem_of_getElem? (i := 981) (by decide +kernel), List.mem_of_getElem? (i := 982) (by decide +kernel)⟩
theorem lw_p29 : lw_okq (⟨"KnottedWindsModel", "one", "()Z"⟩, 24) := ⟨⟨by decide +kernel, by decide +kernel⟩, List.mem_of_getElem? (i := 869) (by decide +kernel), List.mem_of_getElem? (i := 985) (by decide +kernel), List.mem_of_getElem? (i := 986) (by decide +kernel)⟩
theorem lw_p30 : lw_okq (⟨"KnottedWindsModel", "look", "()I"⟩, 24) := ⟨⟨by decide +kernel, by decide +kernel⟩, List.mem_of_getElem? (i := 869) (by decide +kernel), List.mem_of_getElem? (i := 989) (by decide +kernel), List.mem_of_getElem? (i := 990) (by decide +kernel)⟩
theorem lw_p31 : lw_okq (⟨"KnottedWindsModel", "isName", "(I)Z"⟩, 24) := ⟨⟨by decide +kernel, by decide +kernel⟩, List.mem_of_getElem? (i := 869) (by decide +kernel), List.mem_of_getElem? (i := 993) (by decide +kernel), List.mem_of_getElem? (i := 994) (by decide +kernel)⟩
def lw_privs_2 : List (MethodName × Nat) := [(⟨"KnottedWinds$Foresight", "weigh", "(LKnottedWinds$Sea;I)V"⟩, 11), (⟨"KnottedWinds$Foresight", "foresee", "(LKnottedWinds$Sea;I)V"⟩, 11), (⟨"KnottedWinds$Foresight", "sailOn", "(LKnottedWinds$Sea;II)V"⟩, 11), (⟨"KnottedWinds$Foresight", "rowsOf", "(LKnottedWinds$Sea;I[I)I"⟩, 11), (⟨"KnottedWinds$Speaker", "speak", "(IIII)I"⟩, 6), (⟨"KnottedWinds$Speaker", "begin", "(I)V"⟩, 6), (⟨"KnottedWinds$Speaker", "partedBy", "(II)I"⟩, 6), (⟨"KnottedWindsModel", "error", "(I)I"⟩, 24), (⟨"KnottedWindsModel", "whole", "()Z"⟩, 24), (⟨"KnottedWindsModel", "both", "()Z"⟩, 24), (⟨"KnottedWindsModel", "compared", "()Z"⟩, 24), (⟨"KnottedWindsModel", "sum", "()Z"⟩, 24), (⟨"KnottedWindsModel", "product", "()Z"⟩, 24), (⟨"KnottedWindsModel", "one", "()Z"⟩, 24), (⟨"KnottedWindsModel", "look", "()I"⟩, 24), (⟨"KnottedWindsModel", "isName", "(I)Z"⟩, 24)]
theorem lw_r2 : ∀ q ∈ lw_privs_2, lw_okq q := List.forall_mem_cons.mpr ⟨lw_p16, List.forall_mem_cons.mpr ⟨lw_p17, List.forall_mem_cons.mpr ⟨lw_p18, List.forall_mem_cons.mpr ⟨lw_p19, List.forall_mem_cons.mpr ⟨lw_p20, List.forall_mem_cons.mpr ⟨lw_p21, List.forall_mem_cons.mpr ⟨lw_p22, List.forall_mem_cons.mpr ⟨lw_p23, List.forall_mem_cons.mpr ⟨lw_p24, List.forall_mem_cons.mpr ⟨lw_p25, List.forall_mem_cons.mpr ⟨lw_p26, List.forall_mem_cons.mpr ⟨lw_p27, List.forall_mem_cons.mpr ⟨lw_p28, List.forall_mem_cons.mpr ⟨lw_p29, List.forall_mem_cons.mpr ⟨lw_p30, List.forall_mem_cons.mpr ⟨lw_p31, fun _ h => absurd h List.not_mem_nil⟩⟩⟩⟩⟩⟩⟩⟩⟩⟩⟩⟩⟩⟩⟩⟩
theorem lw_p32 : lw_okq (⟨"KnottedWindsModel", "step1", "(II)V"⟩, 24) := ⟨⟨by decide +kernel, by decide +kernel⟩, List.mem_of_getElem? (i := 869) (by decide +kernel), List.mem_of_getElem? (i := 997) (by decide +kernel), List.mem_of_getElem? (i := 998) (by decide +kernel)⟩
theorem lw_p33 : lw_okq (⟨"KnottedWindsModel", "opens", "()Z"⟩, 24) := ⟨⟨by decide +kernel, by decide +kernel⟩, List.mem_of_getElem? (i := 869) (by decide +kernel), List.mem_of_getElem? (i := 1001) (by decide +kernel), List.mem_of_getElem? (i := 1002) (by decide +kernel)⟩
theorem lw_p34 : lw_okq (⟨"KnottedWindsModel", "hasText", "(I)Z"⟩, 24) := ⟨⟨by decide +kernel, by decide +kernel⟩, List.mem_of_getElem? (i := 869) (by decide +kernel), List.mem_of_getElem? (i := 1009) (by decide +kernel), List.mem_of_getElem? (i := 1010) (by decide +kernel)⟩
theorem lw_p35 : lw_okq (⟨"KnottedWindsModel", "change1", "(II)I"⟩, 24) := ⟨⟨by decide +kernel, by decide +kernel⟩, List.mem_of_getElem? (i := 869) (by decide +kernel), List.mem_of_getElem? (i := 1020) (by decide +kernel), List.mem_of_getElem? (i := 1021) (by decide +kernel)⟩
theorem lw_p36 : lw_okq (⟨"KnottedWindsModel", "lays1", "(III)V"⟩, 24) := ⟨⟨by decide +kernel, by decide +kernel⟩, List.mem_of_getElem? (i := 869) (by decide +kernel), List.mem_of_getElem? (i := 1032) (by decide +kernel), List.mem_of_getElem? (i := 1033) (by decide +kernel)⟩
theorem lw_p37 : lw_okq (⟨"KnottedWindsModel", "brings", "(II)V"⟩, 24) := ⟨⟨by decide +kernel, by decide +kernel⟩, List.mem_of_getElem? (i := 869) (by decide +kernel), List.mem_of_getElem? (i := 1036) (by decide +kernel), List.mem_of_getElem? (i := 1037) (by decide +kernel)⟩
theorem lw_p38 : lw_okq (⟨"KnottedWindsModel", "of", "(II)I"⟩, 24) := ⟨⟨by decide +kernel, by decide +kernel⟩, List.mem_of_getElem? (i := 869) (by decide +kernel), List.mem_of_getElem? (i := 1040) (by decide +kernel), List.mem_of_getElem? (i := 1041) (by decide +kernel)⟩
theorem lw_p39 : lw_okq (⟨"KnottedWindsModel", "ties", "(III)V"⟩, 24) := ⟨⟨by decide +kernel, by decide +kernel⟩, List.mem_of_getElem? (i := 869) (by decide +kernel), List.mem_of_getElem? (i := 1044) (by decide +kernel), List.mem_of_getElem? (i := 1045) (by decide +kernel)⟩
theorem lw_p40 : lw_okq (⟨"KnottedWindsModel", "isShip", "(I)Z"⟩, 24) := ⟨⟨by decide +kernel, by decide +kernel⟩, List.mem_of_getElem? (i := 869) (by decide +kernel), List.mem_of_getElem? (i := 1052) (by decide +kernel), List.mem_of_getElem? (i := 1053) (by decide +kernel)⟩
theorem lw_p41 : lw_okq (⟨"KnottedWindsModel", "toldShip", "(II)I"⟩, 24) := ⟨⟨by decide +kernel, by decide +kernel⟩, List.mem_of_getElem? (i := 869) (by decide +kernel), List.mem_of_getElem? (i := 1056) (by decide +kernel), List.mem_of_getElem? (i := 1057) (by decide +kernel)⟩
theorem lw_p42 : lw_okq (⟨"KnottedWindsModel", "tiedOf", "(I)I"⟩, 24) := ⟨⟨by decide +kernel, by decide +kernel⟩, List.mem_of_getElem? (i := 869) (by decide +kernel), List.mem_of_getElem? (i := 1060) (by decide +kernel), List.mem_of_getElem? (i := 1061) (by decide +kernel)⟩
theorem lw_p43 : lw_okq (⟨"KnottedWindsModel", "isTied", "(I)Z"⟩, 24) := ⟨⟨by decide +kernel, by decide +kernel⟩, List.mem_of_getElem? (i := 869) (by decide +kernel), List.mem_of_getElem? (i := 1064) (by decide +kernel), List.mem_of_getElem? (i := 1065) (by decide +kernel)⟩
theorem lw_p44 : lw_okq (⟨"KnottedWindsModel", "its", "(II)I"⟩, 24) := ⟨⟨by decide +kernel, by decide +kernel⟩, List.mem_of_getElem? (i := 869) (by decide +kernel), List.mem_of_getElem? (i := 1068) (by decide +kernel), List.mem_of_getElem? (i := 1069) (by decide +kernel)⟩
theorem lw_p45 : lw_okq (⟨"KnottedWindsModel", "price", "(I)I"⟩, 24) := ⟨⟨by decide +kernel, by decide +kernel⟩, List.mem_of_getElem? (i := 869) (by decide +kernel), List.mem_of_getElem? (i := 1072) (by decide +kernel), List.mem_of_getElem? (i := 1073) (by decide +kernel)⟩
theorem lw_p46 : lw_okq (⟨"KnottedWindsModel", "worked", "(I)I"⟩, 24) := ⟨⟨by decide +kernel, by decide +kernel⟩, List.mem_of_getElem? (i := 869) (by decide +kernel), List.mem_of_getElem? (i := 1076) (by decide +kernel), List.mem_of_getElem? (i := 1077) (by decide +kernel)⟩
theorem lw_p47 : lw_okq (⟨"KnottedWindsModel", "isKnot", "(II)Z"⟩, 24) := ⟨⟨by decide +kernel, by decide +kernel⟩, List.mem_of_getElem? (i := 869) (by decide +kernel), List.mem_of_getElem? (i := 1094) (by decide +kernel), List.mem_of_getElem? (i := 1095) (by decide +kernel)⟩
def lw_privs_3 : List (MethodName × Nat) := [(⟨"KnottedWindsModel", "step1", "(II)V"⟩, 24), (⟨"KnottedWindsModel", "opens", "()Z"⟩, 24), (⟨"KnottedWindsModel", "hasText", "(I)Z"⟩, 24), (⟨"KnottedWindsModel", "change1", "(II)I"⟩, 24), (⟨"KnottedWindsModel", "lays1", "(III)V"⟩, 24), (⟨"KnottedWindsModel", "brings", "(II)V"⟩, 24), (⟨"KnottedWindsModel", "of", "(II)I"⟩, 24), (⟨"KnottedWindsModel", "ties", "(III)V"⟩, 24), (⟨"KnottedWindsModel", "isShip", "(I)Z"⟩, 24), (⟨"KnottedWindsModel", "toldShip", "(II)I"⟩, 24), (⟨"KnottedWindsModel", "tiedOf", "(I)I"⟩, 24), (⟨"KnottedWindsModel", "isTied", "(I)Z"⟩, 24), (⟨"KnottedWindsModel", "its", "(II)I"⟩, 24), (⟨"KnottedWindsModel", "price", "(I)I"⟩, 24), (⟨"KnottedWindsModel", "worked", "(I)I"⟩, 24), (⟨"KnottedWindsModel", "isKnot", "(II)Z"⟩, 24)]
theorem lw_r3 : ∀ q ∈ lw_privs_3, lw_okq q := List.forall_mem_cons.mpr ⟨lw_p32, List.forall_mem_cons.mpr ⟨lw_p33, List.forall_mem_cons.mpr ⟨lw_p34, List.forall_mem_cons.mpr ⟨lw_p35, List.forall_mem_cons.mpr ⟨lw_p36, List.forall_mem_cons.mpr ⟨lw_p37, List.forall_mem_cons.mpr ⟨lw_p38, List.forall_mem_cons.mpr ⟨lw_p39, List.forall_mem_cons.mpr ⟨lw_p40, List.forall_mem_cons.mpr ⟨lw_p41, List.forall_mem_cons.mpr ⟨lw_p42, List.forall_mem_cons.mpr ⟨lw_p43, List.forall_mem_cons.mpr ⟨lw_p44, List.forall_mem_cons.mpr ⟨lw_p45, List.forall_mem_cons.mpr ⟨lw_p46, List.forall_mem_cons.mpr ⟨lw_p47, fun _ h => absurd h List.not_mem_nil⟩⟩⟩⟩⟩⟩⟩⟩⟩⟩⟩⟩⟩⟩⟩⟩
theorem lw_p48 : lw_okq (⟨"KnottedWindsModel", "force", "(I)I"⟩, 24) := ⟨⟨by decide +kernel, by decide +kernel⟩, List.mem_of_getElem? (i := 869) (by decide +kernel), List.mem_of_getElem? (i := 1102) (by decide +kernel), List.mem_of_getElem? (i := 1103) (by decide +kernel)⟩
theorem lw_p49 : lw_okq (⟨"KnottedWindsModel", "blowsTold", "(II)I"⟩, 24) := ⟨⟨by decide +kernel, by decide +kernel⟩, List.mem_of_getElem? (i := 869) (by decide +kernel), List.mem_of_getElem? (i := 1106) (by decide +kernel), List.mem_of_getElem? (i := 1107) (by decide +kernel)⟩
theorem lw_p50 : lw_okq (⟨"KnottedWindsModel", "mayLoose", "(I)Z"⟩, 24) := ⟨⟨by decide +kernel, by decide +kernel⟩, List.mem_of_getElem? (i := 869) (by decide +kernel), List.mem_of_getElem? (i := 1121) (by decide +kernel), List.mem_of_getElem? (i := 1122) (by decide +kernel)⟩
theorem lw_p51 : lw_okq (⟨"KnottedWindsModel", "isDay", "()Z"⟩, 24) := ⟨⟨by decide +kernel, by decide +kernel⟩, List.mem_of_getElem? (i := 869) (by decide +kernel), List.mem_of_getElem? (i := 1125) (by decide +kernel), List.mem_of_getElem? (i := 1126) (by decide +kernel)⟩
theorem lw_p52 : lw_okq (⟨"KnottedWindsModel", "looses", "(I)V"⟩, 24) := ⟨⟨by decide +kernel, by decide +kernel⟩, List.mem_of_getElem? (i := 869) (by decide +kernel), List.mem_of_getElem? (i := 1129) (by decide +kernel), List.mem_of_getElem? (i := 1130) (by decide +kernel)⟩
theorem lw_p53 : lw_okq (⟨"KnottedWindsModel", "windTo", "(I)I"⟩, 24) := ⟨⟨by decide +kernel, by decide +kernel⟩, List.mem_of_getElem? (i := 869) (by decide +kernel), List.mem_of_getElem? (i := 1137) (by decide +kernel), List.mem_of_getElem? (i := 1138) (by decide +kernel)⟩
theorem lw_p54 : lw_okq (⟨"KnottedWindsModel", "go", "(I)V"⟩, 24) := ⟨⟨by decide +kernel, by decide +kernel⟩, List.mem_of_getElem? (i := 869) (by decide +kernel), List.mem_of_getElem? (i := 1145) (by decide +kernel), List.mem_of_getElem? (i := 1146) (by decide +kernel)⟩
theorem lw_p55 : lw_okq (⟨"KnottedWindsModel", "hour", "()V"⟩, 24) := ⟨⟨by decide +kernel, by decide +kernel⟩, List.mem_of_getElem? (i := 869) (by decide +kernel), List.mem_of_getElem? (i := 1149) (by decide +kernel), List.mem_of_getElem? (i := 1150) (by decide +kernel)⟩
theorem lw_p56 : lw_okq (⟨"KnottedWindsModel", "sails", "(III)V"⟩, 24) := ⟨⟨by decide +kernel, by decide +kernel⟩, List.mem_of_getElem? (i := 869) (by decide +kernel), List.mem_of_getElem? (i := 1153) (by decide +kernel), List.mem_of_getElem? (i := 1154) (by decide +kernel)⟩
theorem lw_p57 : lw_okq (⟨"KnottedWindsModel", "standing", "(I)I"⟩, 24) := ⟨⟨by decide +kernel, by decide +kernel⟩, List.mem_of_getElem? (i := 869) (by decide +kernel), List.mem_of_getElem? (i := 1157) (by decide +kernel), List.mem_of_getElem? (i := 1158) (by decide +kernel)⟩
theorem lw_p58 : lw_okq (⟨"KnottedWindsModel", "draw", "()I"⟩, 24) := ⟨⟨by decide +kernel, by decide +kernel⟩, List.mem_of_getElem? (i := 869) (by decide +kernel), List.mem_of_getElem? (i := 1165) (by decide +kernel), List.mem_of_getElem? (i := 1166) (by decide +kernel)⟩
theorem lw_p59 : lw_okq (⟨"KnottedWindsModel", "layDown", "(I)V"⟩, 24) := ⟨⟨by decide +kernel, by decide +kernel⟩, List.mem_of_getElem? (i := 869) (by decide +kernel), List.mem_of_getElem? (i := 1178) (by decide +kernel), List.mem_of_getElem? (i := 1179) (by decide +kernel)⟩
theorem lw_p60 : lw_okq (⟨"KnottedWindsModel", "layBack", "(I)V"⟩, 24) := ⟨⟨by decide +kernel, by decide +kernel⟩, List.mem_of_getElem? (i := 869) (by decide +kernel), List.mem_of_getElem? (i := 1182) (by decide +kernel), List.mem_of_getElem? (i := 1183) (by decide +kernel)⟩
theorem lw_p61 : lw_okq (⟨"KnottedWindsModel", "findSoonest", "(II)V"⟩, 24) := ⟨⟨by decide +kernel, by decide +kernel⟩, List.mem_of_getElem? (i := 869) (by decide +kernel), List.mem_of_getElem? (i := 1194) (by decide +kernel), List.mem_of_getElem? (i := 1195) (by decide +kernel)⟩
theorem lw_p62 : lw_okq (⟨"KnottedWindsModel", "tries", "(III)V"⟩, 24) := ⟨⟨by decide +kernel, by decide +kernel⟩, List.mem_of_getElem? (i := 869) (by decide +kernel), List.mem_of_getElem? (i := 1201) (by decide +kernel), List.mem_of_getElem? (i := 1202) (by decide +kernel)⟩
theorem lw_p63 : lw_okq (⟨"KnottedWindsModel", "lieSo", "(I)Z"⟩, 24) := ⟨⟨by decide +kernel, by decide +kernel⟩, List.mem_of_getElem? (i := 869) (by decide +kernel), List.mem_of_getElem? (i := 1222) (by decide +kernel), List.mem_of_getElem? (i := 1223) (by decide +kernel)⟩
def lw_privs_4 : List (MethodName × Nat) := [(⟨"KnottedWindsModel", "force", "(I)I"⟩, 24), (⟨"KnottedWindsModel", "blowsTold", "(II)I"⟩, 24), (⟨"KnottedWindsModel", "mayLoose", "(I)Z"⟩, 24), (⟨"KnottedWindsModel", "isDay", "()Z"⟩, 24), (⟨"KnottedWindsModel", "looses", "(I)V"⟩, 24), (⟨"KnottedWindsModel", "windTo", "(I)I"⟩, 24), (⟨"KnottedWindsModel", "go", "(I)V"⟩, 24), (⟨"KnottedWindsModel", "hour", "()V"⟩, 24), (⟨"KnottedWindsModel", "sails", "(III)V"⟩, 24), (⟨"KnottedWindsModel", "standing", "(I)I"⟩, 24), (⟨"KnottedWindsModel", "draw", "()I"⟩, 24), (⟨"KnottedWindsModel", "layDown", "(I)V"⟩, 24), (⟨"KnottedWindsModel", "layBack", "(I)V"⟩, 24), (⟨"KnottedWindsModel", "findSoonest", "(II)V"⟩, 24), (⟨"KnottedWindsModel", "tries", "(III)V"⟩, 24), (⟨"KnottedWindsModel", "lieSo", "(I)Z"⟩, 24)]
theorem lw_r4 : ∀ q ∈ lw_privs_4, lw_okq q := List.forall_mem_cons.mpr ⟨lw_p48, List.forall_mem_cons.mpr ⟨lw_p49, List.forall_mem_cons.mpr ⟨lw_p50, List.forall_mem_cons.mpr ⟨lw_p51, List.forall_mem_cons.mpr ⟨lw_p52, List.forall_mem_cons.mpr ⟨lw_p53, List.forall_mem_cons.mpr ⟨lw_p54, List.forall_mem_cons.mpr ⟨lw_p55, List.forall_mem_cons.mpr ⟨lw_p56, List.forall_mem_cons.mpr ⟨lw_p57, List.forall_mem_cons.mpr ⟨lw_p58, List.forall_mem_cons.mpr ⟨lw_p59, List.forall_mem_cons.mpr ⟨lw_p60, List.forall_mem_cons.mpr ⟨lw_p61, List.forall_mem_cons.mpr ⟨lw_p62, List.forall_mem_cons.mpr ⟨lw_p63, fun _ h => absurd h List.not_mem_nil⟩⟩⟩⟩⟩⟩⟩⟩⟩⟩⟩⟩⟩⟩⟩⟩
theorem lw_p64 : lw_okq (⟨"KnottedWindsModel", "lieBy", "(IIII)Z"⟩, 24) := ⟨⟨by decide +kernel, by decide +kernel⟩, List.mem_of_getElem? (i := 869) (by decide +kernel), List.mem_of_getElem? (i := 1226) (by decide +kernel), List.mem_of_getElem? (i := 1227) (by decide +kernel)⟩
theorem lw_p65 : lw_okq (⟨"KnottedWindsModel", "hoursOf", "(II)I"⟩, 24) := ⟨⟨by decide +kernel, by decide +kernel⟩, List.mem_of_getElem? (i := 869) (by decide +kernel), List.mem_of_getElem? (i := 1234) (by decide +kernel), List.mem_of_getElem? (i := 1235) (by decide +kernel)⟩
theorem lw_p66 : lw_okq (⟨"KnottedWindsModel", "kindNow", "()I"⟩, 24) := ⟨⟨by decide +kernel, by decide +kernel⟩, List.mem_of_getElem? (i := 869) (by decide +kernel), List.mem_of_getElem? (i := 1242) (by decide +kernel), List.mem_of_getElem? (i := 1243) (by decide +kernel)⟩
theorem lw_p67 : lw_okq (⟨"KnottedWindsModel", "blowsAs", "(II)I"⟩, 24) := ⟨⟨by decide +kernel, by decide +kernel⟩, List.mem_of_getElem? (i := 869) (by decide +kernel), List.mem_of_getElem? (i := 1246) (by decide +kernel), List.mem_of_getElem? (i := 1247) (by decide +kernel)⟩
theorem lw_p68 : lw_okq (⟨"KnottedWindsModel", "begins", "(I)V"⟩, 24) := ⟨⟨by decide +kernel, by decide +kernel⟩, List.mem_of_getElem? (i := 869) (by decide +kernel), List.mem_of_getElem? (i := 1250) (by decide +kernel), List.mem_of_getElem? (i := 1251) (by decide +kernel)⟩
theorem lw_p69 : lw_okq (⟨"KnottedWindsModel", "turnsAs", "(II)I"⟩, 24) := ⟨⟨by decide +kernel, by decide +kernel⟩, List.mem_of_getElem? (i := 869) (by decide +kernel), List.mem_of_getElem? (i := 1257) (by decide +kernel), List.mem_of_getElem? (i := 1258) (by decide +kernel)⟩
theorem lw_p70 : lw_okq (⟨"KnottedWindsModel", "mNow", "()I"⟩, 24) := ⟨⟨by decide +kernel, by decide +kernel⟩, List.mem_of_getElem? (i := 869) (by decide +kernel), List.mem_of_getElem? (i := 1261) (by decide +kernel), List.mem_of_getElem? (i := 1262) (by decide +kernel)⟩
theorem lw_p71 : lw_okq (⟨"KnottedWindsModel", "tiesAs", "(II)I"⟩, 24) := ⟨⟨by decide +kernel, by decide +kernel⟩, List.mem_of_getElem? (i := 869) (by decide +kernel), List.mem_of_getElem? (i := 1265) (by decide +kernel), List.mem_of_getElem? (i := 1266) (by decide +kernel)⟩
theorem lw_p72 : lw_okq (⟨"KnottedWindsModel", "partsAs", "(II)I"⟩, 24) := ⟨⟨by decide +kernel, by decide +kernel⟩, List.mem_of_getElem? (i := 869) (by decide +kernel), List.mem_of_getElem? (i := 1269) (by decide +kernel), List.mem_of_getElem? (i := 1270) (by decide +kernel)⟩
theorem lw_p73 : lw_okq (⟨"KnottedWindsModel", "lacks", "(I)I"⟩, 24) := ⟨⟨by decide +kernel, by decide +kernel⟩, List.mem_of_getElem? (i := 869) (by decide +kernel), List.mem_of_getElem? (i := 1293) (by decide +kernel), List.mem_of_getElem? (i := 1294) (by decide +kernel)⟩
theorem lw_p74 : lw_okq (⟨"KnottedWindsModel", "allTied", "()I"⟩, 24) := ⟨⟨by decide +kernel, by decide +kernel⟩, List.mem_of_getElem? (i := 869) (by decide +kernel), List.mem_of_getElem? (i := 1321) (by decide +kernel), List.mem_of_getElem? (i := 1322) (by decide +kernel)⟩
def lw_privs_5 : List (MethodName × Nat) := [(⟨"KnottedWindsModel", "lieBy", "(IIII)Z"⟩, 24), (⟨"KnottedWindsModel", "hoursOf", "(II)I"⟩, 24), (⟨"KnottedWindsModel", "kindNow", "()I"⟩, 24), (⟨"KnottedWindsModel", "blowsAs", "(II)I"⟩, 24), (⟨"KnottedWindsModel", "begins", "(I)V"⟩, 24), (⟨"KnottedWindsModel", "turnsAs", "(II)I"⟩, 24), (⟨"KnottedWindsModel", "mNow", "()I"⟩, 24), (⟨"KnottedWindsModel", "tiesAs", "(II)I"⟩, 24), (⟨"KnottedWindsModel", "partsAs", "(II)I"⟩, 24), (⟨"KnottedWindsModel", "lacks", "(I)I"⟩, 24), (⟨"KnottedWindsModel", "allTied", "()I"⟩, 24)]
theorem lw_r5 : ∀ q ∈ lw_privs_5, lw_okq q := List.forall_mem_cons.mpr ⟨lw_p64, List.forall_mem_cons.mpr ⟨lw_p65, List.forall_mem_cons.mpr ⟨lw_p66, List.forall_mem_cons.mpr ⟨lw_p67, List.forall_mem_cons.mpr ⟨lw_p68, List.forall_mem_cons.mpr ⟨lw_p69, List.forall_mem_cons.mpr ⟨lw_p70, List.forall_mem_cons.mpr ⟨lw_p71, List.forall_mem_cons.mpr ⟨lw_p72, List.forall_mem_cons.mpr ⟨lw_p73, List.forall_mem_cons.mpr ⟨lw_p74, fun _ h => absurd h List.not_mem_nil⟩⟩⟩⟩⟩⟩⟩⟩⟩⟩⟩
def lw_privs : List (MethodName × Nat) := lw_privs_1 ++ (lw_privs_2 ++ (lw_privs_3 ++ (lw_privs_4 ++ (lw_privs_5))))
def lw_tbl : List Cond := k2_sels lw_privs ++ tables_1
theorem lw_privs_ok : ∀ q ∈ lw_privs, lw_okq q := by
  show ∀ q ∈ lw_privs_1 ++ (lw_privs_2 ++ (lw_privs_3 ++ (lw_privs_4 ++ (lw_privs_5)))), lw_okq q
  exact List.forall_mem_append.mpr ⟨lw_r1, List.forall_mem_append.mpr ⟨lw_r2, List.forall_mem_append.mpr ⟨lw_r3, List.forall_mem_append.mpr ⟨lw_r4, lw_r5⟩⟩⟩⟩
def RX0 : String := "KnottedWinds$Foresight"
def TX0 : u_T := fun k => match k with
  | 0 => ("KnottedWinds$Foresight", "easts", "[I", true)
  | 1 => ("KnottedWinds$Foresight", "souths", "[I", true)
  | 2 => ("KnottedWinds$Foresight", "forces", "[I", true)
  | 3 => ("KnottedWinds$Foresight", "courses", "[[I", true)
  | 4 => ("KnottedWinds$Foresight", "ends", "[I", true)
  | 5 => ("KnottedWinds$Foresight", "hours", "I", false)
  | 6 => ("KnottedWinds$Foresight", "bestKnot", "I", false)
  | 7 => ("KnottedWinds$Foresight", "bestHome", "I", false)
  | 8 => ("KnottedWinds$Foresight", "suspects", "I", false)
  | 9 => ("KnottedWinds$Foresight", "firstSuspect", "I", false)
  | _ => ("KnottedWinds$Foresight", "rows", "I", false)
def tyX0 : Nat → FieldType := fun k => match k with
  | 0 => .array .int
  | 1 => .array .int
  | 2 => .array .int
  | 3 => .array (.array .int)
  | 4 => .array .int
  | 5 => .int
  | 6 => .int
  | 7 => .int
  | 8 => .int
  | 9 => .int
  | _ => .int
abbrev wsX00 : List Cond := u_ws RX0 TX0 11
theorem nmX0 : ∀ a, a < 11 → ∀ b, b < 11 → a ≠ b → (TX0 a).2.1 ≠ (TX0 b).2.1 := by decide +kernel
theorem tyX0_ok : ∀ k, k < 11 → parseFieldDescriptor (TX0 k).2.2.1 = some (tyX0 k) := by decide +kernel
abbrev cX0_init : ByteArray := prog_2_method_1_code
def yX0_init : MethodName := ⟨RX0, "<init>", "()V"⟩
abbrev cX0_findBest : ByteArray := prog_2_method_2_code
def yX0_findBest : MethodName := ⟨RX0, "findBest", "(LKnottedWinds$Sea;I)V"⟩
abbrev cX0_weigh : ByteArray := prog_2_method_3_code
def yX0_weigh : MethodName := ⟨RX0, "weigh", "(LKnottedWinds$Sea;I)V"⟩
abbrev cX0_findWho : ByteArray := prog_2_method_4_code
def yX0_findWho : MethodName := ⟨RX0, "findWho", "(LKnottedWinds$Sea;[II)V"⟩
abbrev cX0_rowsOf : ByteArray := prog_2_method_5_code
def yX0_rowsOf : MethodName := ⟨RX0, "rowsOf", "(LKnottedWinds$Sea;I[I)I"⟩
abbrev cX0_lookFrom : ByteArray := prog_2_method_6_code
def yX0_lookFrom : MethodName := ⟨RX0, "lookFrom", "(LKnottedWinds$Sea;I)V"⟩
abbrev cX0_foresee : ByteArray := prog_2_method_7_code
def yX0_foresee : MethodName := ⟨RX0, "foresee", "(LKnottedWinds$Sea;I)V"⟩
abbrev cX0_sailOn : ByteArray := prog_2_method_8_code
def yX0_sailOn : MethodName := ⟨RX0, "sailOn", "(LKnottedWinds$Sea;II)V"⟩
abbrev cX0_homeIn : ByteArray := prog_2_method_9_code
def yX0_homeIn : MethodName := ⟨RX0, "homeIn", "([II)I"⟩
abbrev cX0_lieAsTold : ByteArray := prog_2_method_10_code
def yX0_lieAsTold : MethodName := ⟨RX0, "lieAsTold", "([I[II)Z"⟩
def RX1 : String := "KnottedWinds$Reader"
def TX1 : u_T := fun k => match k with
  | 0 => ("KnottedWinds$Reader", "found", "LKnottedWinds$Text;", true)
  | 1 => ("KnottedWinds$Reader", "bytes", "[I", true)
  | 2 => ("KnottedWinds$Reader", "length", "I", false)
  | 3 => ("KnottedWinds$Reader", "at", "I", false)
  | 4 => ("KnottedWinds$Reader", "stuck", "Z", false)
  | _ => ("KnottedWinds$Reader", "names", "Ljava/lang/String;", false)
def tyX1 : Nat → FieldType := fun k => match k with
  | 0 => .object "KnottedWinds$Text"
  | 1 => .array .int
  | 2 => .int
  | 3 => .int
  | 4 => .boolean
  | _ => .object "java/lang/String"
abbrev wsX10 : List Cond := u_ws RX1 TX1 6
theorem nmX1 : ∀ a, a < 6 → ∀ b, b < 6 → a ≠ b → (TX1 a).2.1 ≠ (TX1 b).2.1 := by decide +kernel
theorem tyX1_ok : ∀ k, k < 6 → parseFieldDescriptor (TX1 k).2.2.1 = some (tyX1 k) := by decide +kernel
abbrev cX1_init : ByteArray := prog_3_method_1_code
def yX1_init : MethodName := ⟨RX1, "<init>", "()V"⟩
abbrev cX1_faultOf : ByteArray := prog_3_method_2_code
def yX1_faultOf : MethodName := ⟨RX1, "faultOf", "([III)I"⟩
abbrev cX1_next : ByteArray := prog_3_method_3_code
def yX1_next : MethodName := ⟨RX1, "next", "()I"⟩
abbrev cX1_readLevel : ByteArray := prog_3_method_4_code
def yX1_readLevel : MethodName := ⟨RX1, "readLevel", "(II)V"⟩
abbrev cX1_levelOf : ByteArray := prog_3_method_5_code
def yX1_levelOf : MethodName := ⟨RX1, "levelOf", "(I)I"⟩
abbrev cX1_readOperand : ByteArray := prog_3_method_6_code
def yX1_readOperand : MethodName := ⟨RX1, "readOperand", "(I)V"⟩
abbrev cX1_readOpened : ByteArray := prog_3_method_7_code
def yX1_readOpened : MethodName := ⟨RX1, "readOpened", "(II)V"⟩
abbrev cX1_isDigit : ByteArray := prog_3_method_8_code
def yX1_isDigit : MethodName := ⟨RX1, "isDigit", "(I)Z"⟩
abbrev cX1_readNumber : ByteArray := prog_3_method_9_code
def yX1_readNumber : MethodName := ⟨RX1, "readNumber", "()V"⟩
abbrev cX1_readName : ByteArray := prog_3_method_10_code
def yX1_readName : MethodName := ⟨RX1, "readName", "(I)V"⟩
def RX2 : String := "KnottedWinds$Sea"
def TX2 : u_T := fun k => match k with
  | 0 => ("KnottedWinds$Sea", "lands", "[I", true)
  | 1 => ("KnottedWinds$Sea", "drifts", "[I", true)
  | 2 => ("KnottedWinds$Sea", "places", "[I", true)
  | 3 => ("KnottedWinds$Sea", "ports", "[I", true)
  | 4 => ("KnottedWinds$Sea", "kinds", "[I", true)
  | 5 => ("KnottedWinds$Sea", "numbers", "[I", true)
  | 6 => ("KnottedWinds$Sea", "ways", "[I", true)
  | 7 => ("KnottedWinds$Sea", "loosed", "[I", true)
  | 8 => ("KnottedWinds$Sea", "tape", "[I", true)
  | 9 => ("KnottedWinds$Sea", "waiting", "[I", true)
  | 10 => ("KnottedWinds$Sea", "blows", "LKnottedWinds$Text;", true)
  | 11 => ("KnottedWinds$Sea", "price", "LKnottedWinds$Text;", true)
  | 12 => ("KnottedWinds$Sea", "ships", "I", false)
  | 13 => ("KnottedWinds$Sea", "hour", "I", false)
  | 14 => ("KnottedWinds$Sea", "fed", "I", false)
  | 15 => ("KnottedWinds$Sea", "waits", "I", false)
  | _ => ("KnottedWinds$Sea", "z", "I", false)
def tyX2 : Nat → FieldType := fun k => match k with
  | 0 => .array .int
  | 1 => .array .int
  | 2 => .array .int
  | 3 => .array .int
  | 4 => .array .int
  | 5 => .array .int
  | 6 => .array .int
  | 7 => .array .int
  | 8 => .array .int
  | 9 => .array .int
  | 10 => .object "KnottedWinds$Text"
  | 11 => .object "KnottedWinds$Text"
  | 12 => .int
  | 13 => .int
  | 14 => .int
  | 15 => .int
  | _ => .int
abbrev wsX20 : List Cond := u_ws RX2 TX2 17
theorem nmX2 : ∀ a, a < 17 → ∀ b, b < 17 → a ≠ b → (TX2 a).2.1 ≠ (TX2 b).2.1 := by decide +kernel
theorem tyX2_ok : ∀ k, k < 17 → parseFieldDescriptor (TX2 k).2.2.1 = some (tyX2 k) := by decide +kernel
abbrev cX2_init : ByteArray := prog_4_method_1_code
def yX2_init : MethodName := ⟨RX2, "<init>", "()V"⟩
abbrev cX2_become : ByteArray := prog_4_method_2_code
def yX2_become : MethodName := ⟨RX2, "become", "(LKnottedWinds$Sea;)V"⟩
abbrev cX2_launch : ByteArray := prog_4_method_3_code
def yX2_launch : MethodName := ⟨RX2, "launch", "(II)I"⟩
abbrev cX2_tieAnew : ByteArray := prog_4_method_4_code
def yX2_tieAnew : MethodName := ⟨RX2, "tieAnew", "(III)V"⟩
abbrev cX2_textOf : ByteArray := prog_4_method_5_code
def yX2_textOf : MethodName := ⟨RX2, "textOf", "(I)LKnottedWinds$Text;"⟩
abbrev cX2_shipFact : ByteArray := prog_4_method_6_code
def yX2_shipFact : MethodName := ⟨RX2, "shipFact", "(III)I"⟩
abbrev cX2_knotFact : ByteArray := prog_4_method_7_code
def yX2_knotFact : MethodName := ⟨RX2, "knotFact", "(II)I"⟩
abbrev cX2_tally : ByteArray := prog_4_method_8_code
def yX2_tally : MethodName := ⟨RX2, "tally", "(I)I"⟩
abbrev cX2_tiedOf : ByteArray := prog_4_method_9_code
def yX2_tiedOf : MethodName := ⟨RX2, "tiedOf", "(I)I"⟩
abbrev cX2_tiedOfAll : ByteArray := prog_4_method_10_code
def yX2_tiedOfAll : MethodName := ⟨RX2, "tiedOfAll", "()I"⟩
abbrev cX2_shipsThatAre : ByteArray := prog_4_method_11_code
def yX2_shipsThatAre : MethodName := ⟨RX2, "shipsThatAre", "(I)I"⟩
abbrev cX2_priceOf : ByteArray := prog_4_method_12_code
def yX2_priceOf : MethodName := ⟨RX2, "priceOf", "(I)I"⟩
abbrev cX2_worth : ByteArray := prog_4_method_13_code
def yX2_worth : MethodName := ⟨RX2, "worth", "(I)I"⟩
abbrev cX2_force : ByteArray := prog_4_method_14_code
def yX2_force : MethodName := ⟨RX2, "force", "(II)I"⟩
abbrev cX2_slowForce : ByteArray := prog_4_method_15_code
def yX2_slowForce : MethodName := ⟨RX2, "slowForce", "(II)I"⟩
abbrev cX2_windAt : ByteArray := prog_4_method_16_code
def yX2_windAt : MethodName := ⟨RX2, "windAt", "(II)I"⟩
abbrev cX2_mayBeLoosed : ByteArray := prog_4_method_17_code
def yX2_mayBeLoosed : MethodName := ⟨RX2, "mayBeLoosed", "(III)Z"⟩
abbrev cX2_placeBehindHour : ByteArray := prog_4_method_18_code
def yX2_placeBehindHour : MethodName := ⟨RX2, "placeBehindHour", "(III)I"⟩
abbrev cX2_sailed : ByteArray := prog_4_method_19_code
def yX2_sailed : MethodName := ⟨RX2, "sailed", "(IIII)I"⟩
abbrev cX2_along : ByteArray := prog_4_method_20_code
def yX2_along : MethodName := ⟨RX2, "along", "(IIII)I"⟩
abbrev cX2_entered : ByteArray := prog_4_method_21_code
def yX2_entered : MethodName := ⟨RX2, "entered", "(II)I"⟩
abbrev cX2_passHour : ByteArray := prog_4_method_22_code
def yX2_passHour : MethodName := ⟨RX2, "passHour", "()V"⟩
abbrev cX2_looseByDraw : ByteArray := prog_4_method_23_code
def yX2_looseByDraw : MethodName := ⟨RX2, "looseByDraw", "()Z"⟩
abbrev cX2_drawn : ByteArray := prog_4_method_24_code
def yX2_drawn : MethodName := ⟨RX2, "drawn", "()I"⟩
def RX3 : String := "KnottedWinds$Search"
def TX3 : u_T := fun k => match k with
  | 0 => ("KnottedWinds$Search", "easts", "[I", true)
  | 1 => ("KnottedWinds$Search", "souths", "[I", true)
  | 2 => ("KnottedWinds$Search", "forces", "[I", true)
  | 3 => ("KnottedWinds$Search", "since", "[I", true)
  | 4 => ("KnottedWinds$Search", "ship", "I", false)
  | 5 => ("KnottedWinds$Search", "limit", "I", false)
  | 6 => ("KnottedWinds$Search", "first", "I", false)
  | 7 => ("KnottedWinds$Search", "bestHours", "I", false)
  | 8 => ("KnottedWinds$Search", "bestLoosed", "I", false)
  | _ => ("KnottedWinds$Search", "bestFirst", "I", false)
def tyX3 : Nat → FieldType := fun k => match k with
  | 0 => .array .int
  | 1 => .array .int
  | 2 => .array .int
  | 3 => .array .int
  | 4 => .int
  | 5 => .int
  | 6 => .int
  | 7 => .int
  | 8 => .int
  | _ => .int
abbrev wsX30 : List Cond := u_ws RX3 TX3 10
theorem nmX3 : ∀ a, a < 10 → ∀ b, b < 10 → a ≠ b → (TX3 a).2.1 ≠ (TX3 b).2.1 := by decide +kernel
theorem tyX3_ok : ∀ k, k < 10 → parseFieldDescriptor (TX3 k).2.2.1 = some (tyX3 k) := by decide +kernel
abbrev cX3_init : ByteArray := prog_5_method_1_code
def yX3_init : MethodName := ⟨RX3, "<init>", "()V"⟩
abbrev cX3_find : ByteArray := prog_5_method_2_code
def yX3_find : MethodName := ⟨RX3, "find", "(LKnottedWinds$Sea;II)V"⟩
abbrev cX3_goOn : ByteArray := prog_5_method_3_code
def yX3_goOn : MethodName := ⟨RX3, "goOn", "(LKnottedWinds$Sea;III)V"⟩
abbrev cX3_keep : ByteArray := prog_5_method_4_code
def yX3_keep : MethodName := ⟨RX3, "keep", "(II)V"⟩
abbrev cX3_behind : ByteArray := prog_5_method_5_code
def yX3_behind : MethodName := ⟨RX3, "behind", "(LKnottedWinds$Sea;II)I"⟩
def RX4 : String := "KnottedWinds$Sheet"
def TX4 : u_T := fun k => match k with
  | 0 => ("KnottedWinds$Sheet", "numbers", "[I", true)
  | 1 => ("KnottedWinds$Sheet", "bits", "I", false)
  | _ => ("KnottedWinds$Sheet", "length", "I", false)
def tyX4 : Nat → FieldType := fun k => match k with
  | 0 => .array .int
  | 1 => .int
  | _ => .int
abbrev wsX40 : List Cond := u_ws RX4 TX4 3
theorem nmX4 : ∀ a, a < 3 → ∀ b, b < 3 → a ≠ b → (TX4 a).2.1 ≠ (TX4 b).2.1 := by decide +kernel
theorem tyX4_ok : ∀ k, k < 3 → parseFieldDescriptor (TX4 k).2.2.1 = some (tyX4 k) := by decide +kernel
abbrev cX4_init : ByteArray := prog_6_method_1_code
def yX4_init : MethodName := ⟨RX4, "<init>", "()V"⟩
abbrev cX4_isThere : ByteArray := prog_6_method_2_code
def yX4_isThere : MethodName := ⟨RX4, "isThere", "()Z"⟩
abbrev cX4_begin : ByteArray := prog_6_method_3_code
def yX4_begin : MethodName := ⟨RX4, "begin", "(II)V"⟩
abbrev cX4_write : ByteArray := prog_6_method_4_code
def yX4_write : MethodName := ⟨RX4, "write", "(II)V"⟩
abbrev cX4_holds : ByteArray := prog_6_method_5_code
def yX4_holds : MethodName := ⟨RX4, "holds", "(II)Z"⟩
def RX5 : String := "KnottedWinds$Speaker"
def TX5 : u_T := fun k => match k with
  | 0 => ("KnottedWinds$Speaker", "trace", "[I", true)
  | 1 => ("KnottedWinds$Speaker", "traced", "I", false)
  | 2 => ("KnottedWinds$Speaker", "parted", "Z", false)
  | 3 => ("KnottedWinds$Speaker", "kind", "I", false)
  | 4 => ("KnottedWinds$Speaker", "m", "I", false)
  | _ => ("KnottedWinds$Speaker", "k", "I", false)
def tyX5 : Nat → FieldType := fun k => match k with
  | 0 => .array .int
  | 1 => .int
  | 2 => .boolean
  | 3 => .int
  | 4 => .int
  | _ => .int
abbrev wsX50 : List Cond := u_ws RX5 TX5 6
theorem nmX5 : ∀ a, a < 6 → ∀ b, b < 6 → a ≠ b → (TX5 a).2.1 ≠ (TX5 b).2.1 := by decide +kernel
theorem tyX5_ok : ∀ k, k < 6 → parseFieldDescriptor (TX5 k).2.2.1 = some (tyX5 k) := by decide +kernel
abbrev cX5_init : ByteArray := prog_7_method_1_code
def yX5_init : MethodName := ⟨RX5, "<init>", "()V"⟩
abbrev cX5_answer : ByteArray := prog_7_method_2_code
def yX5_answer : MethodName := ⟨RX5, "answer", "(IIIII)I"⟩
abbrev cX5_bodyFrom : ByteArray := prog_7_method_3_code
def yX5_bodyFrom : MethodName := ⟨RX5, "bodyFrom", "(II)I"⟩
abbrev cX5_begin : ByteArray := prog_7_method_4_code
def yX5_begin : MethodName := ⟨RX5, "begin", "(I)V"⟩
abbrev cX5_speak : ByteArray := prog_7_method_5_code
def yX5_speak : MethodName := ⟨RX5, "speak", "(IIII)I"⟩
abbrev cX5_partedBy : ByteArray := prog_7_method_6_code
def yX5_partedBy : MethodName := ⟨RX5, "partedBy", "(II)I"⟩
def RX6 : String := "KnottedWinds$Text"
def TX6 : u_T := fun k => match k with
  | 0 => ("KnottedWinds$Text", "code", "[I", true)
  | 1 => ("KnottedWinds$Text", "stack", "[I", true)
  | _ => ("KnottedWinds$Text", "length", "I", false)
def tyX6 : Nat → FieldType := fun k => match k with
  | 0 => .array .int
  | 1 => .array .int
  | _ => .int
abbrev wsX60 : List Cond := u_ws RX6 TX6 3
theorem nmX6 : ∀ a, a < 3 → ∀ b, b < 3 → a ≠ b → (TX6 a).2.1 ≠ (TX6 b).2.1 := by decide +kernel
theorem tyX6_ok : ∀ k, k < 3 → parseFieldDescriptor (TX6 k).2.2.1 = some (tyX6 k) := by decide +kernel
abbrev cX6_init : ByteArray := prog_8_method_1_code
def yX6_init : MethodName := ⟨RX6, "<init>", "()V"⟩
abbrev cX6_isThere : ByteArray := prog_8_method_2_code
def yX6_isThere : MethodName := ⟨RX6, "isThere", "()Z"⟩
abbrev cX6_clear : ByteArray := prog_8_method_3_code
def yX6_clear : MethodName := ⟨RX6, "clear", "()V"⟩
abbrev cX6_become : ByteArray := prog_8_method_4_code
def yX6_become : MethodName := ⟨RX6, "become", "(LKnottedWinds$Text;)V"⟩
abbrev cX6_add : ByteArray := prog_8_method_5_code
def yX6_add : MethodName := ⟨RX6, "add", "(I)V"⟩
abbrev cX6_value : ByteArray := prog_8_method_6_code
def yX6_value : MethodName := ⟨RX6, "value", "(III)I"⟩
abbrev cX6_operand : ByteArray := prog_8_method_7_code
def yX6_operand : MethodName := ⟨RX6, "operand", "(IIII)I"⟩
abbrev cX6_joined : ByteArray := prog_8_method_8_code
def yX6_joined : MethodName := ⟨RX6, "joined", "(III)I"⟩
def RX7 : String := "KnottedWinds"
def TX7 : u_T := fun k => match k with
  | 0 => ("KnottedWinds", "now", "LKnottedWinds$Sea;", true)
  | 1 => ("KnottedWinds", "kept", "LKnottedWinds$Sea;", true)
  | 2 => ("KnottedWinds", "images", "I", false)
  | 3 => ("KnottedWinds", "reader", "LKnottedWinds$Reader;", true)
  | 4 => ("KnottedWinds", "foresight", "LKnottedWinds$Foresight;", true)
  | 5 => ("KnottedWinds", "search", "LKnottedWinds$Search;", true)
  | 6 => ("KnottedWinds", "speaker", "LKnottedWinds$Speaker;", true)
  | 7 => ("KnottedWinds", "sheets", "[LKnottedWinds$Sheet;", true)
  | _ => ("KnottedWinds", "errors", "[I", true)
def tyX7 : Nat → FieldType := fun k => match k with
  | 0 => .object "KnottedWinds$Sea"
  | 1 => .object "KnottedWinds$Sea"
  | 2 => .int
  | 3 => .object "KnottedWinds$Reader"
  | 4 => .object "KnottedWinds$Foresight"
  | 5 => .object "KnottedWinds$Search"
  | 6 => .object "KnottedWinds$Speaker"
  | 7 => .array (.object "KnottedWinds$Sheet")
  | _ => .array .int
abbrev wsX70 : List Cond := u_ws RX7 TX7 9
theorem nmX7 : ∀ a, a < 9 → ∀ b, b < 9 → a ≠ b → (TX7 a).2.1 ≠ (TX7 b).2.1 := by decide +kernel
theorem tyX7_ok : ∀ k, k < 9 → parseFieldDescriptor (TX7 k).2.2.1 = some (tyX7 k) := by decide +kernel
abbrev cX7_init : ByteArray := prog_1_method_1_code
def yX7_init : MethodName := ⟨RX7, "<init>", "()V"⟩
abbrev cX7_land : ByteArray := prog_1_method_2_code
def yX7_land : MethodName := ⟨RX7, "land", "(II)I"⟩
abbrev cX7_drift : ByteArray := prog_1_method_3_code
def yX7_drift : MethodName := ⟨RX7, "drift", "(II)I"⟩
abbrev cX7_ship : ByteArray := prog_1_method_4_code
def yX7_ship : MethodName := ⟨RX7, "ship", "(II)I"⟩
abbrev cX7_shipIs : ByteArray := prog_1_method_5_code
def yX7_shipIs : MethodName := ⟨RX7, "shipIs", "(II)I"⟩
abbrev cX7_bring : ByteArray := prog_1_method_6_code
def yX7_bring : MethodName := ⟨RX7, "bring", "(II)I"⟩
abbrev cX7_tie : ByteArray := prog_1_method_7_code
def yX7_tie : MethodName := ⟨RX7, "tie", "(IIII)I"⟩
abbrev cX7_knotIs : ByteArray := prog_1_method_8_code
def yX7_knotIs : MethodName := ⟨RX7, "knotIs", "(III)I"⟩
abbrev cX7_as : ByteArray := prog_1_method_9_code
def yX7_as : MethodName := ⟨RX7, "as", "(III)I"⟩
abbrev cX7_loose : ByteArray := prog_1_method_10_code
def yX7_loose : MethodName := ⟨RX7, "loose", "(II)I"⟩
abbrev cX7_wind : ByteArray := prog_1_method_11_code
def yX7_wind : MethodName := ⟨RX7, "wind", "(I)I"⟩
abbrev cX7_feed : ByteArray := prog_1_method_12_code
def yX7_feed : MethodName := ⟨RX7, "feed", "(JI)I"⟩
abbrev cX7_text : ByteArray := prog_1_method_13_code
def yX7_text : MethodName := ⟨RX7, "text", "(I)I"⟩
abbrev cX7_untell : ByteArray := prog_1_method_14_code
def yX7_untell : MethodName := ⟨RX7, "untell", "(I)I"⟩
abbrev cX7_hours : ByteArray := prog_1_method_15_code
def yX7_hours : MethodName := ⟨RX7, "hours", "(I)I"⟩
abbrev cX7_draws : ByteArray := prog_1_method_16_code
def yX7_draws : MethodName := ⟨RX7, "draws", "(I)I"⟩
abbrev cX7_seed : ByteArray := prog_1_method_17_code
def yX7_seed : MethodName := ⟨RX7, "seed", "(I)I"⟩
abbrev cX7_then : ByteArray := prog_1_method_18_code
def yX7_then : MethodName := ⟨RX7, "then", "(III)I"⟩
abbrev cX7_home : ByteArray := prog_1_method_19_code
def yX7_home : MethodName := ⟨RX7, "home", "(II)I"⟩
abbrev cX7_soonest : ByteArray := prog_1_method_20_code
def yX7_soonest : MethodName := ⟨RX7, "soonest", "(III)I"⟩
abbrev cX7_bestKnot : ByteArray := prog_1_method_21_code
def yX7_bestKnot : MethodName := ⟨RX7, "bestKnot", "(II)I"⟩
abbrev cX7_who : ByteArray := prog_1_method_22_code
def yX7_who : MethodName := ⟨RX7, "who", "(III)I"⟩
abbrev cX7_race : ByteArray := prog_1_method_23_code
def yX7_race : MethodName := ⟨RX7, "race", "(III)I"⟩
abbrev cX7_voice : ByteArray := prog_1_method_24_code
def yX7_voice : MethodName := ⟨RX7, "voice", "(IIII)I"⟩
abbrev cX7_body : ByteArray := prog_1_method_25_code
def yX7_body : MethodName := ⟨RX7, "body", "(I)I"⟩
abbrev cX7_sheet : ByteArray := prog_1_method_26_code
def yX7_sheet : MethodName := ⟨RX7, "sheet", "(III)I"⟩
abbrev cX7_put : ByteArray := prog_1_method_27_code
def yX7_put : MethodName := ⟨RX7, "put", "(III)I"⟩
abbrev cX7_move : ByteArray := prog_1_method_28_code
def yX7_move : MethodName := ⟨RX7, "move", "(IIIII)I"⟩
abbrev cX7_lands : ByteArray := prog_1_method_29_code
def yX7_lands : MethodName := ⟨RX7, "lands", "(I)I"⟩
abbrev cX7_judge : ByteArray := prog_1_method_30_code
def yX7_judge : MethodName := ⟨RX7, "judge", "(II)I"⟩
abbrev cX7_image : ByteArray := prog_1_method_31_code
def yX7_image : MethodName := ⟨RX7, "image", "()I"⟩
abbrev cX7_restore : ByteArray := prog_1_method_32_code
def yX7_restore : MethodName := ⟨RX7, "restore", "()I"⟩
abbrev cX7_tell : ByteArray := prog_1_method_33_code
def yX7_tell : MethodName := ⟨RX7, "tell", "(I)I"⟩
abbrev cX7_check : ByteArray := prog_1_method_34_code
def yX7_check : MethodName := ⟨RX7, "check", "()I"⟩
abbrev cX7_count : ByteArray := prog_1_method_35_code
def yX7_count : MethodName := ⟨RX7, "count", "(I)I"⟩
abbrev cX7_told : ByteArray := prog_1_method_36_code
def yX7_told : MethodName := ⟨RX7, "told", "(I)I"⟩
abbrev cX7_error : ByteArray := prog_1_method_37_code
def yX7_error : MethodName := ⟨RX7, "error", "(I)I"⟩
abbrev cX7_isShip : ByteArray := prog_1_method_38_code
def yX7_isShip : MethodName := ⟨RX7, "isShip", "(I)Z"⟩
abbrev cX7_isKnot : ByteArray := prog_1_method_39_code
def yX7_isKnot : MethodName := ⟨RX7, "isKnot", "(II)Z"⟩
abbrev cX7_within : ByteArray := prog_1_method_40_code
def yX7_within : MethodName := ⟨RX7, "within", "(II)Z"⟩
abbrev cX7_between : ByteArray := prog_1_method_41_code
def yX7_between : MethodName := ⟨RX7, "between", "(III)Z"⟩
abbrev cX7_cellOf : ByteArray := prog_1_method_42_code
def yX7_cellOf : MethodName := ⟨RX7, "cellOf", "(I)I"⟩
abbrev cX7_stateOf : ByteArray := prog_1_method_43_code
def yX7_stateOf : MethodName := ⟨RX7, "stateOf", "(I)I"⟩
abbrev cX7_laid : ByteArray := prog_1_method_44_code
def yX7_laid : MethodName := ⟨RX7, "laid", "(II)I"⟩
abbrev cX7_namedKnot : ByteArray := prog_1_method_45_code
def yX7_namedKnot : MethodName := ⟨RX7, "namedKnot", "(I)I"⟩
abbrev cX7_isDay : ByteArray := prog_1_method_46_code
def yX7_isDay : MethodName := ⟨RX7, "isDay", "(I)Z"⟩
abbrev cX7_isUnder : ByteArray := prog_1_method_47_code
def yX7_isUnder : MethodName := ⟨RX7, "isUnder", "(II)Z"⟩
abbrev cX7_share : ByteArray := prog_1_method_48_code
def yX7_share : MethodName := ⟨RX7, "share", "(II)I"⟩
abbrev cX7_held : ByteArray := prog_1_method_49_code
def yX7_held : MethodName := ⟨RX7, "held", "(III)I"⟩
def RX8 : String := "KnottedWindsModel"
def TX8 : u_T := fun k => match k with
  | 0 => ("KnottedWindsModel", "s", "[I", true)
  | 1 => ("KnottedWindsModel", "kept", "[I", true)
  | 2 => ("KnottedWindsModel", "put", "[I", true)
  | 3 => ("KnottedWindsModel", "layers", "[I", true)
  | 4 => ("KnottedWindsModel", "images", "I", false)
  | 5 => ("KnottedWindsModel", "errors", "[I", true)
  | 6 => ("KnottedWindsModel", "at", "I", false)
  | 7 => ("KnottedWindsModel", "open", "I", false)
  | 8 => ("KnottedWindsModel", "steps", "I", false)
  | 9 => ("KnottedWindsModel", "use", "I", false)
  | 10 => ("KnottedWindsModel", "step", "[I", true)
  | 11 => ("KnottedWindsModel", "named", "[I", true)
  | 12 => ("KnottedWindsModel", "pile", "[I", true)
  | 13 => ("KnottedWindsModel", "bestHours", "I", false)
  | 14 => ("KnottedWindsModel", "bestKnots", "I", false)
  | 15 => ("KnottedWindsModel", "bestRow", "I", false)
  | 16 => ("KnottedWindsModel", "trace", "[I", true)
  | 17 => ("KnottedWindsModel", "traced", "I", false)
  | 18 => ("KnottedWindsModel", "speaks", "I", false)
  | 19 => ("KnottedWindsModel", "isParted", "Z", false)
  | 20 => ("KnottedWindsModel", "bits", "[I", true)
  | 21 => ("KnottedWindsModel", "sizes", "[I", true)
  | 22 => ("KnottedWindsModel", "number", "[I", true)
  | _ => ("KnottedWindsModel", "aside", "[I", true)
def tyX8 : Nat → FieldType := fun k => match k with
  | 0 => .array .int
  | 1 => .array .int
  | 2 => .array .int
  | 3 => .array .int
  | 4 => .int
  | 5 => .array .int
  | 6 => .int
  | 7 => .int
  | 8 => .int
  | 9 => .int
  | 10 => .array .int
  | 11 => .array .int
  | 12 => .array .int
  | 13 => .int
  | 14 => .int
  | 15 => .int
  | 16 => .array .int
  | 17 => .int
  | 18 => .int
  | 19 => .boolean
  | 20 => .array .int
  | 21 => .array .int
  | 22 => .array .int
  | _ => .array .int
abbrev wsX80 : List Cond := u_ws RX8 TX8 24
theorem nmX8 : ∀ a, a < 24 → ∀ b, b < 24 → a ≠ b → (TX8 a).2.1 ≠ (TX8 b).2.1 := by decide +kernel
theorem tyX8_ok : ∀ k, k < 24 → parseFieldDescriptor (TX8 k).2.2.1 = some (tyX8 k) := by decide +kernel
abbrev cX8_init : ByteArray := prog_10_method_1_code
def yX8_init : MethodName := ⟨RX8, "<init>", "()V"⟩
abbrev cX8_error : ByteArray := prog_10_method_2_code
def yX8_error : MethodName := ⟨RX8, "error", "(I)I"⟩
abbrev cX8_in : ByteArray := prog_10_method_3_code
def yX8_in : MethodName := ⟨RX8, "in", "(III)Z"⟩
abbrev cX8_held : ByteArray := prog_10_method_4_code
def yX8_held : MethodName := ⟨RX8, "held", "(III)I"⟩
abbrev cX8_carry : ByteArray := prog_10_method_5_code
def yX8_carry : MethodName := ⟨RX8, "carry", "([I[I)V"⟩
abbrev cX8_layDown : ByteArray := prog_10_method_6_code
def yX8_layDown : MethodName := ⟨RX8, "layDown", "(I)V"⟩
abbrev cX8_layBack : ByteArray := prog_10_method_7_code
def yX8_layBack : MethodName := ⟨RX8, "layBack", "(I)V"⟩
abbrev cX8_isCell : ByteArray := prog_10_method_8_code
def yX8_isCell : MethodName := ⟨RX8, "isCell", "(I)Z"⟩
abbrev cX8_isShip : ByteArray := prog_10_method_9_code
def yX8_isShip : MethodName := ⟨RX8, "isShip", "(I)Z"⟩
abbrev cX8_isKnot : ByteArray := prog_10_method_10_code
def yX8_isKnot : MethodName := ⟨RX8, "isKnot", "(II)Z"⟩
abbrev cX8_of : ByteArray := prog_10_method_11_code
def yX8_of : MethodName := ⟨RX8, "of", "(II)I"⟩
abbrev cX8_lays1 : ByteArray := prog_10_method_12_code
def yX8_lays1 : MethodName := ⟨RX8, "lays1", "(III)V"⟩
abbrev cX8_its : ByteArray := prog_10_method_13_code
def yX8_its : MethodName := ⟨RX8, "its", "(II)I"⟩
abbrev cX8_isTied : ByteArray := prog_10_method_14_code
def yX8_isTied : MethodName := ⟨RX8, "isTied", "(I)Z"⟩
abbrev cX8_change1 : ByteArray := prog_10_method_15_code
def yX8_change1 : MethodName := ⟨RX8, "change1", "(II)I"⟩
abbrev cX8_isDay : ByteArray := prog_10_method_16_code
def yX8_isDay : MethodName := ⟨RX8, "isDay", "()Z"⟩
abbrev cX8_feed : ByteArray := prog_10_method_17_code
def yX8_feed : MethodName := ⟨RX8, "feed", "(JI)I"⟩
abbrev cX8_look : ByteArray := prog_10_method_18_code
def yX8_look : MethodName := ⟨RX8, "look", "()I"⟩
abbrev cX8_isName : ByteArray := prog_10_method_19_code
def yX8_isName : MethodName := ⟨RX8, "isName", "(I)Z"⟩
abbrev cX8_step1 : ByteArray := prog_10_method_20_code
def yX8_step1 : MethodName := ⟨RX8, "step1", "(II)V"⟩
abbrev cX8_whole : ByteArray := prog_10_method_21_code
def yX8_whole : MethodName := ⟨RX8, "whole", "()Z"⟩
abbrev cX8_both : ByteArray := prog_10_method_22_code
def yX8_both : MethodName := ⟨RX8, "both", "()Z"⟩
abbrev cX8_compared : ByteArray := prog_10_method_23_code
def yX8_compared : MethodName := ⟨RX8, "compared", "()Z"⟩
abbrev cX8_sum : ByteArray := prog_10_method_24_code
def yX8_sum : MethodName := ⟨RX8, "sum", "()Z"⟩
abbrev cX8_product : ByteArray := prog_10_method_25_code
def yX8_product : MethodName := ⟨RX8, "product", "()Z"⟩
abbrev cX8_opens : ByteArray := prog_10_method_26_code
def yX8_opens : MethodName := ⟨RX8, "opens", "()Z"⟩
abbrev cX8_one : ByteArray := prog_10_method_27_code
def yX8_one : MethodName := ⟨RX8, "one", "()Z"⟩
abbrev cX8_hasText : ByteArray := prog_10_method_28_code
def yX8_hasText : MethodName := ⟨RX8, "hasText", "(I)Z"⟩
abbrev cX8_text : ByteArray := prog_10_method_29_code
def yX8_text : MethodName := ⟨RX8, "text", "(I)I"⟩
abbrev cX8_untell : ByteArray := prog_10_method_30_code
def yX8_untell : MethodName := ⟨RX8, "untell", "(I)I"⟩
abbrev cX8_joined : ByteArray := prog_10_method_31_code
def yX8_joined : MethodName := ⟨RX8, "joined", "(III)I"⟩
abbrev cX8_worked : ByteArray := prog_10_method_32_code
def yX8_worked : MethodName := ⟨RX8, "worked", "(I)I"⟩
abbrev cX8_blowsTold : ByteArray := prog_10_method_33_code
def yX8_blowsTold : MethodName := ⟨RX8, "blowsTold", "(II)I"⟩
abbrev cX8_force : ByteArray := prog_10_method_34_code
def yX8_force : MethodName := ⟨RX8, "force", "(I)I"⟩
abbrev cX8_windTo : ByteArray := prog_10_method_35_code
def yX8_windTo : MethodName := ⟨RX8, "windTo", "(I)I"⟩
abbrev cX8_land : ByteArray := prog_10_method_36_code
def yX8_land : MethodName := ⟨RX8, "land", "(II)I"⟩
abbrev cX8_drift : ByteArray := prog_10_method_37_code
def yX8_drift : MethodName := ⟨RX8, "drift", "(II)I"⟩
abbrev cX8_brings : ByteArray := prog_10_method_38_code
def yX8_brings : MethodName := ⟨RX8, "brings", "(II)V"⟩
abbrev cX8_ship : ByteArray := prog_10_method_39_code
def yX8_ship : MethodName := ⟨RX8, "ship", "(II)I"⟩
abbrev cX8_ties : ByteArray := prog_10_method_40_code
def yX8_ties : MethodName := ⟨RX8, "ties", "(III)V"⟩
abbrev cX8_tiedOf : ByteArray := prog_10_method_41_code
def yX8_tiedOf : MethodName := ⟨RX8, "tiedOf", "(I)I"⟩
abbrev cX8_price : ByteArray := prog_10_method_42_code
def yX8_price : MethodName := ⟨RX8, "price", "(I)I"⟩
abbrev cX8_toldShip : ByteArray := prog_10_method_43_code
def yX8_toldShip : MethodName := ⟨RX8, "toldShip", "(II)I"⟩
abbrev cX8_shipIs : ByteArray := prog_10_method_44_code
def yX8_shipIs : MethodName := ⟨RX8, "shipIs", "(II)I"⟩
abbrev cX8_bring : ByteArray := prog_10_method_45_code
def yX8_bring : MethodName := ⟨RX8, "bring", "(II)I"⟩
abbrev cX8_tie : ByteArray := prog_10_method_46_code
def yX8_tie : MethodName := ⟨RX8, "tie", "(IIII)I"⟩
abbrev cX8_knotIs : ByteArray := prog_10_method_47_code
def yX8_knotIs : MethodName := ⟨RX8, "knotIs", "(III)I"⟩
abbrev cX8_isUnder : ByteArray := prog_10_method_48_code
def yX8_isUnder : MethodName := ⟨RX8, "isUnder", "(II)Z"⟩
abbrev cX8_as : ByteArray := prog_10_method_49_code
def yX8_as : MethodName := ⟨RX8, "as", "(III)I"⟩
abbrev cX8_mayLoose : ByteArray := prog_10_method_50_code
def yX8_mayLoose : MethodName := ⟨RX8, "mayLoose", "(I)Z"⟩
abbrev cX8_looses : ByteArray := prog_10_method_51_code
def yX8_looses : MethodName := ⟨RX8, "looses", "(I)V"⟩
abbrev cX8_loose : ByteArray := prog_10_method_52_code
def yX8_loose : MethodName := ⟨RX8, "loose", "(II)I"⟩
abbrev cX8_wind : ByteArray := prog_10_method_53_code
def yX8_wind : MethodName := ⟨RX8, "wind", "(I)I"⟩
abbrev cX8_sails : ByteArray := prog_10_method_54_code
def yX8_sails : MethodName := ⟨RX8, "sails", "(III)V"⟩
abbrev cX8_hour : ByteArray := prog_10_method_55_code
def yX8_hour : MethodName := ⟨RX8, "hour", "()V"⟩
abbrev cX8_go : ByteArray := prog_10_method_56_code
def yX8_go : MethodName := ⟨RX8, "go", "(I)V"⟩
abbrev cX8_standing : ByteArray := prog_10_method_57_code
def yX8_standing : MethodName := ⟨RX8, "standing", "(I)I"⟩
abbrev cX8_hours : ByteArray := prog_10_method_58_code
def yX8_hours : MethodName := ⟨RX8, "hours", "(I)I"⟩
abbrev cX8_draw : ByteArray := prog_10_method_59_code
def yX8_draw : MethodName := ⟨RX8, "draw", "()I"⟩
abbrev cX8_draws : ByteArray := prog_10_method_60_code
def yX8_draws : MethodName := ⟨RX8, "draws", "(I)I"⟩
abbrev cX8_seed : ByteArray := prog_10_method_61_code
def yX8_seed : MethodName := ⟨RX8, "seed", "(I)I"⟩
abbrev cX8_then : ByteArray := prog_10_method_62_code
def yX8_then : MethodName := ⟨RX8, "then", "(III)I"⟩
abbrev cX8_home : ByteArray := prog_10_method_63_code
def yX8_home : MethodName := ⟨RX8, "home", "(II)I"⟩
abbrev cX8_loosedAt : ByteArray := prog_10_method_64_code
def yX8_loosedAt : MethodName := ⟨RX8, "loosedAt", "(II)I"⟩
abbrev cX8_isWay : ByteArray := prog_10_method_65_code
def yX8_isWay : MethodName := ⟨RX8, "isWay", "(I)Z"⟩
abbrev cX8_tries : ByteArray := prog_10_method_66_code
def yX8_tries : MethodName := ⟨RX8, "tries", "(III)V"⟩
abbrev cX8_findSoonest : ByteArray := prog_10_method_67_code
def yX8_findSoonest : MethodName := ⟨RX8, "findSoonest", "(II)V"⟩
abbrev cX8_soonest : ByteArray := prog_10_method_68_code
def yX8_soonest : MethodName := ⟨RX8, "soonest", "(III)I"⟩
abbrev cX8_bestKnot : ByteArray := prog_10_method_69_code
def yX8_bestKnot : MethodName := ⟨RX8, "bestKnot", "(II)I"⟩
abbrev cX8_lieSo : ByteArray := prog_10_method_70_code
def yX8_lieSo : MethodName := ⟨RX8, "lieSo", "(I)Z"⟩
abbrev cX8_lieBy : ByteArray := prog_10_method_71_code
def yX8_lieBy : MethodName := ⟨RX8, "lieBy", "(IIII)Z"⟩
abbrev cX8_who : ByteArray := prog_10_method_72_code
def yX8_who : MethodName := ⟨RX8, "who", "(III)I"⟩
abbrev cX8_hoursOf : ByteArray := prog_10_method_73_code
def yX8_hoursOf : MethodName := ⟨RX8, "hoursOf", "(II)I"⟩
abbrev cX8_race : ByteArray := prog_10_method_74_code
def yX8_race : MethodName := ⟨RX8, "race", "(III)I"⟩
abbrev cX8_begins : ByteArray := prog_10_method_75_code
def yX8_begins : MethodName := ⟨RX8, "begins", "(I)V"⟩
abbrev cX8_above : ByteArray := prog_10_method_76_code
def yX8_above : MethodName := ⟨RX8, "above", "(I)I"⟩
abbrev cX8_kindNow : ByteArray := prog_10_method_77_code
def yX8_kindNow : MethodName := ⟨RX8, "kindNow", "()I"⟩
abbrev cX8_mNow : ByteArray := prog_10_method_78_code
def yX8_mNow : MethodName := ⟨RX8, "mNow", "()I"⟩
abbrev cX8_blowsAs : ByteArray := prog_10_method_79_code
def yX8_blowsAs : MethodName := ⟨RX8, "blowsAs", "(II)I"⟩
abbrev cX8_turnsAs : ByteArray := prog_10_method_80_code
def yX8_turnsAs : MethodName := ⟨RX8, "turnsAs", "(II)I"⟩
abbrev cX8_tiesAs : ByteArray := prog_10_method_81_code
def yX8_tiesAs : MethodName := ⟨RX8, "tiesAs", "(II)I"⟩
abbrev cX8_partsAs : ByteArray := prog_10_method_82_code
def yX8_partsAs : MethodName := ⟨RX8, "partsAs", "(II)I"⟩
abbrev cX8_voice : ByteArray := prog_10_method_83_code
def yX8_voice : MethodName := ⟨RX8, "voice", "(IIII)I"⟩
abbrev cX8_body : ByteArray := prog_10_method_84_code
def yX8_body : MethodName := ⟨RX8, "body", "(I)I"⟩
abbrev cX8_isSheet : ByteArray := prog_10_method_85_code
def yX8_isSheet : MethodName := ⟨RX8, "isSheet", "(I)Z"⟩
abbrev cX8_sheet : ByteArray := prog_10_method_86_code
def yX8_sheet : MethodName := ⟨RX8, "sheet", "(III)I"⟩
abbrev cX8_put : ByteArray := prog_10_method_87_code
def yX8_put : MethodName := ⟨RX8, "put", "(III)I"⟩
abbrev cX8_move : ByteArray := prog_10_method_88_code
def yX8_move : MethodName := ⟨RX8, "move", "(IIIII)I"⟩
abbrev cX8_lacks : ByteArray := prog_10_method_89_code
def yX8_lacks : MethodName := ⟨RX8, "lacks", "(I)I"⟩
abbrev cX8_lands : ByteArray := prog_10_method_90_code
def yX8_lands : MethodName := ⟨RX8, "lands", "(I)I"⟩
abbrev cX8_judge : ByteArray := prog_10_method_91_code
def yX8_judge : MethodName := ⟨RX8, "judge", "(II)I"⟩
abbrev cX8_image : ByteArray := prog_10_method_92_code
def yX8_image : MethodName := ⟨RX8, "image", "()I"⟩
abbrev cX8_restore : ByteArray := prog_10_method_93_code
def yX8_restore : MethodName := ⟨RX8, "restore", "()I"⟩
abbrev cX8_tell : ByteArray := prog_10_method_94_code
def yX8_tell : MethodName := ⟨RX8, "tell", "(I)I"⟩
abbrev cX8_check : ByteArray := prog_10_method_95_code
def yX8_check : MethodName := ⟨RX8, "check", "()I"⟩
abbrev cX8_allTied : ByteArray := prog_10_method_96_code
def yX8_allTied : MethodName := ⟨RX8, "allTied", "()I"⟩
abbrev cX8_count : ByteArray := prog_10_method_97_code
def yX8_count : MethodName := ⟨RX8, "count", "(I)I"⟩
abbrev cX8_told : ByteArray := prog_10_method_98_code
def yX8_told : MethodName := ⟨RX8, "told", "(I)I"⟩
def RJ11 : String := "java/lang/Character"
def TJ11 : u_T := fun k => match k with
  | _ => ("", "", "", false)
def tyJ11 : Nat → FieldType := fun k => match k with
  | _ => .int
abbrev wsJ110 : List Cond := u_ws RJ11 TJ11 0
theorem nmJ11 : ∀ a, a < 0 → ∀ b, b < 0 → a ≠ b → (TJ11 a).2.1 ≠ (TJ11 b).2.1 := by decide +kernel
theorem tyJ11_ok : ∀ k, k < 0 → parseFieldDescriptor (TJ11 k).2.2.1 = some (tyJ11 k) := by decide +kernel
abbrev cJ11_isValidCodePoint_9a6ad : ByteArray := prog_11_method_11_code
def yJ11_isValidCodePoint_9a6ad : MethodName := ⟨RJ11, "isValidCodePoint", "(I)Z"⟩
abbrev cJ11_highSurrogate_5068e : ByteArray := prog_11_method_28_code
def yJ11_highSurrogate_5068e : MethodName := ⟨RJ11, "highSurrogate", "(I)C"⟩
abbrev cJ11_lowSurrogate_5068e : ByteArray := prog_11_method_29_code
def yJ11_lowSurrogate_5068e : MethodName := ⟨RJ11, "lowSurrogate", "(I)C"⟩
def RJ9 : String := "java/lang/Math"
def TJ9 : u_T := fun k => match k with
  | _ => ("", "", "", false)
def tyJ9 : Nat → FieldType := fun k => match k with
  | _ => .int
abbrev wsJ90 : List Cond := u_ws RJ9 TJ9 0
theorem nmJ9 : ∀ a, a < 0 → ∀ b, b < 0 → a ≠ b → (TJ9 a).2.1 ≠ (TJ9 b).2.1 := by decide +kernel
theorem tyJ9_ok : ∀ k, k < 0 → parseFieldDescriptor (TJ9 k).2.2.1 = some (tyJ9 k) := by decide +kernel
abbrev cJ9_max_7cf53 : ByteArray := prog_12_method_65_code
def yJ9_max_7cf53 : MethodName := ⟨RJ9, "max", "(II)I"⟩
abbrev cJ9_min_7cf53 : ByteArray := prog_12_method_69_code
def yJ9_min_7cf53 : MethodName := ⟨RJ9, "min", "(II)I"⟩
def RJ0 : String := "java/lang/String"
def TJ0 : u_T := fun k => match k with
  | _ => ("", "", "", false)
def tyJ0 : Nat → FieldType := fun k => match k with
  | _ => .int
abbrev wsJ00 : List Cond := u_ws RJ0 TJ0 0
theorem nmJ0 : ∀ a, a < 0 → ∀ b, b < 0 → a ≠ b → (TJ0 a).2.1 ≠ (TJ0 b).2.1 := by decide +kernel
theorem tyJ0_ok : ∀ k, k < 0 → parseFieldDescriptor (TJ0 k).2.2.1 = some (tyJ0 k) := by decide +kernel
abbrev cJ0_length_8abf5 : ByteArray := prog_13_method_54_code
def yJ0_length_8abf5 : MethodName := ⟨RJ0, "length", "()I"⟩
abbrev cJ0_indexOf_0f7a4 : ByteArray := prog_13_method_79_code
def yJ0_indexOf_0f7a4 : MethodName := ⟨RJ0, "indexOf", "(I)I"⟩
abbrev cJ0_indexOf_7cf53 : ByteArray := prog_13_method_80_code
def yJ0_indexOf_7cf53 : MethodName := ⟨RJ0, "indexOf", "(II)I"⟩
abbrev cJ0_coder_7d493 : ByteArray := prog_13_method_152_code
def yJ0_coder_7d493 : MethodName := ⟨RJ0, "coder", "()B"⟩
abbrev cJ0_isLatin1_aae02 : ByteArray := prog_13_method_154_code
def yJ0_isLatin1_aae02 : MethodName := ⟨RJ0, "isLatin1", "()Z"⟩
abbrev cJ0_checkBoundsBeginEnd_23922 : ByteArray := prog_13_method_158_code
def yJ0_checkBoundsBeginEnd_23922 : MethodName := ⟨RJ0, "checkBoundsBeginEnd", "(III)V"⟩
def RJ1 : String := "java/lang/StringLatin1"
def TJ1 : u_T := fun k => match k with
  | _ => ("", "", "", false)
def tyJ1 : Nat → FieldType := fun k => match k with
  | _ => .int
abbrev wsJ10 : List Cond := u_ws RJ1 TJ1 0
theorem nmJ1 : ∀ a, a < 0 → ∀ b, b < 0 → a ≠ b → (TJ1 a).2.1 ≠ (TJ1 b).2.1 := by decide +kernel
theorem tyJ1_ok : ∀ k, k < 0 → parseFieldDescriptor (TJ1 k).2.2.1 = some (tyJ1 k) := by decide +kernel
abbrev cJ1_canEncode_9a6ad : ByteArray := prog_14_method_4_code
def yJ1_canEncode_9a6ad : MethodName := ⟨RJ1, "canEncode", "(I)Z"⟩
abbrev cJ1_indexOf_4cfef : ByteArray := prog_14_method_22_code
def yJ1_indexOf_4cfef : MethodName := ⟨RJ1, "indexOf", "([BIII)I"⟩
abbrev cJ1_indexOfChar_4cfef : ByteArray := prog_14_method_23_code
def yJ1_indexOfChar_4cfef : MethodName := ⟨RJ1, "indexOfChar", "([BIII)I"⟩
def RJ2 : String := "java/lang/StringUTF16"
def TJ2 : u_T := fun k => match k with
  | _ => ("", "", "", false)
def tyJ2 : Nat → FieldType := fun k => match k with
  | _ => .int
abbrev wsJ20 : List Cond := u_ws RJ2 TJ2 0
theorem nmJ2 : ∀ a, a < 0 → ∀ b, b < 0 → a ≠ b → (TJ2 a).2.1 ≠ (TJ2 b).2.1 := by decide +kernel
theorem tyJ2_ok : ∀ k, k < 0 → parseFieldDescriptor (TJ2 k).2.2.1 = some (tyJ2 k) := by decide +kernel
abbrev cJ2_getChar_3b067 : ByteArray := prog_15_method_5_code
def yJ2_getChar_3b067 : MethodName := ⟨RJ2, "getChar", "([BI)C"⟩
abbrev cJ2_length_9d52b : ByteArray := prog_15_method_6_code
def yJ2_length_9d52b : MethodName := ⟨RJ2, "length", "([B)I"⟩
abbrev cJ2_indexOf_4cfef : ByteArray := prog_15_method_40_code
def yJ2_indexOf_4cfef : MethodName := ⟨RJ2, "indexOf", "([BIII)I"⟩
abbrev cJ2_indexOfChar_4cfef : ByteArray := prog_15_method_47_code
def yJ2_indexOfChar_4cfef : MethodName := ⟨RJ2, "indexOfChar", "([BIII)I"⟩
abbrev cJ2_indexOfCharUnsafe_4cfef : ByteArray := prog_15_method_48_code
def yJ2_indexOfCharUnsafe_4cfef : MethodName := ⟨RJ2, "indexOfCharUnsafe", "([BIII)I"⟩
abbrev cJ2_indexOfSupplementary_4cfef : ByteArray := prog_15_method_49_code
def yJ2_indexOfSupplementary_4cfef : MethodName := ⟨RJ2, "indexOfSupplementary", "([BIII)I"⟩
abbrev cJ2_checkBoundsBeginEnd_d044e : ByteArray := prog_15_method_93_code
def yJ2_checkBoundsBeginEnd_d044e : MethodName := ⟨RJ2, "checkBoundsBeginEnd", "(II[B)V"⟩
def RJ10 : String := "java/lang/System"
def TJ10 : u_T := fun k => match k with
  | _ => ("", "", "", false)
def tyJ10 : Nat → FieldType := fun k => match k with
  | _ => .int
abbrev wsJ100 : List Cond := u_ws RJ10 TJ10 0
theorem nmJ10 : ∀ a, a < 0 → ∀ b, b < 0 → a ≠ b → (TJ10 a).2.1 ≠ (TJ10 b).2.1 := by decide +kernel
theorem tyJ10_ok : ∀ k, k < 0 → parseFieldDescriptor (TJ10 k).2.2.1 = some (tyJ10 k) := by decide +kernel
def RJ3 : String := "jdk/internal/util/Preconditions"
def TJ3 : u_T := fun k => match k with
  | _ => ("", "", "", false)
def tyJ3 : Nat → FieldType := fun k => match k with
  | _ => .int
abbrev wsJ30 : List Cond := u_ws RJ3 TJ3 0
theorem nmJ3 : ∀ a, a < 0 → ∀ b, b < 0 → a ≠ b → (TJ3 a).2.1 ≠ (TJ3 b).2.1 := by decide +kernel
theorem tyJ3_ok : ∀ k, k < 0 → parseFieldDescriptor (TJ3 k).2.2.1 = some (tyJ3 k) := by decide +kernel
abbrev cJ3_checkFromToIndex_8c36e : ByteArray := prog_17_method_12_code
def yJ3_checkFromToIndex_8c36e : MethodName := ⟨RJ3, "checkFromToIndex", "(IIILjava/util/function/BiFunction;)I"⟩
def RL : String := "KnottedWindsLaw"
abbrev cL_law : ByteArray := code
def yL_law : MethodName := ⟨RL, "law", "([I)Z"⟩
abbrev vwCl : List vw_C := [(RX0, TX0, 11), (RX1, TX1, 6), (RX2, TX2, 17), (RX3, TX3, 10), (RX4, TX4, 3), (RX5, TX5, 6), (RX6, TX6, 3), (RX7, TX7, 9), (RX8, TX8, 24)]
theorem inX0 : ∀ w ∈ wsX00, w ∈ lw_tbl := by decide +kernel
theorem inX1 : ∀ w ∈ wsX10, w ∈ lw_tbl := by decide +kernel
theorem inX2 : ∀ w ∈ wsX20, w ∈ lw_tbl := by decide +kernel
theorem inX3 : ∀ w ∈ wsX30, w ∈ lw_tbl := by decide +kernel
theorem inX4 : ∀ w ∈ wsX40, w ∈ lw_tbl := by decide +kernel
theorem inX5 : ∀ w ∈ wsX50, w ∈ lw_tbl := by decide +kernel
theorem inX6 : ∀ w ∈ wsX60, w ∈ lw_tbl := by decide +kernel
theorem inX7 : ∀ w ∈ wsX70, w ∈ lw_tbl := by decide +kernel
theorem inX8 : ∀ w ∈ wsX80, w ∈ lw_tbl := by decide +kernel
theorem inJ11 : ∀ w ∈ wsJ110, w ∈ lw_tbl := by decide +kernel
theorem inJ9 : ∀ w ∈ wsJ90, w ∈ lw_tbl := by decide +kernel
theorem inJ0 : ∀ w ∈ wsJ00, w ∈ lw_tbl := by decide +kernel
theorem inJ1 : ∀ w ∈ wsJ10, w ∈ lw_tbl := by decide +kernel
theorem inJ2 : ∀ w ∈ wsJ20, w ∈ lw_tbl := by decide +kernel
theorem inJ10 : ∀ w ∈ wsJ100, w ∈ lw_tbl := by decide +kernel
theorem inJ3 : ∀ w ∈ wsJ30, w ∈ lw_tbl := by decide +kernel
end
section
/-! THE ABSTRACT MACHINE: a memory of 102 cells whose references never change -/
abbrev kM : Type := Nat → Nat → Int32
def kU (h : kM) (k j : Nat) (x : Int32) : kM := fun a => if a = k then upd (h k) j x else h a
def kCp (h : kM) (k0 k1 sp dp n : Nat) : kM := fun a => if a = k1 then va_cpy (h k0) (h k1) sp dp n else h a
/-- cells: 0 an object of a class, 1 an int array of a length, 2 the Sheets' array, 3 the courses' array -/
def kdL : List (Nat × Nat) := [(0, 7), (0, 2), (1, 64), (1, 2), (1, 5), (1, 5), (1, 15), (1, 15), (1, 15), (1, 15), (1, 60), (1, 24), (0, 6), (1, 60), (1, 60), (0, 6), (1, 60), (1, 60), (0, 2), (1, 64), (1, 2), (1, 5), (1, 5), (1, 15), (1, 15), (1, 15), (1, 15), (1, 60), (1, 24), (0, 6), (1, 60), (1, 60), (0, 6), (1, 60), (1, 60), (0, 1), (0, 6), (1, 60), (1, 60), (1, 60), (0, 0), (1, 24), (1, 24), (1, 24), (3, 25), (1, 5), (1, 5), (1, 5), (1, 5), (1, 5), (1, 5), (1, 5), (1, 5), (1, 5), (1, 5), (1, 5), (1, 5), (1, 5), (1, 5), (1, 5), (1, 5), (1, 5), (1, 5), (1, 5), (1, 5), (1, 5), (1, 5), (1, 5), (1, 5), (1, 5), (1, 5), (0, 3), (1, 10), (1, 10), (1, 30), (1, 3), (0, 5), (1, 30), (2, 4), (0, 4), (1, 24), (0, 4), (1, 24), (0, 4), (1, 24), (0, 4), (1, 24), (1, 7), (0, 8), (1, 481), (1, 481), (1, 481), (1, 294), (1, 7), (1, 124), (1, 128), (1, 64), (1, 30), (1, 4), (1, 4), (1, 96), (1, 24)]
def kd (k : Nat) : Nat × Nat := kdL.getD k (9, 0)
def offL : List (List Nat) := [[1, 2, 3, 4, 30, 0, 0, 0, 0, 0, 0], [1, 4, 0, 0, 0, 999], [1, 2, 3, 4, 5, 6, 7, 8, 9, 10, 11, 14, 0, 0, 0, 0, 0], [1, 2, 3, 4, 0, 0, 0, 0, 0, 0], [1, 0, 0], [1, 0, 0, 0, 0, 0], [1, 2, 0], [1, 18, 0, 35, 40, 71, 76, 78, 87], [1, 2, 3, 4, 0, 5, 0, 0, 0, 0, 6, 7, 8, 0, 0, 0, 9, 0, 0, 0, 10, 11, 12, 13]]
def koff (c j : Nat) : Nat := (offL.getD c []).getD j 0
def kN (c : Nat) : Nat := ([11, 6, 17, 10, 3, 6, 3, 9, 24] : List Nat).getD c 0
/-- launch, class and slot numbers, addresses of the cells, classes of int[], Sheet[], int[][] -/
abbrev kG : Type := Launch × va_G × (Nat → Nat) × ClassId × ClassId × ClassId
abbrev kad (G : kG) : Nat → Nat := G.2.2.1
abbrev kDD (G : kG) : va_G := G.2.1
abbrev ktys (G : kG) : List (ClassId × FieldType) := [(G.2.2.2.1, .int), (G.2.2.2.2.1, .object RX4), (G.2.2.2.2.2, .array .int)]
def kc (G : kG) (v : Value) : Value := match v with
  | .ref k => .ref (kad G k)
  | v => v
def kfv (h : kM) (k c j : Nat) : Value := if koff c j = 0 then .int (h k j) else if koff c j = 999 then .ref (1000 + (h k j).toNatClampNeg) else .ref (k + koff c j)
def kE (G : kG) (h : kM) (k : Nat) : va_E :=
  if (kd k).1 = 0 then .inr ((kd k).2, (List.range (kN (kd k).2)).map (fun j => kc G (kfv h k (kd k).2 j)))
  else if (kd k).1 = 1 then .inl (G.2.2.2.1, ((kd k).2, .inl (h k)))
  else if (kd k).1 = 2 then .inl (G.2.2.2.2.1, ((kd k).2, .inr (.inr (.inr (.inr (fun i => some (kad G (k + 1 + 2 * i))))))))
  else .inl (G.2.2.2.2.2, ((kd k).2, .inr (.inr (.inr (.inr (fun i => some (kad G (k + 1 + i))))))))
def kW (G : kG) (h : kM) : va_W := (List.range 102).map (fun k => (kad G k, kE G h k))
def kA (G : kG) : Nat → Prop := fun q => ∃ k, k < 102 ∧ q = kad G k
def kInj (G : kG) : Prop := ∀ i j, i < 102 → j < 102 → kad G i = kad G j → i = j
theorem kW_at (G : kG) (h : kM) {k : Nat} (hk : k < 102) : (kW G h)[k]? = some (kad G k, kE G h k) := by
  simp [kW, hk]
theorem kW_mem {G : kG} {h : kM} {k : Nat} {q : Nat × va_E} (hq : (kW G h)[k]? = some q) : k < 102 ∧ q = (kad G k, kE G h k) := by
  have hl : k < 102 := by
    have := (List.getElem?_eq_some_iff.mp hq).1
    simpa [kW] using this
  rw [kW_at G h hl] at hq
  exact ⟨hl, (Option.some.inj hq).symm⟩
theorem kW_D {G : kG} (hI : kInj G) (h : kM) : va_D (kA G) (kW G h) := by
  refine ⟨fun i j p q hp hq e => ?_, fun k q hq => ?_⟩
  · obtain ⟨h1, rfl⟩ := kW_mem hp
    obtain ⟨h2, rfl⟩ := kW_mem hq
    exact hI i j h1 h2 e
  · obtain ⟨h1, rfl⟩ := kW_mem hq
    exact ⟨k, h1, rfl⟩
theorem kd_lt {k t a : Nat} (h : kd k = (t, a)) (ht : t ≠ 9) : k < 102 := by
  rcases Nat.lt_or_ge k 102 with q | q
  · exact q
  · exfalso
    have : kd k = (9, 0) := by
      unfold kd
      rw [List.getD_eq_getElem?_getD, List.getElem?_eq_none (by show kdL.length ≤ k; exact Nat.le_trans (by decide +kernel) q)]
      rfl
    rw [this] at h
    exact ht (Prod.mk.inj h).1.symm
/-- a world whose cell k was set is the world of the other memory -/
theorem kW_set {G : kG} {h h' : kM} {k : Nat} {e : va_E} (he : kE G h' k = e) (ho : ∀ j, j ≠ k → kE G h' j = kE G h j) : (kW G h).set k (kad G k, e) = kW G h' := by
  apply List.ext_getElem?
  intro j
  by_cases hjk : k = j
  · subst hjk
    by_cases hk : k < 102
    · rw [List.getElem?_set_self (by simpa [kW] using hk), kW_at G h' hk, he]
    · have h1 : (kW G h').length ≤ k := by simpa [kW] using Nat.le_of_not_lt hk
      have h2 : ((kW G h).set k (kad G k, e)).length ≤ k := by simpa [kW] using Nat.le_of_not_lt hk
      rw [List.getElem?_eq_none h1, List.getElem?_eq_none h2]
  · rw [List.getElem?_set_ne hjk]
    by_cases hj : j < 102
    · rw [kW_at G h hj, kW_at G h' hj, ho j (fun q => hjk q.symm)]
    · have h1 : (kW G h').length ≤ j := by simpa [kW] using Nat.le_of_not_lt hj
      have h2 : (kW G h).length ≤ j := by simpa [kW] using Nat.le_of_not_lt hj
      rw [List.getElem?_eq_none h1, List.getElem?_eq_none h2]
theorem kE_ne {G : kG} {h h' : kM} {j : Nat} (e : h' j = h j) : kE G h' j = kE G h j := by
  have : ∀ c i, kfv h' j c i = kfv h j c i := fun c i => by unfold kfv; rw [e]
  unfold kE
  rw [e]
  simp only [this]
theorem kU_ne {h : kM} {k j : Nat} {x : Int32} {a : Nat} (ha : a ≠ k) : kU h k j x a = h a := if_neg ha
theorem kU_eq {h : kM} {k j : Nat} {x : Int32} : kU h k j x k = upd (h k) j x := if_pos rfl
theorem kCp_ne {h : kM} {k0 k1 sp dp n a : Nat} (ha : a ≠ k1) : kCp h k0 k1 sp dp n a = h a := if_neg ha
theorem kCp_eq {h : kM} {k0 k1 sp dp n : Nat} : kCp h k0 k1 sp dp n k1 = va_cpy (h k0) (h k1) sp dp n := if_pos rfl
/-- words -/
noncomputable def TW : List Cond := lw_tbl.filter goodWord
theorem tw_mem {w : Cond} (h : w ∈ lw_tbl) (g : goodWord w = true) : w ∈ TW := List.mem_filter.mpr ⟨h, g⟩
theorem tw_in {w : Cond} (h : w ∈ TW) : w ∈ lw_tbl := (List.mem_filter.mp h).1
/-- the constants' world: statics, their arrays, two Strings -/
def kAb : List Int32 := [-1, 0, 0, 0, 1, 2, 0]
def kBo : List Int32 := [10, 11, 12, 13, 20, 0, 0, 21, 0, 30, 0, 0, 0, 0, 40, 0, 50, 0, 51, 0, 0, 60, 0, 0, 70, 71, 0, 0]
def kNest : List Cond := lw_tbl.filter (fun w => !goodWord w && (match w with | .methodLinkNest .. => true | .fieldLinkNest .. => true | _ => false))
def kStr (G : kG) (U : State) (H : Heap) : Prop := vk_S 2 [3, 3] [[104, 119, 109], [107, 109, 110]] (fun i => kad G (1000 + i)) (fun i => kad G (1010 + i)) (kA G) U H
def kCW (G : kG) (U : State) (H : Heap) : Prop :=
  va_Z "KnottedWinds" "ABOVE" "[I" (.ref (kad G 1002)) (kA G) U H ∧ va_T .int (kad G 1002) 7 (fun j => .int (kAb.getD j 0)) (kA G) U H ∧
  va_Z "KnottedWinds$Speaker" "BODIES" "[I" (.ref (kad G 1003)) (kA G) U H ∧ va_T .int (kad G 1003) 28 (fun j => .int (kBo.getD j 0)) (kA G) U H ∧
  va_Z "java/lang/String" "COMPACT_STRINGS" "Z" (.int 1) (kA G) U H ∧ kStr G U H
def kTb (G : kG) (U : State) : Prop :=
  va_K (kDD G) vwCl (ktys G) U ∧ (∀ w ∈ kNest, va_Nw w U) ∧ vk_R RX1 22 "hwm" (kad G 1000) U ∧ vk_R RX1 51 "kmn" (kad G 1001) U
def kK (G : kG) (U : State) (H : Heap) : Prop := kInj G ∧ kTb G U ∧ kCW G U H
theorem kNest_warm {s U : State} (hW : s.WarmedH U.vm) {w : Cond} (hw : w ∈ kNest) (h : va_Nw w s) : va_Nw w U := by
  have h2 := (List.mem_filter.mp hw).2
  cases w <;> first | exact va_Nw.warmM hW h | exact va_Nw.warmF hW h | (simp at h2)
theorem kTb.warm {G : kG} {s U : State} (hW : s.WarmedH U.vm) (h : kTb G s) : kTb G U :=
  ⟨va_K.moved hW.alike h.1, fun w hw => kNest_warm hW hw (h.2.1 w hw), vk_R.warm hW h.2.2.1, vk_R.warm hW h.2.2.2⟩
theorem kTb.same {G : kG} {s U : State} (hv : U.vm = s.vm) (h : kTb G s) : kTb G U :=
  ⟨va_K.moved (by rw [hv]; exact Vm.Alike.refl s.vm) h.1, fun w hw => by
    have h2 := (List.mem_filter.mp hw).2
    cases w <;> first | exact va_Nw.same rfl hv.symm (h.2.1 _ hw) | (simp at h2), vk_R.same hv h.2.2.1, vk_R.same hv h.2.2.2⟩
theorem kCW.moved {G : kG} {s U : State} {H : Heap} (hv : s.vm.Alike U.vm) (h : kCW G s H) : kCW G U H :=
  ⟨h.1.moved hv, h.2.1.moved hv, h.2.2.1.moved hv, h.2.2.2.1.moved hv, h.2.2.2.2.1.moved hv, h.2.2.2.2.2.moved hv⟩
theorem kCW.kept {G : kG} {s : State} {H H1 : Heap} (h : kCW G s H) (hq : ∀ a : Nat, a < H.size → ¬ kA G a → H1[a]? = H[a]?) : kCW G s H1 :=
  ⟨h.1.kept hq, h.2.1.kept hq, h.2.2.1.kept hq, h.2.2.2.1.kept hq, h.2.2.2.2.1.kept hq, h.2.2.2.2.2.kept hq⟩
/-- locals: by their places, .null where nothing is known -/
def kl (G : kG) : Nat → List Value → List (Nat × Value)
  | _, [] => []
  | i, .null :: t => kl G (i + 1) t
  | i, v :: t => (i, kc G v) :: kl G (i + 1) t
theorem kl_mem {G : kG} : ∀ (l : List Value) (i j : Nat) (w : Value), (j, w) ∈ kl G i l ↔ ∃ (n : Nat) (v : Value), l[n]? = some v ∧ v ≠ .null ∧ j = i + n ∧ w = kc G v
  | [], i, j, w => by simp [kl]
  | a :: t, i, j, w => by
    have ih := kl_mem (G := G) t (i + 1) j w
    by_cases ha : a = .null
    · subst ha
      show (j, w) ∈ kl G (i + 1) t ↔ _
      rw [ih]
      constructor
      · rintro ⟨n, v, h1, h2, h3, h4⟩
        exact ⟨n + 1, v, by simpa using h1, h2, by omega, h4⟩
      · rintro ⟨n, v, h1, h2, h3, h4⟩
        cases n with
        | zero => simp at h1; exact absurd h1.symm h2
        | succ n => exact ⟨n, v, by simpa using h1, h2, by omega, h4⟩
    · have e : kl G i (a :: t) = (i, kc G a) :: kl G (i + 1) t := by cases a <;> first | rfl | exact absurd rfl ha
      rw [e, List.mem_cons, ih]
      constructor
      · rintro (h | ⟨n, v, h1, h2, h3, h4⟩)
        · obtain ⟨h5, h6⟩ := Prod.mk.inj h
          exact ⟨0, a, rfl, ha, by omega, h6⟩
        · exact ⟨n + 1, v, by simpa using h1, h2, by omega, h4⟩
      · rintro ⟨n, v, h1, h2, h3, h4⟩
        cases n with
        | zero =>
          simp at h1
          subst h1
          exact Or.inl (by rw [h3, h4]; rfl)
        | succ n => exact Or.inr ⟨n, v, by simpa using h1, h2, by omega, h4⟩
def kNL (ls : List Value) (i : Nat) : Bool := match i with
  | 0 => true
  | j + 1 => match ls[j]? with
    | some (.long _) => false
    | some (.double _) => false
    | _ => true
theorem kc_cat (G : kG) (v : Value) : (kc G v).category = v.category := by cases v <;> rfl
theorem kc_null {G : kG} {v : Value} (h : v ≠ .null) : kc G v ≠ .null := by cases v <;> simp_all [kc]
/-- behind a store -/
theorem kl_store {G : kG} {lsC : Array Slot} {nL : Nat} {ls : List Value} {i : Nat} {v : Value} (hNL : kNL ls i = true) (h : lv_has lsC nL ((i, kc G v) :: (kl G 0 ls).filter (fun q => !(q.1 == i) && !(q.1 + 1 == i && q.2.category == 2)))) : lv_has lsC nL (kl G 0 (ls.set i v)) := by
  refine ⟨h.1, h.2.1, fun q hq => ?_⟩
  obtain ⟨j, w⟩ := q
  obtain ⟨n, v', h1, h2, h3, h4⟩ := (kl_mem _ _ _ _).mp hq
  apply h.2.2
  have hjn : j = n := by omega
  by_cases hn : n = i
  · have hlt : i < ls.length := by
      have h5 := (List.getElem?_eq_some_iff.mp h1).1
      rw [List.length_set] at h5
      omega
    have h6 : v' = v := by
      rw [hn, List.getElem?_set_self hlt] at h1
      exact (Option.some.inj h1).symm
    rw [hjn, hn, h4, h6]
    exact List.mem_cons_self
  · rw [List.getElem?_set_ne (fun e => hn e.symm)] at h1
    refine List.mem_cons_of_mem _ (List.mem_filter.mpr ⟨(kl_mem _ _ _ _).mpr ⟨n, v', h1, h2, h3, h4⟩, ?_⟩)
    have h7 : (j == i) = false := by simp; omega
    have h8 : (j + 1 == i && w.category == 2) = false := by
      by_cases hj : j + 1 = i
      · have h9 : w.category ≠ 2 := by
          rw [h4, kc_cat]
          rw [← hj] at hNL
          have hNL2 : (match ls[j]? with | some (.long _) => false | some (.double _) => false | _ => true) = true := hNL
          rw [hjn, h1] at hNL2
          cases v' <;> first | (simp [Value.category]; done) | (simp at hNL2)
        simp [h9]
      · simp [hj]
    simp only [h7, h8]
    rfl
theorem kl_get {G : kG} {lsC : Array Slot} {nL : Nat} {ls : List Value} (h : lv_has lsC nL (kl G 0 ls)) {i : Nat} {v : Value} (hv : ls[i]? = some v) (hn : v ≠ .null) : lsC[i]? = some (.val (kc G v)) :=
  h.2.2 (i, kc G v) ((kl_mem _ _ _ _).mpr ⟨i, v, hv, hn, by omega, rfl⟩)
/-! methods, contracts, steps -/
abbrev kMt : Type := MethodName × ByteArray × Nat × Option FieldType
noncomputable def kws (mt : kMt) : List Cond := .code mt.1 mt.2.1 mt.2.2.1 mt.2.2.2 :: TW
def kR (d : Nat) : Room := { frames := d, cells := 0, slots := 0, locals := 64 * d }
def kRet (G : kG) (ret : Option FieldType) (x : Int32) : Option Value := match ret with
  | none => none
  | some (.object _) => some (.ref (kad G x.toNatClampNeg))
  | some _ => some (.int x)
def kQ (G : kG) (ret : Option FieldType) (Q : Int32 → kM → Prop) : Array Value → State → Outcome → State → Prop := fun _ st oc t =>
  (∃ (x : Int32) (h' : kM), oc = .returned (kRet G ret x) ∧ Q x h' ∧ va_P (kDD G) vwCl (kW G h') t.heap) ∧ va_F (kA G) st t
/-- a method's contract: at depth d, called with these values over this memory, it ends with Q -/
def Cal (G : kG) (d : Nat) (mt : kMt) (av : List Value) (h : kM) (Q : Int32 → kM → Prop) : Prop :=
  Met G.1 mt.1 (kws mt) (kR d) (va_Pc (av.map (kc G)) (fun U => va_P (kDD G) vwCl (kW G h) U.heap ∧ kK G U U.heap)) (kQ G mt.2.2.2 Q) 0 0 (kA G)
/-- room, cells, slots, what is known of the start, the end -/
abbrev kEv : Type := Room × Nat × Nat × (State → Prop) × (List Frame → Array Value → State → State → Prop)
def kEo (G : kG) (d : Nat) (mt : kMt) (Q : Int32 → kM → Prop) : kEv := (kR d, 0, 0, fun _ => True, fun below args s => MQ below (kQ G mt.2.2.2 Q) args s 0 0 (kA G))
def kX (G : kG) (mt : kMt) (E : kEv) (p : Program) (s : State) (m : MethodId) (args : Array Value) (meth : Method) (c : Code) : Prop :=
  p.tables.exec = Jvm.exec ∧ c.code = mt.2.1 ∧ c.maxLocals = mt.2.2.1 ∧ s.vm.findClass mt.1.cls = some m.cls ∧ (∀ w ∈ kws mt, w.before args s = true) ∧ meth.locks = false ∧ meth.sig.returnType = mt.2.2.2 ∧ kK G s s.heap ∧ E.2.2.2.1 s
def kOk (d : Nat) (E : kEv) : Prop := d ≤ E.1.frames ∧ 64 * d ≤ E.1.locals ∧ E.2.1 ≤ E.1.cells ∧ E.2.2.1 ≤ E.1.slots
def Wp (G : kG) (d : Nat) (mt : kMt) (E : kEv) (pc : Nat) (ls st : List Value) (h : kM) : Prop :=
  kOk d E → ∀ (p : Program) (e : Env) (s : State) (m : MethodId) (args : Array Value) (below : List Frame) (meth : Method) (c : Code) (H : Heap) (locs : List Loc) (lsC : Array Slot),
    kX G mt E p s m args meth c → va_P (kDD G) vwCl (kW G h) H → va_S (kA G) s.heap H locs → lv_has lsC mt.2.2.1 (kl G 0 ls) →
    W p G.1 e E.1 s m args below meth c H locs E.2.1 E.2.2.1 (E.2.2.2.2 below args s) (F0 m pc lsC (st.map (kc G)))
theorem kOk_o (G : kG) (d : Nat) (mt : kMt) (Q : Int32 → kM → Prop) : kOk d (kEo G d mt Q) := ⟨Nat.le_refl _, Nat.le_refl _, Nat.le_refl _, Nat.le_refl _⟩
theorem Cal.of {G : kG} {d : Nat} {mt : kMt} {av : List Value} {h : kM} {Q : Int32 → kM → Prop} (ls : List Value) (hy : plainName mt.1.cls = true) (hn : (lg_sl (av.map (kc G))).length ≤ mt.2.2.1) (hl : lv_args 0 (av.map (kc G)) = kl G 0 ls) (w : Wp G d mt (kEo G d mt Q) 0 ls [] h) : Cal G d mt av h Q := by
  refine Met.ofW (cc := mt.2.1) (maxL := mt.2.2.1) (ret := mt.2.2.2) hy rfl ?_
  intro p e s m args below meth c s₁ B hml hv
  obtain ⟨rfl, hP, hK⟩ := hv
  have hl0 := lv_entry (av.map (kc G)) (n := mt.2.2.1) hn
  rw [lg_entry_eq]
  generalize (lg_sl (av.map (kc G)) ++ List.replicate (mt.2.2.1 - (lg_sl (av.map (kc G))).length) Slot.unset).toArray = lsC at hl0 ⊢
  rw [hl] at hl0
  exact w (kOk_o G d mt Q) p e s m _ below meth c s.heap [] lsC ⟨B.exec, B.bytes, hml, findClass_of_methodNamed B.named, atoms_spec (ws := kws mt) B.pre, B.notSynchronized, B.returns, hK, trivial⟩ hP va_S.rf hl0
end
section
theorem wp_iadd {G : kG} {d : Nat} {mt : kMt} {E : kEv} {pc : Nat} {ls st : List Value} {h : kM} {x y : Int32} (pc' : Nat) (hd : decode mt.2.1 pc = .ok (.iadd, 1)) (hp : pc + 1 = pc') (k : Wp G d mt E pc' ls (.int (x + y) :: st) h) : Wp G d mt E pc ls (.int y :: .int x :: st) h := by
  subst hp
  intro hO p e s m args below meth c H locs lsC X hP hS hl
  exact lv_iadd X.1 X.2.1 hd (k hO p e s m args below meth c H locs lsC X hP hS hl)
theorem wp_isub {G : kG} {d : Nat} {mt : kMt} {E : kEv} {pc : Nat} {ls st : List Value} {h : kM} {x y : Int32} (pc' : Nat) (hd : decode mt.2.1 pc = .ok (.isub, 1)) (hp : pc + 1 = pc') (k : Wp G d mt E pc' ls (.int (x - y) :: st) h) : Wp G d mt E pc ls (.int y :: .int x :: st) h := by
  subst hp
  intro hO p e s m args below meth c H locs lsC X hP hS hl
  exact lv_isub X.1 X.2.1 hd (k hO p e s m args below meth c H locs lsC X hP hS hl)
theorem wp_imul {G : kG} {d : Nat} {mt : kMt} {E : kEv} {pc : Nat} {ls st : List Value} {h : kM} {x y : Int32} (pc' : Nat) (hd : decode mt.2.1 pc = .ok (.imul, 1)) (hp : pc + 1 = pc') (k : Wp G d mt E pc' ls (.int (x * y) :: st) h) : Wp G d mt E pc ls (.int y :: .int x :: st) h := by
  subst hp
  intro hO p e s m args below meth c H locs lsC X hP hS hl
  exact lv_imul X.1 X.2.1 hd (k hO p e s m args below meth c H locs lsC X hP hS hl)
theorem wp_iand {G : kG} {d : Nat} {mt : kMt} {E : kEv} {pc : Nat} {ls st : List Value} {h : kM} {x y : Int32} (pc' : Nat) (hd : decode mt.2.1 pc = .ok (.iand, 1)) (hp : pc + 1 = pc') (k : Wp G d mt E pc' ls (.int (x &&& y) :: st) h) : Wp G d mt E pc ls (.int y :: .int x :: st) h := by
  subst hp
  intro hO p e s m args below meth c H locs lsC X hP hS hl
  exact lv_iand X.1 X.2.1 hd (k hO p e s m args below meth c H locs lsC X hP hS hl)
theorem wp_ior {G : kG} {d : Nat} {mt : kMt} {E : kEv} {pc : Nat} {ls st : List Value} {h : kM} {x y : Int32} (pc' : Nat) (hd : decode mt.2.1 pc = .ok (.ior, 1)) (hp : pc + 1 = pc') (k : Wp G d mt E pc' ls (.int (x ||| y) :: st) h) : Wp G d mt E pc ls (.int y :: .int x :: st) h := by
  subst hp
  intro hO p e s m args below meth c H locs lsC X hP hS hl
  exact lv_ior X.1 X.2.1 hd (k hO p e s m args below meth c H locs lsC X hP hS hl)
theorem wp_ixor {G : kG} {d : Nat} {mt : kMt} {E : kEv} {pc : Nat} {ls st : List Value} {h : kM} {x y : Int32} (pc' : Nat) (hd : decode mt.2.1 pc = .ok (.ixor, 1)) (hp : pc + 1 = pc') (k : Wp G d mt E pc' ls (.int (x ^^^ y) :: st) h) : Wp G d mt E pc ls (.int y :: .int x :: st) h := by
  subst hp
  intro hO p e s m args below meth c H locs lsC X hP hS hl
  exact lv_ixor X.1 X.2.1 hd (k hO p e s m args below meth c H locs lsC X hP hS hl)
theorem wp_ishl {G : kG} {d : Nat} {mt : kMt} {E : kEv} {pc : Nat} {ls st : List Value} {h : kM} {x y : Int32} (pc' : Nat) (hd : decode mt.2.1 pc = .ok (.ishl, 1)) (hp : pc + 1 = pc') (k : Wp G d mt E pc' ls (.int (x <<< (y &&& 31)) :: st) h) : Wp G d mt E pc ls (.int y :: .int x :: st) h := by
  subst hp
  intro hO p e s m args below meth c H locs lsC X hP hS hl
  exact lv_ishl X.1 X.2.1 hd (k hO p e s m args below meth c H locs lsC X hP hS hl)
theorem wp_ishr {G : kG} {d : Nat} {mt : kMt} {E : kEv} {pc : Nat} {ls st : List Value} {h : kM} {x y : Int32} (pc' : Nat) (hd : decode mt.2.1 pc = .ok (.ishr, 1)) (hp : pc + 1 = pc') (k : Wp G d mt E pc' ls (.int (x >>> (y &&& 31)) :: st) h) : Wp G d mt E pc ls (.int y :: .int x :: st) h := by
  subst hp
  intro hO p e s m args below meth c H locs lsC X hP hS hl
  exact lv_ishr X.1 X.2.1 hd (k hO p e s m args below meth c H locs lsC X hP hS hl)
theorem wp_iushr {G : kG} {d : Nat} {mt : kMt} {E : kEv} {pc : Nat} {ls st : List Value} {h : kM} {x y : Int32} (pc' : Nat) (hd : decode mt.2.1 pc = .ok (.iushr, 1)) (hp : pc + 1 = pc') (k : Wp G d mt E pc' ls (.int ((x.toUInt32 >>> (y.toUInt32 &&& Int32.toUInt32 31)).toInt32) :: st) h) : Wp G d mt E pc ls (.int y :: .int x :: st) h := by
  subst hp
  intro hO p e s m args below meth c H locs lsC X hP hS hl
  exact lv_iushr X.1 X.2.1 hd rfl (k hO p e s m args below meth c H locs lsC X hP hS hl)
theorem wp_idiv {G : kG} {d : Nat} {mt : kMt} {E : kEv} {pc : Nat} {ls st : List Value} {h : kM} {x y : Int32} (pc' : Nat) (hd : decode mt.2.1 pc = .ok (.idiv, 1)) (hne : ¬ y = 0) (hp : pc + 1 = pc') (k : Wp G d mt E pc' ls (.int (x / y) :: st) h) : Wp G d mt E pc ls (.int y :: .int x :: st) h := by
  subst hp
  intro hO p e s m args below meth c H locs lsC X hP hS hl
  exact lv_idiv X.1 X.2.1 hd hne (k hO p e s m args below meth c H locs lsC X hP hS hl)
theorem wp_irem {G : kG} {d : Nat} {mt : kMt} {E : kEv} {pc : Nat} {ls st : List Value} {h : kM} {x y : Int32} (pc' : Nat) (hd : decode mt.2.1 pc = .ok (.irem, 1)) (hne : ¬ y = 0) (hp : pc + 1 = pc') (k : Wp G d mt E pc' ls (.int (x - x / y * y) :: st) h) : Wp G d mt E pc ls (.int y :: .int x :: st) h := by
  subst hp
  intro hO p e s m args below meth c H locs lsC X hP hS hl
  exact lv_irem X.1 X.2.1 hd hne (k hO p e s m args below meth c H locs lsC X hP hS hl)
theorem wp_ineg {G : kG} {d : Nat} {mt : kMt} {E : kEv} {pc : Nat} {ls st : List Value} {h : kM} {x : Int32} (pc' : Nat) (hd : decode mt.2.1 pc = .ok (.ineg, 1)) (hp : pc + 1 = pc') (k : Wp G d mt E pc' ls (.int (-x) :: st) h) : Wp G d mt E pc ls (.int x :: st) h := by
  subst hp
  intro hO p e s m args below meth c H locs lsC X hP hS hl
  exact lv_ineg X.1 X.2.1 hd (k hO p e s m args below meth c H locs lsC X hP hS hl)
theorem wp_i2c {G : kG} {d : Nat} {mt : kMt} {E : kEv} {pc : Nat} {ls st : List Value} {h : kM} {x : Int32} (pc' : Nat) (hd : decode mt.2.1 pc = .ok (.i2c, 1)) (hp : pc + 1 = pc') (k : Wp G d mt E pc' ls (.int ((x.toUInt32 % 65536).toInt32) :: st) h) : Wp G d mt E pc ls (.int x :: st) h := by
  subst hp
  intro hO p e s m args below meth c H locs lsC X hP hS hl
  exact lv_i2c X.1 X.2.1 hd rfl (k hO p e s m args below meth c H locs lsC X hP hS hl)
theorem wp_i2l {G : kG} {d : Nat} {mt : kMt} {E : kEv} {pc : Nat} {ls st : List Value} {h : kM} {x : Int32} (pc' : Nat) (hd : decode mt.2.1 pc = .ok (.i2l, 1)) (hp : pc + 1 = pc') (k : Wp G d mt E pc' ls (.long x.toInt64 :: st) h) : Wp G d mt E pc ls (.int x :: st) h := by
  subst hp
  intro hO p e s m args below meth c H locs lsC X hP hS hl
  exact lv_i2l X.1 X.2.1 hd rfl (k hO p e s m args below meth c H locs lsC X hP hS hl)
theorem wp_l2i {G : kG} {d : Nat} {mt : kMt} {E : kEv} {pc : Nat} {ls st : List Value} {h : kM} {x : Int64} (pc' : Nat) (hd : decode mt.2.1 pc = .ok (.l2i, 1)) (hp : pc + 1 = pc') (k : Wp G d mt E pc' ls (.int x.toInt32 :: st) h) : Wp G d mt E pc ls (.long x :: st) h := by
  subst hp
  intro hO p e s m args below meth c H locs lsC X hP hS hl
  exact lv_l2i X.1 X.2.1 hd rfl (k hO p e s m args below meth c H locs lsC X hP hS hl)
theorem wp_land {G : kG} {d : Nat} {mt : kMt} {E : kEv} {pc : Nat} {ls st : List Value} {h : kM} {x y : Int64} (pc' : Nat) (hd : decode mt.2.1 pc = .ok (.land, 1)) (hp : pc + 1 = pc') (k : Wp G d mt E pc' ls (.long (x &&& y) :: st) h) : Wp G d mt E pc ls (.long y :: .long x :: st) h := by
  subst hp
  intro hO p e s m args below meth c H locs lsC X hP hS hl
  exact lv_land X.1 X.2.1 hd (k hO p e s m args below meth c H locs lsC X hP hS hl)
theorem wp_lor {G : kG} {d : Nat} {mt : kMt} {E : kEv} {pc : Nat} {ls st : List Value} {h : kM} {x y : Int64} (pc' : Nat) (hd : decode mt.2.1 pc = .ok (.lor, 1)) (hp : pc + 1 = pc') (k : Wp G d mt E pc' ls (.long (x ||| y) :: st) h) : Wp G d mt E pc ls (.long y :: .long x :: st) h := by
  subst hp
  intro hO p e s m args below meth c H locs lsC X hP hS hl
  exact lv_lor X.1 X.2.1 hd (k hO p e s m args below meth c H locs lsC X hP hS hl)
theorem wp_lushr {G : kG} {d : Nat} {mt : kMt} {E : kEv} {pc : Nat} {ls st : List Value} {h : kM} {x : Int64} {y : Int32} (pc' : Nat) (hd : decode mt.2.1 pc = .ok (.lushr, 1)) (hp : pc + 1 = pc') (k : Wp G d mt E pc' ls (.long ((x.toUInt64 >>> (y.toInt64.toUInt64 &&& Int64.toUInt64 63)).toInt64) :: st) h) : Wp G d mt E pc ls (.int y :: .long x :: st) h := by
  subst hp
  intro hO p e s m args below meth c H locs lsC X hP hS hl
  exact lv_lushr X.1 X.2.1 hd rfl (k hO p e s m args below meth c H locs lsC X hP hS hl)
theorem wp_lshl {G : kG} {d : Nat} {mt : kMt} {E : kEv} {pc : Nat} {ls st : List Value} {h : kM} {x : Int64} {y : Int32} (pc' : Nat) (hd : decode mt.2.1 pc = .ok (.lshl, 1)) (hp : pc + 1 = pc') (k : Wp G d mt E pc' ls (.long (x <<< (y.toInt64 &&& 63)) :: st) h) : Wp G d mt E pc ls (.int y :: .long x :: st) h := by
  subst hp
  intro hO p e s m args below meth c H locs lsC X hP hS hl
  exact lv_lshl X.1 X.2.1 hd rfl (k hO p e s m args below meth c H locs lsC X hP hS hl)
theorem wp_lshr {G : kG} {d : Nat} {mt : kMt} {E : kEv} {pc : Nat} {ls st : List Value} {h : kM} {x : Int64} {y : Int32} (pc' : Nat) (hd : decode mt.2.1 pc = .ok (.lshr, 1)) (hp : pc + 1 = pc') (k : Wp G d mt E pc' ls (.long (x >>> (y.toInt64 &&& 63)) :: st) h) : Wp G d mt E pc ls (.int y :: .long x :: st) h := by
  subst hp
  intro hO p e s m args below meth c H locs lsC X hP hS hl
  exact lv_lshr X.1 X.2.1 hd rfl (k hO p e s m args below meth c H locs lsC X hP hS hl)
theorem wp_iconst {G : kG} {d : Nat} {mt : kMt} {E : kEv} {pc : Nat} {ls st : List Value} {h : kM} {n : Int} (v : Int32) (pc' : Nat) (hd : decode mt.2.1 pc = .ok (.iconst n, 1)) (hv : Int32.ofInt n = v) (hp : pc + 1 = pc') (k : Wp G d mt E pc' ls (.int v :: st) h) : Wp G d mt E pc ls st h := by
  subst hp
  intro hO p e s m args below meth c H locs lsC X hP hS hl
  exact lv_iconst X.1 X.2.1 hd hv (k hO p e s m args below meth c H locs lsC X hP hS hl)
theorem wp_bipush {G : kG} {d : Nat} {mt : kMt} {E : kEv} {pc : Nat} {ls st : List Value} {h : kM} {n : Int} (v : Int32) (pc' : Nat) (hd : decode mt.2.1 pc = .ok (.bipush n, 2)) (hv : (Int8.ofInt n).toInt32 = v) (hp : pc + 2 = pc') (k : Wp G d mt E pc' ls (.int v :: st) h) : Wp G d mt E pc ls st h := by
  subst hp
  intro hO p e s m args below meth c H locs lsC X hP hS hl
  exact lv_bipush X.1 X.2.1 hd hv (k hO p e s m args below meth c H locs lsC X hP hS hl)
theorem wp_sipush {G : kG} {d : Nat} {mt : kMt} {E : kEv} {pc : Nat} {ls st : List Value} {h : kM} {n : Int} (v : Int32) (pc' : Nat) (hd : decode mt.2.1 pc = .ok (.sipush n, 3)) (hv : (Int16.ofInt n).toInt32 = v) (hp : pc + 3 = pc') (k : Wp G d mt E pc' ls (.int v :: st) h) : Wp G d mt E pc ls st h := by
  subst hp
  intro hO p e s m args below meth c H locs lsC X hP hS hl
  exact lv_sipush X.1 X.2.1 hd hv (k hO p e s m args below meth c H locs lsC X hP hS hl)
theorem wp_ldc {G : kG} {d : Nat} {mt : kMt} {E : kEv} {pc : Nat} {ls st : List Value} {h : kM} {i : Nat} (v : Int32) (pc' : Nat) (hd : decode mt.2.1 pc = .ok (.ldc i, 2)) (hw : Cond.constant mt.1.cls i v ∈ TW) (hp : pc + 2 = pc') (k : Wp G d mt E pc' ls (.int v :: st) h) : Wp G d mt E pc ls st h := by
  subst hp
  intro hO p e s m args below meth c H locs lsC X hP hS hl
  exact lv_ldc X.1 X.2.1 X.2.2.2.1 (X.2.2.2.2.1 _ (List.mem_cons_of_mem _ hw)) hd (k hO p e s m args below meth c H locs lsC X hP hS hl)
theorem wp_ldcw {G : kG} {d : Nat} {mt : kMt} {E : kEv} {pc : Nat} {ls st : List Value} {h : kM} {i : Nat} (v : Int32) (pc' : Nat) (hd : decode mt.2.1 pc = .ok (.ldc_w i, 3)) (hw : Cond.constant mt.1.cls i v ∈ TW) (hp : pc + 3 = pc') (k : Wp G d mt E pc' ls (.int v :: st) h) : Wp G d mt E pc ls st h := by
  subst hp
  intro hO p e s m args below meth c H locs lsC X hP hS hl
  exact lv_ldcw X.1 X.2.1 X.2.2.2.1 (X.2.2.2.2.1 _ (List.mem_cons_of_mem _ hw)) hd (k hO p e s m args below meth c H locs lsC X hP hS hl)
theorem wp_ldc2 {G : kG} {d : Nat} {mt : kMt} {E : kEv} {pc : Nat} {ls st : List Value} {h : kM} {i : Nat} (v : Int64) (pc' : Nat) (hd : decode mt.2.1 pc = .ok (.ldc2_w i, 3)) (hw : Cond.constantLong mt.1.cls i v ∈ TW) (hp : pc + 3 = pc') (k : Wp G d mt E pc' ls (.long v :: st) h) : Wp G d mt E pc ls st h := by
  subst hp
  intro hO p e s m args below meth c H locs lsC X hP hS hl
  exact lv_ldc2 X.1 X.2.1 X.2.2.2.1 (X.2.2.2.2.1 _ (List.mem_cons_of_mem _ hw)) hd (k hO p e s m args below meth c H locs lsC X hP hS hl)
theorem wp_iload_n {G : kG} {d : Nat} {mt : kMt} {E : kEv} {pc : Nat} {ls st : List Value} {h : kM} {q : Fin 4} {x : Int32} (pc' : Nat) (hd : decode mt.2.1 pc = .ok (.iload_n q, 1)) (hv : ls[(q : Nat)]? = some (.int x)) (hp : pc + 1 = pc') (k : Wp G d mt E pc' ls (.int x :: st) h) : Wp G d mt E pc ls st h := by
  subst hp
  intro hO p e s m args below meth c H locs lsC X hP hS hl
  exact lv_iload_n X.1 X.2.1 hd rfl (by have h1 := kl_get hl hv (by simp); exact h1) (k hO p e s m args below meth c H locs lsC X hP hS hl)
theorem wp_iload {G : kG} {d : Nat} {mt : kMt} {E : kEv} {pc : Nat} {ls st : List Value} {h : kM} {i : Nat} {x : Int32} (pc' : Nat) (hd : decode mt.2.1 pc = .ok (.iload i, 2)) (hv : ls[i]? = some (.int x)) (hp : pc + 2 = pc') (k : Wp G d mt E pc' ls (.int x :: st) h) : Wp G d mt E pc ls st h := by
  subst hp
  intro hO p e s m args below meth c H locs lsC X hP hS hl
  exact lv_iload X.1 X.2.1 hd (by have h1 := kl_get hl hv (by simp); exact h1) (k hO p e s m args below meth c H locs lsC X hP hS hl)
theorem wp_aload_n {G : kG} {d : Nat} {mt : kMt} {E : kEv} {pc : Nat} {ls st : List Value} {h : kM} {q : Fin 4} {x : Nat} (pc' : Nat) (hd : decode mt.2.1 pc = .ok (.aload_n q, 1)) (hv : ls[(q : Nat)]? = some (.ref x)) (hp : pc + 1 = pc') (k : Wp G d mt E pc' ls (.ref x :: st) h) : Wp G d mt E pc ls st h := by
  subst hp
  intro hO p e s m args below meth c H locs lsC X hP hS hl
  exact lv_aload_n X.1 X.2.1 hd rfl (by have h1 := kl_get hl hv (by simp); exact h1) (k hO p e s m args below meth c H locs lsC X hP hS hl)
theorem wp_aload {G : kG} {d : Nat} {mt : kMt} {E : kEv} {pc : Nat} {ls st : List Value} {h : kM} {i : Nat} {x : Nat} (pc' : Nat) (hd : decode mt.2.1 pc = .ok (.aload i, 2)) (hv : ls[i]? = some (.ref x)) (hp : pc + 2 = pc') (k : Wp G d mt E pc' ls (.ref x :: st) h) : Wp G d mt E pc ls st h := by
  subst hp
  intro hO p e s m args below meth c H locs lsC X hP hS hl
  exact lv_aload X.1 X.2.1 hd (by have h1 := kl_get hl hv (by simp); exact h1) (k hO p e s m args below meth c H locs lsC X hP hS hl)
theorem wp_lload_n {G : kG} {d : Nat} {mt : kMt} {E : kEv} {pc : Nat} {ls st : List Value} {h : kM} {q : Fin 4} {x : Int64} (pc' : Nat) (hd : decode mt.2.1 pc = .ok (.lload_n q, 1)) (hv : ls[(q : Nat)]? = some (.long x)) (hp : pc + 1 = pc') (k : Wp G d mt E pc' ls (.long x :: st) h) : Wp G d mt E pc ls st h := by
  subst hp
  intro hO p e s m args below meth c H locs lsC X hP hS hl
  exact lv_lload_n X.1 X.2.1 hd rfl (by have h1 := kl_get hl hv (by simp); exact h1) (k hO p e s m args below meth c H locs lsC X hP hS hl)
theorem wp_istore_n {G : kG} {d : Nat} {mt : kMt} {E : kEv} {pc : Nat} {ls st : List Value} {h : kM} {q : Fin 4} {x : Int32} (pc' : Nat) (hd : decode mt.2.1 pc = .ok (.istore_n q, 1)) (hp : pc + 1 = pc') (hn : (q : Nat) < mt.2.2.1) (hN : kNL ls q = true) (k : Wp G d mt E pc' (ls.set q (.int x)) st h) : Wp G d mt E pc ls (.int x :: st) h := by
  subst hp
  intro hO p e s m args below meth c H locs lsC X hP hS hl
  exact lv_istore_n (x := x) X.1 X.2.1 hd rfl hl hn rfl (fun lsN hlN => k hO p e s m args below meth c H locs lsN X hP hS (kl_store hN hlN))
theorem wp_istore {G : kG} {d : Nat} {mt : kMt} {E : kEv} {pc : Nat} {ls st : List Value} {h : kM} {i : Nat} {x : Int32} (pc' : Nat) (hd : decode mt.2.1 pc = .ok (.istore i, 2)) (hp : pc + 2 = pc') (hn : i < mt.2.2.1) (hN : kNL ls i = true) (k : Wp G d mt E pc' (ls.set i (.int x)) st h) : Wp G d mt E pc ls (.int x :: st) h := by
  subst hp
  intro hO p e s m args below meth c H locs lsC X hP hS hl
  exact lv_istore (x := x) X.1 X.2.1 hd hl hn rfl (fun lsN hlN => k hO p e s m args below meth c H locs lsN X hP hS (kl_store hN hlN))
theorem wp_astore_n {G : kG} {d : Nat} {mt : kMt} {E : kEv} {pc : Nat} {ls st : List Value} {h : kM} {q : Fin 4} {x : Nat} (pc' : Nat) (hd : decode mt.2.1 pc = .ok (.astore_n q, 1)) (hp : pc + 1 = pc') (hn : (q : Nat) < mt.2.2.1) (hN : kNL ls q = true) (k : Wp G d mt E pc' (ls.set q (.ref x)) st h) : Wp G d mt E pc ls (.ref x :: st) h := by
  subst hp
  intro hO p e s m args below meth c H locs lsC X hP hS hl
  exact lv_astore_n (x := kad G x) X.1 X.2.1 hd rfl hl hn rfl (fun lsN hlN => k hO p e s m args below meth c H locs lsN X hP hS (kl_store hN hlN))
theorem wp_astore {G : kG} {d : Nat} {mt : kMt} {E : kEv} {pc : Nat} {ls st : List Value} {h : kM} {i : Nat} {x : Nat} (pc' : Nat) (hd : decode mt.2.1 pc = .ok (.astore i, 2)) (hp : pc + 2 = pc') (hn : i < mt.2.2.1) (hN : kNL ls i = true) (k : Wp G d mt E pc' (ls.set i (.ref x)) st h) : Wp G d mt E pc ls (.ref x :: st) h := by
  subst hp
  intro hO p e s m args below meth c H locs lsC X hP hS hl
  exact lv_astore (x := kad G x) X.1 X.2.1 hd hl hn rfl (fun lsN hlN => k hO p e s m args below meth c H locs lsN X hP hS (kl_store hN hlN))
theorem wp_iinc {G : kG} {d : Nat} {mt : kMt} {E : kEv} {pc : Nat} {ls st : List Value} {h : kM} {i : Nat} {n : Int} {x : Int32} (v : Int32) (pc' : Nat) (hd : decode mt.2.1 pc = .ok (.iinc i n, 3)) (hp : pc + 3 = pc') (hv : ls[i]? = some (.int x)) (hw : Int32.ofInt n = v) (hn : i < mt.2.2.1) (hN : kNL ls i = true) (k : Wp G d mt E pc' (ls.set i (.int (x + v))) st h) : Wp G d mt E pc ls st h := by
  subst hp
  subst hw
  intro hO p e s m args below meth c H locs lsC X hP hS hl
  have h1 : (i, Value.int x) ∈ kl G 0 ls := (kl_mem _ _ _ _).mpr ⟨i, .int x, hv, by simp, by omega, rfl⟩
  obtain ⟨z, hz⟩ := List.getElem?_of_mem h1
  exact lv_iinc (k := z) X.1 X.2.1 hd hl hz rfl hn rfl (fun lsN hlN => k hO p e s m args below meth c H locs lsN X hP hS (kl_store hN hlN))
theorem wp_dup {G : kG} {d : Nat} {mt : kMt} {E : kEv} {pc : Nat} {ls st : List Value} {h : kM} {v : Value} (pc' : Nat) (hd : decode mt.2.1 pc = .ok (.dup, 1)) (hva : v.category = 1) (hp : pc + 1 = pc') (k : Wp G d mt E pc' ls (v :: v :: st) h) : Wp G d mt E pc ls (v :: st) h := by
  subst hp
  intro hO p e s m args below meth c H locs lsC X hP hS hl
  exact lv_dup X.1 X.2.1 hd (by rw [kc_cat]; exact hva) (k hO p e s m args below meth c H locs lsC X hP hS hl)
theorem wp_pop {G : kG} {d : Nat} {mt : kMt} {E : kEv} {pc : Nat} {ls st : List Value} {h : kM} {v : Value} (pc' : Nat) (hd : decode mt.2.1 pc = .ok (.pop, 1)) (hva : v.category = 1) (hp : pc + 1 = pc') (k : Wp G d mt E pc' ls (st) h) : Wp G d mt E pc ls (v :: st) h := by
  subst hp
  intro hO p e s m args below meth c H locs lsC X hP hS hl
  exact lv_pop X.1 X.2.1 hd (by rw [kc_cat]; exact hva) (k hO p e s m args below meth c H locs lsC X hP hS hl)
theorem wp_dup2 {G : kG} {d : Nat} {mt : kMt} {E : kEv} {pc : Nat} {ls st : List Value} {h : kM} {v w : Value} (pc' : Nat) (hd : decode mt.2.1 pc = .ok (.dup2, 1)) (hva : v.category = 1) (hvb : w.category = 1) (hp : pc + 1 = pc') (k : Wp G d mt E pc' ls (v :: w :: v :: w :: st) h) : Wp G d mt E pc ls (v :: w :: st) h := by
  subst hp
  intro hO p e s m args below meth c H locs lsC X hP hS hl
  exact lv_dup2_11 X.1 X.2.1 hd (by rw [kc_cat]; exact hva) (by rw [kc_cat]; exact hvb) (k hO p e s m args below meth c H locs lsC X hP hS hl)
theorem wp_if_eq {G : kG} {d : Nat} {mt : kMt} {E : kEv} {pc : Nat} {ls st : List Value} {h : kM} {x : Int32} {off : Int} (tgt pc' : Nat) (hd : decode mt.2.1 pc = .ok (.ifCond .eq off, 3)) (ht : (pc : Int) + off = (tgt : Int)) (hp : pc + 3 = pc') (k : (x = 0 → Wp G d mt E tgt ls st h) ∧ (¬ (x = 0) → Wp G d mt E pc' ls st h)) : Wp G d mt E pc ls (.int x :: st) h := by
  subst hp
  intro hO p e s m args below meth c H locs lsC X hP hS hl
  exact lv_if_eq X.1 X.2.1 hd ht (fun q => k.1 q hO p e s m args below meth c H locs lsC X hP hS hl) (fun q => k.2 q hO p e s m args below meth c H locs lsC X hP hS hl)
theorem wp_icmp_eq {G : kG} {d : Nat} {mt : kMt} {E : kEv} {pc : Nat} {ls st : List Value} {h : kM} {x y : Int32} {off : Int} (tgt pc' : Nat) (hd : decode mt.2.1 pc = .ok (.if_icmp .eq off, 3)) (ht : (pc : Int) + off = (tgt : Int)) (hp : pc + 3 = pc') (k : (x = y → Wp G d mt E tgt ls st h) ∧ (¬ (x = y) → Wp G d mt E pc' ls st h)) : Wp G d mt E pc ls (.int y :: .int x :: st) h := by
  subst hp
  intro hO p e s m args below meth c H locs lsC X hP hS hl
  exact lv_icmp_eq X.1 X.2.1 hd ht (fun q => k.1 q hO p e s m args below meth c H locs lsC X hP hS hl) (fun q => k.2 q hO p e s m args below meth c H locs lsC X hP hS hl)
theorem wp_if_ne {G : kG} {d : Nat} {mt : kMt} {E : kEv} {pc : Nat} {ls st : List Value} {h : kM} {x : Int32} {off : Int} (tgt pc' : Nat) (hd : decode mt.2.1 pc = .ok (.ifCond .ne off, 3)) (ht : (pc : Int) + off = (tgt : Int)) (hp : pc + 3 = pc') (k : (¬ x = 0 → Wp G d mt E tgt ls st h) ∧ (x = 0 → Wp G d mt E pc' ls st h)) : Wp G d mt E pc ls (.int x :: st) h := by
  subst hp
  intro hO p e s m args below meth c H locs lsC X hP hS hl
  exact lv_if_ne X.1 X.2.1 hd ht (fun q => k.1 q hO p e s m args below meth c H locs lsC X hP hS hl) (fun q => k.2 q hO p e s m args below meth c H locs lsC X hP hS hl)
theorem wp_icmp_ne {G : kG} {d : Nat} {mt : kMt} {E : kEv} {pc : Nat} {ls st : List Value} {h : kM} {x y : Int32} {off : Int} (tgt pc' : Nat) (hd : decode mt.2.1 pc = .ok (.if_icmp .ne off, 3)) (ht : (pc : Int) + off = (tgt : Int)) (hp : pc + 3 = pc') (k : (¬ x = y → Wp G d mt E tgt ls st h) ∧ (x = y → Wp G d mt E pc' ls st h)) : Wp G d mt E pc ls (.int y :: .int x :: st) h := by
  subst hp
  intro hO p e s m args below meth c H locs lsC X hP hS hl
  exact lv_icmp_ne X.1 X.2.1 hd ht (fun q => k.1 q hO p e s m args below meth c H locs lsC X hP hS hl) (fun q => k.2 q hO p e s m args below meth c H locs lsC X hP hS hl)
theorem wp_if_lt {G : kG} {d : Nat} {mt : kMt} {E : kEv} {pc : Nat} {ls st : List Value} {h : kM} {x : Int32} {off : Int} (tgt pc' : Nat) (hd : decode mt.2.1 pc = .ok (.ifCond .lt off, 3)) (ht : (pc : Int) + off = (tgt : Int)) (hp : pc + 3 = pc') (k : (x < 0 → Wp G d mt E tgt ls st h) ∧ (¬ (x < 0) → Wp G d mt E pc' ls st h)) : Wp G d mt E pc ls (.int x :: st) h := by
  subst hp
  intro hO p e s m args below meth c H locs lsC X hP hS hl
  exact lv_if_lt X.1 X.2.1 hd ht (fun q => k.1 q hO p e s m args below meth c H locs lsC X hP hS hl) (fun q => k.2 q hO p e s m args below meth c H locs lsC X hP hS hl)
theorem wp_icmp_lt {G : kG} {d : Nat} {mt : kMt} {E : kEv} {pc : Nat} {ls st : List Value} {h : kM} {x y : Int32} {off : Int} (tgt pc' : Nat) (hd : decode mt.2.1 pc = .ok (.if_icmp .lt off, 3)) (ht : (pc : Int) + off = (tgt : Int)) (hp : pc + 3 = pc') (k : (x < y → Wp G d mt E tgt ls st h) ∧ (¬ (x < y) → Wp G d mt E pc' ls st h)) : Wp G d mt E pc ls (.int y :: .int x :: st) h := by
  subst hp
  intro hO p e s m args below meth c H locs lsC X hP hS hl
  exact lv_icmp_lt X.1 X.2.1 hd ht (fun q => k.1 q hO p e s m args below meth c H locs lsC X hP hS hl) (fun q => k.2 q hO p e s m args below meth c H locs lsC X hP hS hl)
theorem wp_if_ge {G : kG} {d : Nat} {mt : kMt} {E : kEv} {pc : Nat} {ls st : List Value} {h : kM} {x : Int32} {off : Int} (tgt pc' : Nat) (hd : decode mt.2.1 pc = .ok (.ifCond .ge off, 3)) (ht : (pc : Int) + off = (tgt : Int)) (hp : pc + 3 = pc') (k : (0 ≤ x → Wp G d mt E tgt ls st h) ∧ (¬ (0 ≤ x) → Wp G d mt E pc' ls st h)) : Wp G d mt E pc ls (.int x :: st) h := by
  subst hp
  intro hO p e s m args below meth c H locs lsC X hP hS hl
  exact lv_if_ge X.1 X.2.1 hd ht (fun q => k.1 q hO p e s m args below meth c H locs lsC X hP hS hl) (fun q => k.2 q hO p e s m args below meth c H locs lsC X hP hS hl)
theorem wp_icmp_ge {G : kG} {d : Nat} {mt : kMt} {E : kEv} {pc : Nat} {ls st : List Value} {h : kM} {x y : Int32} {off : Int} (tgt pc' : Nat) (hd : decode mt.2.1 pc = .ok (.if_icmp .ge off, 3)) (ht : (pc : Int) + off = (tgt : Int)) (hp : pc + 3 = pc') (k : (y ≤ x → Wp G d mt E tgt ls st h) ∧ (¬ (y ≤ x) → Wp G d mt E pc' ls st h)) : Wp G d mt E pc ls (.int y :: .int x :: st) h := by
  subst hp
  intro hO p e s m args below meth c H locs lsC X hP hS hl
  exact lv_icmp_ge X.1 X.2.1 hd ht (fun q => k.1 q hO p e s m args below meth c H locs lsC X hP hS hl) (fun q => k.2 q hO p e s m args below meth c H locs lsC X hP hS hl)
theorem wp_if_gt {G : kG} {d : Nat} {mt : kMt} {E : kEv} {pc : Nat} {ls st : List Value} {h : kM} {x : Int32} {off : Int} (tgt pc' : Nat) (hd : decode mt.2.1 pc = .ok (.ifCond .gt off, 3)) (ht : (pc : Int) + off = (tgt : Int)) (hp : pc + 3 = pc') (k : (0 < x → Wp G d mt E tgt ls st h) ∧ (¬ (0 < x) → Wp G d mt E pc' ls st h)) : Wp G d mt E pc ls (.int x :: st) h := by
  subst hp
  intro hO p e s m args below meth c H locs lsC X hP hS hl
  exact lv_if_gt X.1 X.2.1 hd ht (fun q => k.1 q hO p e s m args below meth c H locs lsC X hP hS hl) (fun q => k.2 q hO p e s m args below meth c H locs lsC X hP hS hl)
theorem wp_icmp_gt {G : kG} {d : Nat} {mt : kMt} {E : kEv} {pc : Nat} {ls st : List Value} {h : kM} {x y : Int32} {off : Int} (tgt pc' : Nat) (hd : decode mt.2.1 pc = .ok (.if_icmp .gt off, 3)) (ht : (pc : Int) + off = (tgt : Int)) (hp : pc + 3 = pc') (k : (y < x → Wp G d mt E tgt ls st h) ∧ (¬ (y < x) → Wp G d mt E pc' ls st h)) : Wp G d mt E pc ls (.int y :: .int x :: st) h := by
  subst hp
  intro hO p e s m args below meth c H locs lsC X hP hS hl
  exact lv_icmp_gt X.1 X.2.1 hd ht (fun q => k.1 q hO p e s m args below meth c H locs lsC X hP hS hl) (fun q => k.2 q hO p e s m args below meth c H locs lsC X hP hS hl)
theorem wp_if_le {G : kG} {d : Nat} {mt : kMt} {E : kEv} {pc : Nat} {ls st : List Value} {h : kM} {x : Int32} {off : Int} (tgt pc' : Nat) (hd : decode mt.2.1 pc = .ok (.ifCond .le off, 3)) (ht : (pc : Int) + off = (tgt : Int)) (hp : pc + 3 = pc') (k : (x ≤ 0 → Wp G d mt E tgt ls st h) ∧ (¬ (x ≤ 0) → Wp G d mt E pc' ls st h)) : Wp G d mt E pc ls (.int x :: st) h := by
  subst hp
  intro hO p e s m args below meth c H locs lsC X hP hS hl
  exact lv_if_le X.1 X.2.1 hd ht (fun q => k.1 q hO p e s m args below meth c H locs lsC X hP hS hl) (fun q => k.2 q hO p e s m args below meth c H locs lsC X hP hS hl)
theorem wp_icmp_le {G : kG} {d : Nat} {mt : kMt} {E : kEv} {pc : Nat} {ls st : List Value} {h : kM} {x y : Int32} {off : Int} (tgt pc' : Nat) (hd : decode mt.2.1 pc = .ok (.if_icmp .le off, 3)) (ht : (pc : Int) + off = (tgt : Int)) (hp : pc + 3 = pc') (k : (x ≤ y → Wp G d mt E tgt ls st h) ∧ (¬ (x ≤ y) → Wp G d mt E pc' ls st h)) : Wp G d mt E pc ls (.int y :: .int x :: st) h := by
  subst hp
  intro hO p e s m args below meth c H locs lsC X hP hS hl
  exact lv_icmp_le X.1 X.2.1 hd ht (fun q => k.1 q hO p e s m args below meth c H locs lsC X hP hS hl) (fun q => k.2 q hO p e s m args below meth c H locs lsC X hP hS hl)
theorem wp_goto {G : kG} {d : Nat} {mt : kMt} {E : kEv} {pc : Nat} {ls st : List Value} {h : kM} {off : Int} (tgt : Nat) (hd : decode mt.2.1 pc = .ok (.goto off, 3)) (ht : (pc : Int) + off = (tgt : Int)) (k : Wp G d mt E tgt ls st h) : Wp G d mt E pc ls st h := by
  intro hO p e s m args below meth c H locs lsC X hP hS hl
  exact lv_goto X.1 X.2.1 hd ht (k hO p e s m args below meth c H locs lsC X hP hS hl)
/-! switches -/
def kSw (P : Nat → Prop) (x : Int32) (dt : Nat) : List (Int32 × Nat) → Prop
  | [] => P dt
  | (c, t) :: r => (x = c → P t) ∧ (¬ x = c → kSw P x dt r)
theorem kSw_get {P : Nat → Prop} {x : Int32} {dt : Nat} : ∀ (cs : List (Int32 × Nat)), kSw P x dt cs → (∃ q ∈ cs, x = q.1 ∧ P q.2) ∨ ((∀ q ∈ cs, ¬ x = q.1) ∧ P dt)
  | [], h => Or.inr ⟨fun q hq => (by cases hq), h⟩
  | (c, t) :: r, h => by
    by_cases e : x = c
    · exact Or.inl ⟨(c, t), List.mem_cons_self, e, h.1 e⟩
    · rcases kSw_get r (h.2 e) with ⟨q, h1, h2⟩ | ⟨h1, h2⟩
      · exact Or.inl ⟨q, List.mem_cons_of_mem _ h1, h2⟩
      · refine Or.inr ⟨fun q hq => ?_, h2⟩
        rcases List.mem_cons.mp hq with rfl | hq
        · exact e
        · exact h1 q hq
def kTabOk (pc : Nat) (lo hi : Int) (offs : Array Int) (dt : Nat) (cs : List (Int32 × Nat)) : Bool :=
  cs.all (fun q => decide (lo ≤ q.1.toInt) && decide (q.1.toInt ≤ hi)) &&
  (List.range ((hi - lo).toNat + 1)).all (fun i => match offs[i]? with
    | none => false
    | some o => cs.all (fun q => decide (q.1.toInt ≠ lo + (i : Int)) || decide ((pc : Int) + o = (q.2 : Int))) && (cs.any (fun q => decide (q.1.toInt = lo + (i : Int))) || decide ((pc : Int) + o = (dt : Int))))
theorem wp_table {G : kG} {d : Nat} {mt : kMt} {E : kEv} {pc : Nat} {ls st : List Value} {h : kM} {x : Int32} {dflt lo hi : Int} {offs : Array Int} {len : Nat} (dt : Nat) (cs : List (Int32 × Nat)) (hd : decode mt.2.1 pc = .ok (.tableswitch dflt lo hi offs, len)) (hdt : (pc : Int) + dflt = (dt : Int)) (hok : kTabOk pc lo hi offs dt cs = true) (k : kSw (fun t => Wp G d mt E t ls st h) x dt cs) : Wp G d mt E pc ls (.int x :: st) h := by
  intro hO p e s m args below meth c H locs lsC X hP hS hl
  unfold kTabOk at hok
  rw [Bool.and_eq_true, List.all_eq_true, List.all_eq_true] at hok
  obtain ⟨hr, ht⟩ := hok
  by_cases hin : x.toInt < lo ∨ hi < x.toInt
  · refine lv_tableOut X.1 X.2.1 hd hin hdt ?_
    rcases kSw_get cs k with ⟨q, h1, h2, h3⟩ | ⟨h1, h2⟩
    · exfalso
      have h4 := hr q h1
      rw [Bool.and_eq_true, decide_eq_true_eq, decide_eq_true_eq, ← h2] at h4
      omega
    · exact h2 hO p e s m args below meth c H locs lsC X hP hS hl
  · have hlo : ¬ x.toInt < lo := fun q => hin (Or.inl q)
    have hhi : ¬ hi < x.toInt := fun q => hin (Or.inr q)
    have hi2 : (x.toInt - lo).toNat ∈ List.range ((hi - lo).toNat + 1) := List.mem_range.mpr (by omega)
    have h5 := ht _ hi2
    have hxi : lo + (((x.toInt - lo).toNat : Nat) : Int) = x.toInt := by omega
    cases ho : offs[(x.toInt - lo).toNat]? with
    | none => rw [ho] at h5; cases h5
    | some o =>
      rw [ho] at h5
      rw [Bool.and_eq_true] at h5
      obtain ⟨h6, h7⟩ := h5
      rw [hxi] at h6 h7
      rcases kSw_get cs k with ⟨q, h1, h2, h3⟩ | ⟨h1, h2⟩
      · have h8 := List.all_eq_true.mp h6 q h1
        rw [Bool.or_eq_true, decide_eq_true_eq, decide_eq_true_eq] at h8
        have h9 : (pc : Int) + o = (q.2 : Int) := by
          rcases h8 with h8 | h8
          · exact absurd (by rw [h2]) h8
          · exact h8
        exact lv_tableIn X.1 X.2.1 hd hlo hhi ho h9 (h3 hO p e s m args below meth c H locs lsC X hP hS hl)
      · rw [Bool.or_eq_true, List.any_eq_true, decide_eq_true_eq] at h7
        rcases h7 with ⟨q, h8, h9⟩ | h8
        · exfalso
          rw [decide_eq_true_eq] at h9
          exact h1 q h8 (Int32.toInt_inj.mp h9.symm)
        · exact lv_tableIn X.1 X.2.1 hd hlo hhi ho h8 (h2 hO p e s m args below meth c H locs lsC X hP hS hl)
theorem kLk_spec {pc : Nat} {dflt : Int} {dt : Nat} (hdt : (pc : Int) + dflt = (dt : Int)) {x : Int32} : ∀ (ps : List (Int × Int)) (cs : List (Int32 × Nat)), ps.map (fun q => (q.1, (pc : Int) + q.2)) = cs.map (fun q => (q.1.toInt, (q.2 : Int))) → ∀ {P : Nat → Prop}, kSw P x dt cs → ∃ t : Nat, (pc : Int) + Op.lookupswitch.offset ps dflt x.toInt = (t : Int) ∧ P t
  | [], [], _, P, k => ⟨dt, by rw [Op.lookupswitch.offset_nil]; exact hdt, k⟩
  | [], _ :: _, h, P, k => by simp at h
  | _ :: _, [], h, P, k => by simp at h
  | (a, o) :: r, (c, t) :: cs, h, P, k => by
    simp only [List.map_cons, List.cons.injEq, Prod.mk.injEq] at h
    obtain ⟨⟨h1, h2⟩, h3⟩ := h
    rw [Op.lookupswitch.offset_cons]
    by_cases e : x = c
    · refine ⟨t, ?_, k.1 e⟩
      rw [if_pos (by rw [h1, e])]
      exact h2
    · rw [if_neg (fun q => e (Int32.toInt_inj.mp (by rw [← h1]; exact q.symm)))]
      exact kLk_spec hdt r cs h3 (k.2 e)
theorem wp_lookup {G : kG} {d : Nat} {mt : kMt} {E : kEv} {pc : Nat} {ls st : List Value} {h : kM} {x : Int32} {dflt : Int} {ps : Array (Int × Int)} {len : Nat} (dt : Nat) (cs : List (Int32 × Nat)) (hd : decode mt.2.1 pc = .ok (.lookupswitch dflt ps, len)) (hso : (ps.toList.zip (ps.toList.drop 1)).all (fun (a, next) => a.1 < next.1) = true) (hdt : (pc : Int) + dflt = (dt : Int)) (hok : ps.toList.map (fun q => (q.1, (pc : Int) + q.2)) = cs.map (fun q => (q.1.toInt, (q.2 : Int)))) (k : kSw (fun t => Wp G d mt E t ls st h) x dt cs) : Wp G d mt E pc ls (.int x :: st) h := by
  intro hO p e s m args below meth c H locs lsC X hP hS hl
  obtain ⟨t, h1, h2⟩ := kLk_spec hdt ps.toList cs hok k
  exact lv_lookup X.1 X.2.1 hd hso rfl h1 (h2 hO p e s m args below meth c H locs lsC X hP hS hl)
/-! memory -/
theorem kcl {ci : Nat} {q : vw_C} (hc : vwCl[ci]? = some q) : kN ci = q.2.2 ∧ ∀ j, j < q.2.2 → koff ci j = koff ci j := ⟨by
  match ci, hc with
  | 0, hc => cases hc; rfl
  | 1, hc => cases hc; rfl
  | 2, hc => cases hc; rfl
  | 3, hc => cases hc; rfl
  | 4, hc => cases hc; rfl
  | 5, hc => cases hc; rfl
  | 6, hc => cases hc; rfl
  | 7, hc => cases hc; rfl
  | 8, hc => cases hc; rfl
  | k + 9, hc => simp [vwCl] at hc, fun _ _ => rfl⟩
/-- a field of the class ci, at place j, linked in class own at entry idx, of type ty -/
def kFL (own : String) (idx ci j : Nat) (ty : FieldType) : Prop := ∃ (C : String) (T : u_T) (N : Nat) (ts : Nat → FieldType), vwCl[ci]? = some (C, T, N) ∧ (∀ w ∈ u_ws C T N, w ∈ TW) ∧ j < N ∧ Cond.fieldLink own idx (T j).1 (T j).2.1 (T j).2.2.1 ∈ TW ∧ parseFieldDescriptor (T j).2.2.1 = some ty ∧
  (∀ k, k < N → parseFieldDescriptor (T k).2.2.1 = some (ts k)) ∧ (∀ a, a < N → ∀ b, b < N → a ≠ b → (T a).2.1 ≠ (T b).2.1)
def kFin (ci j : Nat) : Prop := ∀ q : vw_C, vwCl[ci]? = some q → (q.2.1 j).2.2.2 = false
theorem kE_obj {G : kG} {h : kM} {k ci : Nat} (hkd : kd k = (0, ci)) : kE G h k = .inr (ci, (List.range (kN ci)).map (fun j => kc G (kfv h k ci j))) := by
  unfold kE
  rw [hkd]
  rfl
theorem kE_arr {G : kG} {h : kM} {k n : Nat} (hkd : kd k = (1, n)) : kE G h k = .inl (G.2.2.2.1, (n, .inl (h k))) := by
  unfold kE
  rw [hkd]
  rfl
theorem wp_getv {G : kG} {d : Nat} {mt : kMt} {E : kEv} {pc : Nat} {ls st : List Value} {h : kM} {idx ci j k : Nat} {ty : FieldType} {v : Value} (pc' : Nat) (hd : decode mt.2.1 pc = .ok (.getfield idx, 3)) (hp : pc + 3 = pc') (hf : kFL mt.1.cls idx ci j ty) (hkd : kd k = (0, ci)) (hv : kfv h k ci j = v) (kk : Wp G d mt E pc' ls (v :: st) h) : Wp G d mt E pc ls (.ref k :: st) h := by
  subst hp
  subst hv
  intro hO p e s m args below meth c H locs lsC X hP hS hl
  obtain ⟨C, T, N, ts, h1, h2, h3, h4, h5, h6, h7⟩ := hf
  have hw := X.2.2.2.2.1
  have hk := kd_lt hkd (by decide)
  have he := kW_at G h hk
  rw [kE_obj hkd] at he
  have hN : kN ci = N := (kcl h1).1
  exact va_get X.1 X.2.1 (Ts := TW) (fun w q => hw w (List.mem_cons_of_mem _ q)) h2 X.2.2.2.1 X.2.2.2.2.2.2.2.1.2.1.1 hP k he h1 j h3 (hw _ (List.mem_cons_of_mem _ h4)) (fun _ q => q) (v := kc G (kfv h k ci j)) (by rw [List.getElem?_map, List.getElem?_range (by omega)]; rfl) hd (kk hO p e s m args below meth c H locs lsC X hP hS hl)
theorem wp_getI {G : kG} {d : Nat} {mt : kMt} {E : kEv} {pc : Nat} {ls st : List Value} {h : kM} {idx ci j k : Nat} {ty : FieldType} (pc' : Nat) (hd : decode mt.2.1 pc = .ok (.getfield idx, 3)) (hp : pc + 3 = pc') (hf : kFL mt.1.cls idx ci j ty) (hkd : kd k = (0, ci)) (ho : koff ci j = 0) (kk : Wp G d mt E pc' ls (.int (h k j) :: st) h) : Wp G d mt E pc ls (.ref k :: st) h :=
  wp_getv pc' hd hp hf hkd (by unfold kfv; rw [ho]; rfl) kk
theorem wp_getR {G : kG} {d : Nat} {mt : kMt} {E : kEv} {pc : Nat} {ls st : List Value} {h : kM} {idx ci j k : Nat} {ty : FieldType} (o k' pc' : Nat) (hd : decode mt.2.1 pc = .ok (.getfield idx, 3)) (hp : pc + 3 = pc') (hf : kFL mt.1.cls idx ci j ty) (hkd : kd k = (0, ci)) (ho : koff ci j = o) (ho0 : Nat.blt 0 o = true) (ho9 : Nat.blt o 999 = true) (hk' : k + o = k') (kk : Wp G d mt E pc' ls (.ref k' :: st) h) : Wp G d mt E pc ls (.ref k :: st) h :=
  wp_getv pc' hd hp hf hkd (by
    have h1 := Nat.le_of_ble_eq_true ho0
    have h2 := Nat.le_of_ble_eq_true ho9
    unfold kfv; rw [ho, if_neg (by omega), if_neg (by omega), hk']) kk
theorem wp_getS {G : kG} {d : Nat} {mt : kMt} {E : kEv} {pc : Nat} {ls st : List Value} {h : kM} {idx ci j k : Nat} {ty : FieldType} (pc' : Nat) (hd : decode mt.2.1 pc = .ok (.getfield idx, 3)) (hp : pc + 3 = pc') (hf : kFL mt.1.cls idx ci j ty) (hkd : kd k = (0, ci)) (ho : koff ci j = 999) (kk : Wp G d mt E pc' ls (.ref (1000 + (h k j).toNatClampNeg) :: st) h) : Wp G d mt E pc ls (.ref k :: st) h :=
  wp_getv pc' hd hp hf hkd (by unfold kfv; rw [ho]; rfl) kk
theorem kfv_upd {h : kM} {k ci j : Nat} {x : Int32} (i : Nat) : kfv (kU h k j x) k ci i = if i = j then (if koff ci j = 0 then .int x else if koff ci j = 999 then .ref (1000 + x.toNatClampNeg) else .ref (k + koff ci j)) else kfv h k ci i := by
  unfold kfv
  rw [kU_eq]
  by_cases e : i = j
  · subst e
    rw [if_pos rfl]
    simp [upd]
  · rw [if_neg e]
    simp [upd, e]
def kpv (k ci j : Nat) (x : Int32) : Value := if koff ci j = 0 then .int x else if koff ci j = 999 then .ref (1000 + x.toNatClampNeg) else .ref (k + koff ci j)
theorem kfv_at {h : kM} {k ci j : Nat} {x : Int32} : kfv (kU h k j x) k ci j = kpv k ci j x := by
  rw [kfv_upd, if_pos rfl]
  rfl
theorem kfv_off {h : kM} {k ci j : Nat} {x : Int32} {i : Nat} (hi : i ≠ j) : kfv (kU h k j x) k ci i = kfv h k ci i := by
  rw [kfv_upd, if_neg hi]
theorem kW_put {G : kG} {h : kM} {k ci j : Nat} {x : Int32} (hkd : kd k = (0, ci)) : (kW G h).set k (kad G k, .inr (ci, ((List.range (kN ci)).map (fun j => kc G (kfv h k ci j))).set j (kc G (kpv k ci j x)))) = kW G (kU h k j x) := by
  refine kW_set ?_ (fun a ha => kE_ne (kU_ne ha))
  rw [kE_obj hkd]
  have hl : (List.range (kN ci)).map (fun i => kc G (kfv (kU h k j x) k ci i)) = ((List.range (kN ci)).map (fun i => kc G (kfv h k ci i))).set j (kc G (kpv k ci j x)) := by
    apply List.ext_getElem?
    intro i
    by_cases hij : j = i
    · subst hij
      by_cases hl2 : j < kN ci
      · rw [List.getElem?_set_self (by simpa using hl2), List.getElem?_map, List.getElem?_range hl2, Option.map_some, kfv_at]
      · rw [List.getElem?_eq_none (by simpa using Nat.le_of_not_lt hl2), List.getElem?_eq_none (by simpa using Nat.le_of_not_lt hl2)]
    · rw [List.getElem?_set_ne hij, List.getElem?_map, List.getElem?_map]
      by_cases hl2 : i < kN ci
      · rw [List.getElem?_range hl2, Option.map_some, Option.map_some, kfv_off (fun q => hij q.symm)]
      · rw [List.getElem?_eq_none (by simpa using Nat.le_of_not_lt hl2), Option.map_none, Option.map_none]
  rw [hl]
theorem wp_putv {G : kG} {d : Nat} {mt : kMt} {E : kEv} {pc : Nat} {ls st : List Value} {h : kM} {idx ci j k : Nat} {ty : FieldType} {v : Value} (x : Int32) (pc' : Nat) (hd : decode mt.2.1 pc = .ok (.putfield idx, 3)) (hp : pc + 3 = pc') (hf : kFL mt.1.cls idx ci j ty) (hfi : kFin ci j) (hkd : kd k = (0, ci)) (hv : kpv k ci j x = v) (hnar : narrow ty (kc G v) = kc G v) (hfit : fits ty (kc G v) = true) (kk : Wp G d mt E pc' ls st (kU h k j x)) : Wp G d mt E pc ls (v :: .ref k :: st) h := by
  subst hp
  intro hO p e s m args below meth c H locs lsC X hP hS hl
  obtain ⟨C, T, N, ts, h1, h2, h3, h4, h5, h6, h7⟩ := hf
  have hw := X.2.2.2.2.1
  have hk := kd_lt hkd (by decide)
  have he := kW_at G h hk
  rw [kE_obj hkd] at he
  have hN : kN ci = N := (kcl h1).1
  refine va_put X.1 X.2.1 (Ts := TW) (fun w q => hw w (List.mem_cons_of_mem _ q)) h2 ts h6 h7 X.2.2.2.1 X.2.2.2.2.2.2.2.1.2.1.1 hP (kW_D X.2.2.2.2.2.2.2.1.1 h) hS k he h1 j h3 (hw _ (List.mem_cons_of_mem _ h4)) (fun _ q => q) (hfi _ h1) h5 hnar hfit (by rw [List.length_map, List.length_range]; omega) hd (fun H1 locs1 hP1 _ hS1 => ?_)
  rw [← hv, kW_put hkd] at hP1
  exact kk hO p e s m args below meth c H1 locs1 lsC X hP1 hS1 hl
theorem wp_putI {G : kG} {d : Nat} {mt : kMt} {E : kEv} {pc : Nat} {ls st : List Value} {h : kM} {idx ci j k : Nat} {x : Int32} (pc' : Nat) (hd : decode mt.2.1 pc = .ok (.putfield idx, 3)) (hp : pc + 3 = pc') (hf : kFL mt.1.cls idx ci j .int) (hfi : kFin ci j) (hkd : kd k = (0, ci)) (ho : koff ci j = 0) (kk : Wp G d mt E pc' ls st (kU h k j x)) : Wp G d mt E pc ls (.int x :: .ref k :: st) h :=
  wp_putv x pc' hd hp hf hfi hkd (by unfold kpv; rw [ho]; rfl) rfl rfl kk
theorem wp_putZ {G : kG} {d : Nat} {mt : kMt} {E : kEv} {pc : Nat} {ls st : List Value} {h : kM} {idx ci j k : Nat} {x : Int32} (pc' : Nat) (hd : decode mt.2.1 pc = .ok (.putfield idx, 3)) (hp : pc + 3 = pc') (hf : kFL mt.1.cls idx ci j .boolean) (hfi : kFin ci j) (hkd : kd k = (0, ci)) (ho : koff ci j = 0) (hz : x = 0 ∨ x = 1) (kk : Wp G d mt E pc' ls st (kU h k j x)) : Wp G d mt E pc ls (.int x :: .ref k :: st) h :=
  wp_putv x pc' hd hp hf hfi hkd (by unfold kpv; rw [ho]; rfl) (by rcases hz with rfl | rfl <;> rfl) (by rcases hz with rfl | rfl <;> rfl) kk
theorem wp_putS {G : kG} {d : Nat} {mt : kMt} {E : kEv} {pc : Nat} {ls st : List Value} {h : kM} {idx ci j k q : Nat} (x : Int32) (pc' : Nat) (hd : decode mt.2.1 pc = .ok (.putfield idx, 3)) (hp : pc + 3 = pc') (hf : kFL mt.1.cls idx ci j (.object "java/lang/String")) (hfi : kFin ci j) (hkd : kd k = (0, ci)) (ho : koff ci j = 999) (hx : 1000 + x.toNatClampNeg = q) (kk : Wp G d mt E pc' ls st (kU h k j x)) : Wp G d mt E pc ls (.ref q :: .ref k :: st) h :=
  wp_putv x pc' hd hp hf hfi hkd (by unfold kpv; rw [ho, hx]; rfl) rfl rfl kk
theorem wp_iald {G : kG} {d : Nat} {mt : kMt} {E : kEv} {pc : Nat} {ls st : List Value} {h : kM} {k n : Nat} {i : Int32} (pc' : Nat) (hd : decode mt.2.1 pc = .ok (.iaload, 1)) (hp : pc + 1 = pc') (hkd : kd k = (1, n)) (hin : vp_in i n) (kk : Wp G d mt E pc' ls (.int (h k i.toNatClampNeg) :: st) h) : Wp G d mt E pc ls (.int i :: .ref k :: st) h := by
  subst hp
  intro hO p e s m args below meth c H locs lsC X hP hS hl
  have he := kW_at G h (kd_lt hkd (by decide))
  rw [kE_arr hkd] at he
  exact va_iald X.1 X.2.1 X.2.2.2.2.2.2.2.1.2.1.1 hP k 0 he rfl hin hd (kk hO p e s m args below meth c H locs lsC X hP hS hl)
theorem wp_iast {G : kG} {d : Nat} {mt : kMt} {E : kEv} {pc : Nat} {ls st : List Value} {h : kM} {k n : Nat} {i x : Int32} (pc' : Nat) (hd : decode mt.2.1 pc = .ok (.iastore, 1)) (hp : pc + 1 = pc') (hkd : kd k = (1, n)) (hin : vp_in i n) (kk : Wp G d mt E pc' ls st (kU h k i.toNatClampNeg x)) : Wp G d mt E pc ls (.int x :: .int i :: .ref k :: st) h := by
  subst hp
  intro hO p e s m args below meth c H locs lsC X hP hS hl
  have he := kW_at G h (kd_lt hkd (by decide))
  rw [kE_arr hkd] at he
  refine va_iast X.1 X.2.1 X.2.2.2.2.2.2.2.1.2.1.1 hP (kW_D X.2.2.2.2.2.2.2.1.1 h) hS k 0 he rfl hin hd (fun H1 locs1 hP1 _ hS1 => ?_)
  rw [kW_set (h' := kU h k i.toNatClampNeg x) (by rw [kE_arr hkd, kU_eq]) (fun a ha => kE_ne (kU_ne ha))] at hP1
  exact kk hO p e s m args below meth c H1 locs1 lsC X hP1 hS1 hl
theorem wp_ialdA {G : kG} {d : Nat} {mt : kMt} {E : kEv} {pc : Nat} {ls st : List Value} {h : kM} {i : Int32} (pc' : Nat) (hd : decode mt.2.1 pc = .ok (.iaload, 1)) (hp : pc + 1 = pc') (hin : vp_in i 7) (kk : Wp G d mt E pc' ls (.int (kAb.getD i.toNatClampNeg 0) :: st) h) : Wp G d mt E pc ls (.int i :: .ref 1002 :: st) h := by
  subst hp
  intro hO p e s m args below meth c H locs lsC X hP hS hl
  exact va_ti X.1 X.2.1 X.2.2.2.2.2.2.2.1.2.2.2.1 hS hin rfl hd (kk hO p e s m args below meth c H locs lsC X hP hS hl)
theorem wp_ialdB {G : kG} {d : Nat} {mt : kMt} {E : kEv} {pc : Nat} {ls st : List Value} {h : kM} {i : Int32} (pc' : Nat) (hd : decode mt.2.1 pc = .ok (.iaload, 1)) (hp : pc + 1 = pc') (hin : vp_in i 28) (kk : Wp G d mt E pc' ls (.int (kBo.getD i.toNatClampNeg 0) :: st) h) : Wp G d mt E pc ls (.int i :: .ref 1003 :: st) h := by
  subst hp
  intro hO p e s m args below meth c H locs lsC X hP hS hl
  exact va_ti X.1 X.2.1 X.2.2.2.2.2.2.2.1.2.2.2.2.2.1 hS hin rfl hd (kk hO p e s m args below meth c H locs lsC X hP hS hl)
/-- an array of references: the Sheets (kind 2), the courses (kind 3) -/
theorem wp_aaldS {G : kG} {d : Nat} {mt : kMt} {E : kEv} {pc : Nat} {ls st : List Value} {h : kM} {k n : Nat} {i : Int32} (pc' : Nat) (hd : decode mt.2.1 pc = .ok (.aaload, 1)) (hp : pc + 1 = pc') (hkd : kd k = (2, n)) (hin : vp_in i n) (kk : Wp G d mt E pc' ls (.ref (k + 1 + 2 * i.toNatClampNeg) :: st) h) : Wp G d mt E pc ls (.int i :: .ref k :: st) h := by
  subst hp
  intro hO p e s m args below meth c H locs lsC X hP hS hl
  have he := kW_at G h (kd_lt hkd (by decide))
  have h1 : kE G h k = .inl (G.2.2.2.2.1, (n, .inr (.inr (.inr (.inr (fun i => some (kad G (k + 1 + 2 * i)))))))) := by
    unfold kE
    rw [hkd]
    rfl
  rw [h1] at he
  exact va_aldq X.1 X.2.1 X.2.2.2.2.2.2.2.1.2.1.1 hP k 1 he rfl hin hd (kk hO p e s m args below meth c H locs lsC X hP hS hl)
theorem wp_aaldC {G : kG} {d : Nat} {mt : kMt} {E : kEv} {pc : Nat} {ls st : List Value} {h : kM} {k n : Nat} {i : Int32} (pc' : Nat) (hd : decode mt.2.1 pc = .ok (.aaload, 1)) (hp : pc + 1 = pc') (hkd : kd k = (3, n)) (hin : vp_in i n) (kk : Wp G d mt E pc' ls (.ref (k + 1 + i.toNatClampNeg) :: st) h) : Wp G d mt E pc ls (.int i :: .ref k :: st) h := by
  subst hp
  intro hO p e s m args below meth c H locs lsC X hP hS hl
  have he := kW_at G h (kd_lt hkd (by decide))
  have h1 : kE G h k = .inl (G.2.2.2.2.2, (n, .inr (.inr (.inr (.inr (fun i => some (kad G (k + 1 + i)))))))) := by
    unfold kE
    rw [hkd]
    rfl
  rw [h1] at he
  have hlt : i.toNatClampNeg < n := Nat.not_le.mp fun q => hin (Or.inr q)
  have hcell := hP k _ he
  exact W.aald (v := .ref (kad G (k + 1 + i.toNatClampNeg))) X.1 X.2.1 hcell ((X.2.2.2.2.2.2.2.1.2.1.1.2 2 _ rfl).1 n (fun j => va_rf (some (kad G (k + 1 + j))))) rfl (fun q => by cases q) (by show ¬ (i < 0 ∨ (arrV _ _ _).slots.size ≤ _); rw [arrV_size]; exact hin) (by show (arrV _ _ _).slots[_]? = _; rw [arrV_read _ _ hlt]; rfl) rfl rfl hd (kk hO p e s m args below meth c H locs lsC X hP hS hl)
theorem wp_getsA {G : kG} {d : Nat} {mt : kMt} {E : kEv} {pc : Nat} {ls st : List Value} {h : kM} {idx : Nat} (pc' : Nat) (hd : decode mt.2.1 pc = .ok (.getstatic idx, 3)) (hp : pc + 3 = pc') (hw : Cond.fieldLink mt.1.cls idx "KnottedWinds" "ABOVE" "[I" ∈ TW) (kk : Wp G d mt E pc' ls (.ref 1002 :: st) h) : Wp G d mt E pc ls st h := by
  subst hp
  intro hO p e s m args below meth c H locs lsC X hP hS hl
  exact va_gets X.1 X.2.1 X.2.2.2.2.2.2.2.1.2.2.1 hS X.2.2.2.1 (X.2.2.2.2.1 _ (List.mem_cons_of_mem _ hw)) (fun _ q => q) hd (kk hO p e s m args below meth c H locs lsC X hP hS hl)
theorem wp_getsAN {G : kG} {d : Nat} {mt : kMt} {E : kEv} {pc : Nat} {ls st : List Value} {h : kM} {idx : Nat} {host : String} (pc' : Nat) (hd : decode mt.2.1 pc = .ok (.getstatic idx, 3)) (hp : pc + 3 = pc') (hw : Cond.fieldLinkNest mt.1.cls idx "KnottedWinds" "ABOVE" "[I" host ∈ kNest) (kk : Wp G d mt E pc' ls (.ref 1002 :: st) h) : Wp G d mt E pc ls st h := by
  subst hp
  intro hO p e s m args below meth c H locs lsC X hP hS hl
  exact va_getsN X.1 X.2.1 X.2.2.2.2.2.2.2.1.2.2.1 hS X.2.2.2.1 (va_Nw.use rfl (X.2.2.2.2.2.2.2.1.2.1.2.1 _ hw)) (fun _ q => q) hd (kk hO p e s m args below meth c H locs lsC X hP hS hl)
theorem wp_getsB {G : kG} {d : Nat} {mt : kMt} {E : kEv} {pc : Nat} {ls st : List Value} {h : kM} {idx : Nat} (pc' : Nat) (hd : decode mt.2.1 pc = .ok (.getstatic idx, 3)) (hp : pc + 3 = pc') (hw : Cond.fieldLink mt.1.cls idx "KnottedWinds$Speaker" "BODIES" "[I" ∈ TW) (kk : Wp G d mt E pc' ls (.ref 1003 :: st) h) : Wp G d mt E pc ls st h := by
  subst hp
  intro hO p e s m args below meth c H locs lsC X hP hS hl
  exact va_gets X.1 X.2.1 X.2.2.2.2.2.2.2.1.2.2.2.2.1 hS X.2.2.2.1 (X.2.2.2.2.1 _ (List.mem_cons_of_mem _ hw)) (fun _ q => q) hd (kk hO p e s m args below meth c H locs lsC X hP hS hl)
theorem wp_ldcS {G : kG} {d : Nat} {mt : kMt} {E : kEv} {pc : Nat} {ls st : List Value} {h : kM} {idx : Nat} (q pc' : Nat) (hd : decode mt.2.1 pc = .ok (.ldc idx, 2)) (hp : pc + 2 = pc') (hc : mt.1.cls = RX1) (hw : (idx = 22 ∧ q = 1000) ∨ (idx = 51 ∧ q = 1001)) (kk : Wp G d mt E pc' ls (.ref q :: st) h) : Wp G d mt E pc ls st h := by
  subst hp
  intro hO p e s m args below meth c H locs lsC X hP hS hl
  have ho := X.2.2.2.1
  rw [hc] at ho
  rcases hw with ⟨rfl, rfl⟩ | ⟨rfl, rfl⟩
  · exact va_ldcS X.1 X.2.1 ho X.2.2.2.2.2.2.2.1.2.1.2.2.1 hd (kk hO p e s m args below meth c H locs lsC X hP hS hl)
  · exact va_ldcS X.1 X.2.1 ho X.2.2.2.2.2.2.2.1.2.1.2.2.2 hd (kk hO p e s m args below meth c H locs lsC X hP hS hl)
theorem wp_copy {G : kG} {d : Nat} {mt : kMt} {E : kEv} {pc : Nat} {ls st : List Value} {h : kM} {idx k0 k1 n0 n1 : Nat} {sp dp n : Int32} (pc' : Nat) (hd : decode mt.2.1 pc = .ok (.invokestatic idx, 3)) (hp : pc + 3 = pc') (hw : Cond.methodLink mt.1.cls idx arraycopyName ∈ TW ∧ Cond.native arraycopyName ∈ TW ∧ Cond.static arraycopyName ∈ TW ∧ Cond.initialized "java/lang/System" ∈ TW) (hd1 : 1 ≤ d) (hst : (st.map fun v => v.category).sum ≤ 8) (hk0 : kd k0 = (1, n0)) (hk1 : kd k1 = (1, n1)) (h1 : ¬ sp < 0) (h2 : ¬ dp < 0) (h3 : ¬ n < 0) (h4 : sp.toNatClampNeg + n.toNatClampNeg ≤ n0) (h5 : dp.toNatClampNeg + n.toNatClampNeg ≤ n1) (kk : Wp G d mt E pc' ls st (kCp h k0 k1 sp.toNatClampNeg dp.toNatClampNeg n.toNatClampNeg)) : Wp G d mt E pc ls (.int n :: .int dp :: .ref k1 :: .int sp :: .ref k0 :: st) h := by
  subst hp
  intro hO p e s m args below meth c H locs lsC X hP hS hl
  have he0 := kW_at G h (kd_lt hk0 (by decide))
  rw [kE_arr hk0] at he0
  have he1 := kW_at G h (kd_lt hk1 (by decide))
  rw [kE_arr hk1] at he1
  have hws := fun w q => X.2.2.2.2.1 w (List.mem_cons_of_mem _ q)
  have hst2 : ((st.map (kc G)).map fun v => v.category).sum = (st.map fun v => v.category).sum := by
    congr 1
    rw [List.map_map]
    exact List.map_congr_left (fun v _ => kc_cat G v)
  have hf1 : 1 ≤ E.1.frames := Nat.le_trans hd1 hO.1
  have hlo : ((st.map (kc G)).map fun v => v.category).sum + (nativeFrameWords "java/lang/System" "arraycopy" 5 + 11) ≤ E.1.locals := by
    have h6 := hO.2.1
    have e1 : nativeFrameWords "java/lang/System" "arraycopy" 5 ≤ 30 := by decide +kernel
    rw [hst2]
    omega
  refine va_copyi (R := E.1) X.1 X.2.1 (by rw [X.2.2.1, hl.1]) X.2.2.2.1 (hws _ hw.1) (hws _ hw.2.1) (hws _ hw.2.2.1) (hws _ hw.2.2.2) X.2.2.2.2.2.2.2.1.2.1.1 hP (kW_D X.2.2.2.2.2.2.2.1.1 h) hS k0 k1 0 0 he0 he1 rfl rfl rfl h1 h2 h3 h4 h5 (fun _ _ => rfl) hf1 hlo hd (fun H1 locs1 hP1 _ hS1 => ?_)
  rw [kW_set (h' := kCp h k0 k1 sp.toNatClampNeg dp.toNatClampNeg n.toNatClampNeg) (by rw [kE_arr hk1, kCp_eq]) (fun a ha => kE_ne (kCp_ne ha))] at hP1
  exact kk hO p e s m args below meth c H1 locs1 lsC X hP1 hS1 hl
theorem wp_max {G : kG} {d : Nat} {mt : kMt} {E : kEv} {pc : Nat} {ls st : List Value} {h : kM} {idx : Nat} {x y : Int32} (pc' : Nat) (hd : decode mt.2.1 pc = .ok (.invokestatic idx, 3)) (hp : pc + 3 = pc') (hw : Cond.methodLink mt.1.cls idx Lib.Math.max.name ∈ TW ∧ Cond.static Lib.Math.max.name ∈ TW ∧ Cond.initialized "java/lang/Math" ∈ TW ∧ Cond.code Lib.Math.max.name Lib.Math.max.code 2 (some .int) ∈ TW) (hd1 : 1 ≤ d) (hst : (st.map fun v => v.category).sum ≤ 8) (kk : Wp G d mt E pc' ls (.int (if x < y then y else x) :: st) h) : Wp G d mt E pc ls (.int y :: .int x :: st) h := by
  subst hp
  intro hO p e s m args below meth c H locs lsC X hP hS hl
  have hws := fun w q => X.2.2.2.2.1 w (List.mem_cons_of_mem _ q)
  have hst2 : ((st.map (kc G)).map fun v => v.category).sum = (st.map fun v => v.category).sum := by
    congr 1
    rw [List.map_map]
    exact List.map_congr_left (fun v _ => kc_cat G v)
  exact va_mmax X.1 X.2.1 (by rw [X.2.2.1, hl.1]) X.2.2.2.1 (hws _ hw.1) (hws _ hw.2.1) (hws _ hw.2.2.1) (hws _ hw.2.2.2) (by have := hO.1; omega) (by have := hO.2.1; rw [hst2]; omega) hO.2.2.1 hO.2.2.2 hd (kk hO p e s m args below meth c H locs lsC X hP hS hl)
theorem wp_min {G : kG} {d : Nat} {mt : kMt} {E : kEv} {pc : Nat} {ls st : List Value} {h : kM} {idx : Nat} {x y : Int32} (pc' : Nat) (hd : decode mt.2.1 pc = .ok (.invokestatic idx, 3)) (hp : pc + 3 = pc') (hw : Cond.methodLink mt.1.cls idx Lib.Math.min.name ∈ TW ∧ Cond.static Lib.Math.min.name ∈ TW ∧ Cond.initialized "java/lang/Math" ∈ TW ∧ Cond.code Lib.Math.min.name Lib.Math.min.code 2 (some .int) ∈ TW) (hd1 : 1 ≤ d) (hst : (st.map fun v => v.category).sum ≤ 8) (kk : Wp G d mt E pc' ls (.int (if y < x then y else x) :: st) h) : Wp G d mt E pc ls (.int y :: .int x :: st) h := by
  subst hp
  intro hO p e s m args below meth c H locs lsC X hP hS hl
  have hws := fun w q => X.2.2.2.2.1 w (List.mem_cons_of_mem _ q)
  have hst2 : ((st.map (kc G)).map fun v => v.category).sum = (st.map fun v => v.category).sum := by
    congr 1
    rw [List.map_map]
    exact List.map_congr_left (fun v _ => kc_cat G v)
  exact va_mmin X.1 X.2.1 (by rw [X.2.2.1, hl.1]) X.2.2.2.1 (hws _ hw.1) (hws _ hw.2.1) (hws _ hw.2.2.1) (hws _ hw.2.2.2) (by have := hO.1; omega) (by have := hO.2.1; rw [hst2]; omega) hO.2.2.1 hO.2.2.2 hd (kk hO p e s m args below meth c H locs lsC X hP hS hl)
end
section
/-! calls and returns of the abstract machine -/
theorem tw_good {w : Cond} (h : w ∈ TW) : goodWord w = true := (List.mem_filter.mp h).2
theorem kws_good {mt : kMt} (hc : Cond.code mt.1 mt.2.1 mt.2.2.1 mt.2.2.2 ∈ TW) {Ts : List Cond} (hT : ∀ w ∈ TW, w ∈ Ts) : GoodIn Ts (kws mt) := by
  intro w hw
  rcases List.mem_cons.mp hw with rfl | hw
  · exact ⟨hT _ hc, good_of_word (tw_good hc)⟩
  · exact ⟨hT _ hw, good_of_word (tw_good hw)⟩
theorem kB_blind {G : kG} {h : kM} {av : List Value} : FrameBlind (va_Pc av (fun U => va_P (kDD G) vwCl (kW G h) U.heap ∧ kK G U U.heap)) := by
  rintro a U g mk ⟨h1, h2, h3, h4, h5⟩
  exact ⟨h1, h2, h3, kTb.same (s := U) (U := U.calling g mk a) rfl h4, h5.moved (U := U.calling g mk a) (Vm.Alike.refl U.vm)⟩
theorem kB_pre {G : kG} {h : kM} {s U : State} {H : Heap} {locs : List Loc} (hK : kK G s s.heap) (hP : va_P (kDD G) vwCl (kW G h) H) (hS : va_S (kA G) s.heap H locs) (hU : U.heap = H) (hW : s.WarmedH U.vm) : va_P (kDD G) vwCl (kW G h) U.heap ∧ kK G U U.heap := by
  rw [hU]
  exact ⟨hP, hK.1, hK.2.1.warm hW, (hK.2.2.kept hS.2.1).moved hW.alike⟩
section KC
variable {p : Program} {l : Launch} {e : Env} {R : Room} {s : State} {m : MethodId} {args : Array Value} {below : List Frame} {meth : Method} {c : Code} {H : Heap} {locs : List Loc} {cells slots : Nat} {Q : State → Prop}
theorem kcall {G : kG} {ret : Option FieldType} {Q' : Int32 → kM → Prop} {pc : Nat} {lsC : Array Slot} {st0 rest : List Value} {a : Array Value} (hr : va_Run p l e R s m args below meth c H locs cells slots 0 0 (F0 m pc lsC st0) rest (kQ G ret Q' a) (kA G)) (hS : va_S (kA G) s.heap H locs)
    (kk : ∀ (x : Int32) (h' : kM) (H1 : Heap) (locs1 : List Loc), Q' x h' → va_P (kDD G) vwCl (kW G h') H1 → va_S (kA G) s.heap H1 locs1 → W p l e R s m args below meth c H1 locs1 cells slots Q (F0 m (pc + 3) lsC ((kRet G ret x).toList ++ rest))) : W p l e R s m args below meth c H locs cells slots Q (F0 m pc lsC st0) := by
  intro T hT X
  obtain ⟨v, st₀, t, T', L, h0, X', hL, e1, e2, ⟨⟨x, h', hv, hq, hP'⟩, hz, hk⟩, st⟩ := hr T hT X
  cases hv
  rw [h0] at hz hk
  obtain ⟨t2, a1, b1⟩ := kk x h' T'.heap (locs ++ L) hq (by rw [e1]; exact hP')
    ⟨Nat.le_trans hS.1 (by rw [e1]; exact hz), fun q h1 h2 => by rw [e1, hk q (Nat.lt_of_lt_of_le h1 hS.1) h2]; exact hS.2.1 q h1 h2, fun q hq => by
      rcases List.mem_append.mp hq with h | h
      · exact hS.2.2 q h
      · exact hL q h⟩ T' rfl X'
  exact ⟨t2, st t2 a1, b1⟩
end KC
theorem kc_sum (G : kG) (st : List Value) : ((st.map (kc G)).map fun v => v.category).sum = (st.map fun v => v.category).sum := by
  congr 1
  rw [List.map_map]
  exact List.map_congr_left (fun v _ => kc_cat G v)
def kPush (ret : Option FieldType) (x : Int32) (rest : List Value) : List Value := match ret with
  | none => rest
  | some (.object _) => .ref x.toNatClampNeg :: rest
  | some _ => .int x :: rest
theorem kPush_c (G : kG) (ret : Option FieldType) (x : Int32) (rest : List Value) : (kRet G ret x).toList ++ rest.map (kc G) = (kPush ret x rest).map (kc G) := by
  cases ret with
  | none => rfl
  | some t => cases t <;> rfl
/-- a virtual method (private ones too), by its words -/
def kLV (mt mt' : kMt) (idx n : Nat) : Prop :=
  Cond.methodLink mt.1.cls idx mt'.1 ∈ TW ∧ Cond.instanceMethod mt'.1 ∈ TW ∧ Cond.selects mt'.1.cls mt'.1 mt'.1 ∈ TW ∧ Cond.initialized mt'.1.cls ∈ TW ∧ Cond.code mt'.1 mt'.2.1 mt'.2.2.1 mt'.2.2.2 ∈ TW ∧
  (mt'.1.cls ≠ "java/lang/invoke/MethodHandle" ∧ mt'.1.cls ≠ "java/lang/invoke/VarHandle" ∧ (parseMethodDescriptor mt'.1.desc).map (fun d => d.parameters.length) = some n) ∧ mt'.2.2.1 ≤ 45
def kLS (mt mt' : kMt) (idx n : Nat) : Prop :=
  Cond.methodLink mt.1.cls idx mt'.1 ∈ TW ∧ Cond.static mt'.1 ∈ TW ∧ Cond.initialized mt'.1.cls ∈ TW ∧ Cond.code mt'.1 mt'.2.1 mt'.2.2.1 mt'.2.2.2 ∈ TW ∧
  (mt'.1.cls ≠ "java/lang/invoke/MethodHandle" ∧ mt'.1.cls ≠ "java/lang/invoke/VarHandle" ∧ (parseMethodDescriptor mt'.1.desc).map (fun d => d.parameters.length) = some n) ∧ mt'.2.2.1 ≤ 45
def kLN (mt mt' : kMt) (idx n : Nat) (host : String) : Prop :=
  Cond.methodLinkNest mt.1.cls idx mt'.1 host ∈ kNest ∧ Cond.static mt'.1 ∈ TW ∧ Cond.initialized mt'.1.cls ∈ TW ∧ Cond.code mt'.1 mt'.2.1 mt'.2.2.1 mt'.2.2.2 ∈ TW ∧
  (mt'.1.cls ≠ "java/lang/invoke/MethodHandle" ∧ mt'.1.cls ≠ "java/lang/invoke/VarHandle" ∧ (parseMethodDescriptor mt'.1.desc).map (fun d => d.parameters.length) = some n) ∧ mt'.2.2.1 ≤ 45
theorem wp_cV {G : kG} {d : Nat} {mt : kMt} {E : kEv} {pc : Nat} {ls : List Value} {h : kM} {mt' : kMt} {idx ci k : Nat} (e' n : Nat) (As rest : List Value) {stk : List Value} (pc' : Nat) (hd : decode mt.2.1 pc = .ok (.invokevirtual idx, 3)) (hp : pc + 3 = pc') (hw : kLV mt mt' idx n) (he : e' + 1 ≤ d) (hkd : kd k = (0, ci)) (hC : (vwCl[ci]?).map (fun q => q.1) = some mt'.1.cls) (hn : As.length = n) (hs : stk = As.reverse ++ .ref k :: rest) (hst : (rest.map fun v => v.category).sum ≤ 8)
    (hc : Cal G e' mt' (.ref k :: As) h (fun x h' => Wp G d mt E pc' ls (kPush mt'.2.2.2 x rest) h')) : Wp G d mt E pc ls stk h := by
  subst hp
  subst hs
  intro hO p e s m args below meth c H locs lsC X hP hS hl
  obtain ⟨w1, w2, w3, w4, w5, w6, w7⟩ := hw
  have hcell := kW_at G h (kd_lt hkd (by decide))
  rw [kE_obj hkd] at hcell
  obtain ⟨q, hq, hqc⟩ : ∃ q, vwCl[ci]? = some q ∧ q.1 = mt'.1.cls := by
    cases hh : vwCl[ci]? with
    | none => rw [hh] at hC; cases hC
    | some q => rw [hh] at hC; exact ⟨q, rfl, Option.some.inj hC⟩
  have hGood : GoodIn (kws mt) (wsV mt.1.cls idx mt'.1.cls mt'.1 (kws mt')) := by
    intro w hw
    have hw2 : w ∈ ([.methodLink mt.1.cls idx mt'.1, .instanceMethod mt'.1, .selects mt'.1.cls mt'.1 mt'.1, .initialized mt'.1.cls] : List Cond) ++ kws mt' := hw
    rcases List.mem_append.mp hw2 with h1 | h1
    · have h2 : w ∈ TW := by
        simp only [List.mem_cons, List.not_mem_nil, or_false] at h1
        rcases h1 with rfl | rfl | rfl | rfl
        · exact w1
        · exact w2
        · exact w3
        · exact w4
      exact ⟨List.mem_cons_of_mem _ h2, good_of_word (tw_good h2)⟩
    · exact kws_good w5 (fun w q => List.mem_cons_of_mem _ q) w h1
  have hO1 := hO.1
  have hO2 := hO.2.1
  refine kcall (G := G) (ret := mt'.2.2.2) (va_runV (As := As.map (kc G)) (rest := rest.map (kc G)) (b := kad G k) (n := n) ⟨X.1, X.2.1, X.2.2.1, X.2.2.2.1, X.2.2.2.2.1⟩ hc (cwV n X.2.2.2.2.1 hGood rfl rfl rfl ⟨rfl, w6⟩ ⟨Nat.le_trans he hO1, ?_⟩) ⟨kB_blind, ?_, fun U hU hW => ⟨rfl, kB_pre X.2.2.2.2.2.2.2.1 hP hS hU hW⟩⟩ rfl (by simpa using hn) hl.1 ?_ (lv_room (by rw [kc_sum]; exact hst)) hd ⟨hO.2.2.1, hO.2.2.2⟩) hS (fun x h' H1 locs1 hq2 hP1 hS1 => ?_)
  · show 8 + (mt'.2.2.1 + 11) + 64 * e' ≤ E.1.locals
    omega
  · rw [← hqc]
    exact va_recv X.2.2.2.2.2.2.2.1.2.1.1 hP hq hcell
  · simp [kc]
  · rw [kPush_c]
    exact hq2 hO p e s m args below meth c H1 locs1 lsC X hP1 hS1 hl
theorem wp_cS {G : kG} {d : Nat} {mt : kMt} {E : kEv} {pc : Nat} {ls : List Value} {h : kM} {mt' : kMt} {idx : Nat} (e' n : Nat) (As rest : List Value) {stk : List Value} (pc' : Nat) (hd : decode mt.2.1 pc = .ok (.invokestatic idx, 3)) (hp : pc + 3 = pc') (hw : kLS mt mt' idx n) (he : e' + 1 ≤ d) (hn : As.length = n) (hs : stk = As.reverse ++ rest) (hst : (rest.map fun v => v.category).sum ≤ 8)
    (hc : Cal G e' mt' As h (fun x h' => Wp G d mt E pc' ls (kPush mt'.2.2.2 x rest) h')) : Wp G d mt E pc ls stk h := by
  subst hp
  subst hs
  intro hO p e s m args below meth c H locs lsC X hP hS hl
  obtain ⟨w1, w2, w4, w5, w6, w7⟩ := hw
  have hGood : GoodIn (kws mt) (va_wsS mt.1.cls idx mt'.1 (kws mt')) := by
    intro w hw
    have hw2 : w ∈ ([.methodLink mt.1.cls idx mt'.1, .static mt'.1, .initialized mt'.1.cls] : List Cond) ++ kws mt' := hw
    rcases List.mem_append.mp hw2 with h1 | h1
    · have h2 : w ∈ TW := by
        simp only [List.mem_cons, List.not_mem_nil, or_false] at h1
        rcases h1 with rfl | rfl | rfl
        · exact w1
        · exact w2
        · exact w4
      exact ⟨List.mem_cons_of_mem _ h2, good_of_word (tw_good h2)⟩
    · exact kws_good w5 (fun w q => List.mem_cons_of_mem _ q) w h1
  have hO1 := hO.1
  have hO2 := hO.2.1
  refine kcall (G := G) (ret := mt'.2.2.2) (va_runS (As := As.map (kc G)) (rest := rest.map (kc G)) (n := n) ⟨X.1, X.2.1, X.2.2.1, X.2.2.2.1, X.2.2.2.2.1⟩ hc (va_cwS n X.2.2.2.2.1 hGood rfl rfl rfl w6 ⟨Nat.le_trans he hO1, ?_⟩) ⟨kB_blind, fun U hU hW => ⟨rfl, kB_pre X.2.2.2.2.2.2.2.1 hP hS hU hW⟩⟩ rfl (by simpa using hn) hl.1 ?_ (lv_room (by rw [kc_sum]; exact hst)) hd ⟨hO.2.2.1, hO.2.2.2⟩) hS (fun x h' H1 locs1 hq2 hP1 hS1 => ?_)
  · show 8 + (mt'.2.2.1 + 11) + 64 * e' ≤ E.1.locals
    omega
  · simp
  · rw [kPush_c]
    exact hq2 hO p e s m args below meth c H1 locs1 lsC X hP1 hS1 hl
theorem wp_cN {G : kG} {d : Nat} {mt : kMt} {E : kEv} {pc : Nat} {ls : List Value} {h : kM} {mt' : kMt} {idx : Nat} {host : String} (e' n : Nat) (As rest : List Value) {stk : List Value} (pc' : Nat) (hd : decode mt.2.1 pc = .ok (.invokestatic idx, 3)) (hp : pc + 3 = pc') (hw : kLN mt mt' idx n host) (he : e' + 1 ≤ d) (hn : As.length = n) (hs : stk = As.reverse ++ rest) (hst : (rest.map fun v => v.category).sum ≤ 8)
    (hc : Cal G e' mt' As h (fun x h' => Wp G d mt E pc' ls (kPush mt'.2.2.2 x rest) h')) : Wp G d mt E pc ls stk h := by
  subst hp
  subst hs
  intro hO p e s m args below meth c H locs lsC X hP hS hl
  obtain ⟨w1, w2, w4, w5, w6, w7⟩ := hw
  have hO1 := hO.1
  have hO2 := hO.2.1
  have hws := fun w q => X.2.2.2.2.1 w (List.mem_cons_of_mem _ q)
  refine kcall (G := G) (ret := mt'.2.2.2) (va_runSN (host := host) (As := As.map (kc G)) (rest := rest.map (kc G)) (n := n) ⟨X.1, X.2.1, X.2.2.1, X.2.2.2.1, X.2.2.2.2.1⟩ hc ⟨va_cnB n X.2.2.2.2.1 (kws_good w5 (fun w q => List.mem_cons_of_mem _ q)) rfl rfl rfl (X.2.2.2.2.2.2.2.1.2.1.2.1 _ w1) (hws _ w4) w6 ⟨Nat.le_trans he hO1, ?_⟩, hws _ w2, trivial⟩ ⟨kB_blind, fun U hU hW => ⟨rfl, kB_pre X.2.2.2.2.2.2.2.1 hP hS hU hW⟩⟩ rfl (by simpa using hn) hl.1 ?_ (lv_room (by rw [kc_sum]; exact hst)) hd ⟨hO.2.2.1, hO.2.2.2⟩) hS (fun x h' H1 locs1 hq2 hP1 hS1 => ?_)
  · show 8 + (mt'.2.2.1 + 11) + 64 * e' ≤ E.1.locals
    omega
  · simp
  · rw [kPush_c]
    exact hq2 hO p e s m args below meth c H1 locs1 lsC X hP1 hS1 hl
/-! returns -/
theorem wp_reti {G : kG} {d : Nat} {mt : kMt} {Q : Int32 → kM → Prop} {pc : Nat} {ls : List Value} {h : kM} {x : Int32} (hd : decode mt.2.1 pc = .ok (.ireturn, 1)) (hr : mt.2.2.2 = some .int) (hq : Q x h) : Wp G d mt (kEo G d mt Q) pc ls [.int x] h := by
  intro hO p e s m args below meth c H locs lsC X hP hS hl
  exact W.zret X.1 X.2.1 (by rw [X.2.2.2.2.2.2.1, hr]) rfl (fun t ht _ => ⟨⟨x, h, by rw [hr]; rfl, hq, by rw [ht]; exact hP⟩, hS.F ht⟩) hS.2.2 hd X.2.2.2.2.2.1
theorem wp_retz {G : kG} {d : Nat} {mt : kMt} {Q : Int32 → kM → Prop} {pc : Nat} {ls : List Value} {h : kM} {x : Int32} (hd : decode mt.2.1 pc = .ok (.ireturn, 1)) (hr : mt.2.2.2 = some .boolean) (hz : x = 0 ∨ x = 1) (hq : Q x h) : Wp G d mt (kEo G d mt Q) pc ls [.int x] h := by
  intro hO p e s m args below meth c H locs lsC X hP hS hl
  exact W.zret (ty := .boolean) X.1 X.2.1 (by rw [X.2.2.2.2.2.2.1, hr]) (by rcases hz with rfl | rfl <;> rfl) (fun t ht _ => ⟨⟨x, h, by rw [hr]; rfl, hq, by rw [ht]; exact hP⟩, hS.F ht⟩) hS.2.2 hd X.2.2.2.2.2.1
theorem wp_retv {G : kG} {d : Nat} {mt : kMt} {Q : Int32 → kM → Prop} {pc : Nat} {ls : List Value} {h : kM} (hd : decode mt.2.1 pc = .ok (.return_, 1)) (hr : mt.2.2.2 = none) (hq : Q 0 h) : Wp G d mt (kEo G d mt Q) pc ls [] h := by
  intro hO p e s m args below meth c H locs lsC X hP hS hl
  exact W.vret X.1 X.2.1 (by rw [X.2.2.2.2.2.2.1, hr]) (fun t ht _ => ⟨⟨0, h, by rw [hr]; rfl, hq, by rw [ht]; exact hP⟩, hS.F ht⟩) hS.2.2 hd X.2.2.2.2.2.1
theorem wp_reta {G : kG} {d : Nat} {mt : kMt} {Q : Int32 → kM → Prop} {pc : Nat} {ls : List Value} {h : kM} {k : Nat} {C : String} (x : Int32) (hd : decode mt.2.1 pc = .ok (.areturn, 1)) (hr : mt.2.2.2 = some (.object C)) (hx : x.toNatClampNeg = k) (hq : Q x h) : Wp G d mt (kEo G d mt Q) pc ls [.ref k] h := by
  subst hx
  intro hO p e s m args below meth c H locs lsC X hP hS hl
  exact W.aret (rt := .object C) X.1 X.2.1 (by rw [X.2.2.2.2.2.2.1, hr]) (Or.inl ⟨C, rfl⟩) (Or.inr ⟨_, rfl⟩) (fun t ht _ => ⟨⟨x, h, by rw [hr]; rfl, hq, by rw [ht]; exact hP⟩, hS.F ht⟩) hS.2.2 hd X.2.2.2.2.2.1
end
