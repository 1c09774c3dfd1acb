-- ===== PART A: goes FIRST, ahead of the names: the tables' words, and 'selects' of the private methods out of them =====
/-- a private method of a class that the tables say can be made, by its rows of tables_1 -/
def lw_okq (q : MethodName × Nat) : Prop := (q.1.cls ≠ "java/lang/invoke/MethodHandle" ∧ q.1.cls ≠ "java/lang/invoke/VarHandle") ∧ Cond.instantiable q.1.cls q.2 ∈ tables_1 ∧ Cond.privateMethod q.1 ∈ tables_1 ∧ Cond.instanceMethod q.1 ∈ tables_1
theorem lw_p0 : lw_okq (⟨"PaintedOver", "refuse", "(I)I"⟩, 14) := ⟨⟨by decide +kernel, by decide +kernel⟩, List.mem_of_getElem? (i := 22) (by decide +kernel), List.mem_of_getElem? (i := 293) (by decide +kernel), List.mem_of_getElem? (i := 294) (by decide +kernel)⟩
theorem lw_p1 : lw_okq (⟨"PaintedOver", "refuseDown", "(II)I"⟩, 14) := ⟨⟨by decide +kernel, by decide +kernel⟩, List.mem_of_getElem? (i := 22) (by decide +kernel), List.mem_of_getElem? (i := 297) (by decide +kernel), List.mem_of_getElem? (i := 298) (by decide +kernel)⟩
theorem lw_p2 : lw_okq (⟨"PaintedOver", "rowTrouble", "(I)I"⟩, 14) := ⟨⟨by decide +kernel, by decide +kernel⟩, List.mem_of_getElem? (i := 22) (by decide +kernel), List.mem_of_getElem? (i := 305) (by decide +kernel), List.mem_of_getElem? (i := 306) (by decide +kernel)⟩
theorem lw_p3 : lw_okq (⟨"PaintedOver", "holdsHouse", "(I)Z"⟩, 14) := ⟨⟨by decide +kernel, by decide +kernel⟩, List.mem_of_getElem? (i := 22) (by decide +kernel), List.mem_of_getElem? (i := 309) (by decide +kernel), List.mem_of_getElem? (i := 310) (by decide +kernel)⟩
theorem lw_p4 : lw_okq (⟨"PaintedOver", "holdsRow", "(I)Z"⟩, 14) := ⟨⟨by decide +kernel, by decide +kernel⟩, List.mem_of_getElem? (i := 22) (by decide +kernel), List.mem_of_getElem? (i := 313) (by decide +kernel), List.mem_of_getElem? (i := 314) (by decide +kernel)⟩
theorem lw_p5 : lw_okq (⟨"PaintedOver", "noSuchPart", "(III)Z"⟩, 14) := ⟨⟨by decide +kernel, by decide +kernel⟩, List.mem_of_getElem? (i := 22) (by decide +kernel), List.mem_of_getElem? (i := 324) (by decide +kernel), List.mem_of_getElem? (i := 325) (by decide +kernel)⟩
theorem lw_p6 : lw_okq (⟨"PaintedOver", "noHouse", "(I)Z"⟩, 14) := ⟨⟨by decide +kernel, by decide +kernel⟩, List.mem_of_getElem? (i := 22) (by decide +kernel), List.mem_of_getElem? (i := 339) (by decide +kernel), List.mem_of_getElem? (i := 340) (by decide +kernel)⟩
theorem lw_p7 : lw_okq (⟨"PaintedOver", "saidBy", "(LPaintedOver$Front;I)I"⟩, 14) := ⟨⟨by decide +kernel, by decide +kernel⟩, List.mem_of_getElem? (i := 22) (by decide +kernel), List.mem_of_getElem? (i := 354) (by decide +kernel), List.mem_of_getElem? (i := 355) (by decide +kernel)⟩
theorem lw_p8 : lw_okq (⟨"PaintedOver", "strengthOfHighest", "(LPaintedOver$Front;)I"⟩, 14) := ⟨⟨by decide +kernel, by decide +kernel⟩, List.mem_of_getElem? (i := 22) (by decide +kernel), List.mem_of_getElem? (i := 401) (by decide +kernel), List.mem_of_getElem? (i := 402) (by decide +kernel)⟩
theorem lw_p9 : lw_okq (⟨"PaintedOver", "noCoat", "(II)Z"⟩, 14) := ⟨⟨by decide +kernel, by decide +kernel⟩, List.mem_of_getElem? (i := 22) (by decide +kernel), List.mem_of_getElem? (i := 479) (by decide +kernel), List.mem_of_getElem? (i := 480) (by decide +kernel)⟩
theorem lw_p10 : lw_okq (⟨"PaintedOver$Reader", "readItem", "()V"⟩, 6) := ⟨⟨by decide +kernel, by decide +kernel⟩, List.mem_of_getElem? (i := 32) (by decide +kernel), List.mem_of_getElem? (i := 505) (by decide +kernel), List.mem_of_getElem? (i := 506) (by decide +kernel)⟩
theorem lw_p11 : lw_okq (⟨"PaintedOver$Reader", "readWord", "()I"⟩, 6) := ⟨⟨by decide +kernel, by decide +kernel⟩, List.mem_of_getElem? (i := 32) (by decide +kernel), List.mem_of_getElem? (i := 509) (by decide +kernel), List.mem_of_getElem? (i := 510) (by decide +kernel)⟩
theorem lw_p12 : lw_okq (⟨"PaintedOver$Reader", "sameLetters", "(Ljava/lang/String;)I"⟩, 6) := ⟨⟨by decide +kernel, by decide +kernel⟩, List.mem_of_getElem? (i := 32) (by decide +kernel), List.mem_of_getElem? (i := 522) (by decide +kernel), List.mem_of_getElem? (i := 523) (by decide +kernel)⟩
theorem lw_p13 : lw_okq (⟨"PaintedOver$Reader", "elementAt", "(I)I"⟩, 6) := ⟨⟨by decide +kernel, by decide +kernel⟩, List.mem_of_getElem? (i := 32) (by decide +kernel), List.mem_of_getElem? (i := 536) (by decide +kernel), List.mem_of_getElem? (i := 537) (by decide +kernel)⟩
theorem lw_p14 : lw_okq (⟨"PaintedOver$Reader", "readHouse", "(I)V"⟩, 6) := ⟨⟨by decide +kernel, by decide +kernel⟩, List.mem_of_getElem? (i := 32) (by decide +kernel), List.mem_of_getElem? (i := 581) (by decide +kernel), List.mem_of_getElem? (i := 582) (by decide +kernel)⟩
theorem lw_p15 : lw_okq (⟨"PaintedOver$Reader", "readNumber", "(II)I"⟩, 6) := ⟨⟨by decide +kernel, by decide +kernel⟩, List.mem_of_getElem? (i := 32) (by decide +kernel), List.mem_of_getElem? (i := 585) (by decide +kernel), List.mem_of_getElem? (i := 586) (by decide +kernel)⟩
def lw_privs_1 : List (MethodName × Nat) := [(⟨"PaintedOver", "refuse", "(I)I"⟩, 14), (⟨"PaintedOver", "refuseDown", "(II)I"⟩, 14), (⟨"PaintedOver", "rowTrouble", "(I)I"⟩, 14), (⟨"PaintedOver", "holdsHouse", "(I)Z"⟩, 14), (⟨"PaintedOver", "holdsRow", "(I)Z"⟩, 14), (⟨"PaintedOver", "noSuchPart", "(III)Z"⟩, 14), (⟨"PaintedOver", "noHouse", "(I)Z"⟩, 14), (⟨"PaintedOver", "saidBy", "(LPaintedOver$Front;I)I"⟩, 14), (⟨"PaintedOver", "strengthOfHighest", "(LPaintedOver$Front;)I"⟩, 14), (⟨"PaintedOver", "noCoat", "(II)Z"⟩, 14), (⟨"PaintedOver$Reader", "readItem", "()V"⟩, 6), (⟨"PaintedOver$Reader", "readWord", "()I"⟩, 6), (⟨"PaintedOver$Reader", "sameLetters", "(Ljava/lang/String;)I"⟩, 6), (⟨"PaintedOver$Reader", "elementAt", "(I)I"⟩, 6), (⟨"PaintedOver$Reader", "readHouse", "(I)V"⟩, 6), (⟨"PaintedOver$Reader", "readNumber", "(II)I"⟩, 6)]
theorem lw_r1 : ∀ q ∈ lw_privs_1, lw_okq q := List.forall_mem_cons.mpr ⟨lw_p0, List.forall_mem_cons.mpr ⟨lw_p1, List.forall_mem_cons.mpr ⟨lw_p2, List.forall_mem_cons.mpr ⟨lw_p3, List.forall_mem_cons.mpr ⟨lw_p4, List.forall_mem_cons.mpr ⟨lw_p5, List.forall_mem_cons.mpr ⟨lw_p6, List.forall_mem_cons.mpr ⟨lw_p7, List.forall_mem_cons.mpr ⟨lw_p8, List.forall_mem_cons.mpr ⟨lw_p9, List.forall_mem_cons.mpr ⟨lw_p10, List.forall_mem_cons.mpr ⟨lw_p11, List.forall_mem_cons.mpr ⟨lw_p12, List.forall_mem_cons.mpr ⟨lw_p13, List.forall_mem_cons.mpr ⟨lw_p14, List.forall_mem_cons.mpr ⟨lw_p15, fun _ h => absurd h List.not_mem_nil⟩⟩⟩⟩⟩⟩⟩⟩⟩⟩⟩⟩⟩⟩⟩⟩
theorem lw_p16 : lw_okq (⟨"PaintedOver$Reader", "stands", "(I)Z"⟩, 6) := ⟨⟨by decide +kernel, by decide +kernel⟩, List.mem_of_getElem? (i := 32) (by decide +kernel), List.mem_of_getElem? (i := 589) (by decide +kernel), List.mem_of_getElem? (i := 590) (by decide +kernel)⟩
theorem lw_p17 : lw_okq (⟨"PaintedOver$Reader", "isDigit", "(I)Z"⟩, 6) := ⟨⟨by decide +kernel, by decide +kernel⟩, List.mem_of_getElem? (i := 32) (by decide +kernel), List.mem_of_getElem? (i := 593) (by decide +kernel), List.mem_of_getElem? (i := 594) (by decide +kernel)⟩
theorem lw_p18 : lw_okq (⟨"PaintedOver$Reader", "readCoat", "()V"⟩, 6) := ⟨⟨by decide +kernel, by decide +kernel⟩, List.mem_of_getElem? (i := 32) (by decide +kernel), List.mem_of_getElem? (i := 598) (by decide +kernel), List.mem_of_getElem? (i := 599) (by decide +kernel)⟩
theorem lw_p19 : lw_okq (⟨"PaintedOver$Reader", "readColour", "([II)V"⟩, 6) := ⟨⟨by decide +kernel, by decide +kernel⟩, List.mem_of_getElem? (i := 32) (by decide +kernel), List.mem_of_getElem? (i := 603) (by decide +kernel), List.mem_of_getElem? (i := 604) (by decide +kernel)⟩
theorem lw_p20 : lw_okq (⟨"PaintedOver$Reader", "readScratch", "()V"⟩, 6) := ⟨⟨by decide +kernel, by decide +kernel⟩, List.mem_of_getElem? (i := 32) (by decide +kernel), List.mem_of_getElem? (i := 629) (by decide +kernel), List.mem_of_getElem? (i := 630) (by decide +kernel)⟩
theorem lw_p21 : lw_okq (⟨"PaintedOver", "cheapest", "(LPaintedOver$Front;I)I"⟩, 14) := ⟨⟨by decide +kernel, by decide +kernel⟩, List.mem_of_getElem? (i := 22) (by decide +kernel), List.mem_of_getElem? (i := 705) (by decide +kernel), List.mem_of_getElem? (i := 706) (by decide +kernel)⟩
theorem lw_p22 : lw_okq (⟨"PaintedOver", "pairsTrouble", "(IIZ)I"⟩, 14) := ⟨⟨by decide +kernel, by decide +kernel⟩, List.mem_of_getElem? (i := 22) (by decide +kernel), List.mem_of_getElem? (i := 725) (by decide +kernel), List.mem_of_getElem? (i := 726) (by decide +kernel)⟩
theorem lw_p23 : lw_okq (⟨"PaintedOver", "forgetPairs", "()V"⟩, 14) := ⟨⟨by decide +kernel, by decide +kernel⟩, List.mem_of_getElem? (i := 22) (by decide +kernel), List.mem_of_getElem? (i := 732) (by decide +kernel), List.mem_of_getElem? (i := 733) (by decide +kernel)⟩
theorem lw_p24 : lw_okq (⟨"PaintedOver", "addPair", "(I)V"⟩, 14) := ⟨⟨by decide +kernel, by decide +kernel⟩, List.mem_of_getElem? (i := 22) (by decide +kernel), List.mem_of_getElem? (i := 736) (by decide +kernel), List.mem_of_getElem? (i := 737) (by decide +kernel)⟩
theorem lw_p25 : lw_okq (⟨"PaintedOver", "countOrders", "()I"⟩, 14) := ⟨⟨by decide +kernel, by decide +kernel⟩, List.mem_of_getElem? (i := 22) (by decide +kernel), List.mem_of_getElem? (i := 740) (by decide +kernel), List.mem_of_getElem? (i := 741) (by decide +kernel)⟩
theorem lw_p26 : lw_okq (⟨"PaintedOver", "mayComeOn", "(II)Z"⟩, 14) := ⟨⟨by decide +kernel, by decide +kernel⟩, List.mem_of_getElem? (i := 22) (by decide +kernel), List.mem_of_getElem? (i := 744) (by decide +kernel), List.mem_of_getElem? (i := 745) (by decide +kernel)⟩
theorem lw_p27 : lw_okq (⟨"PaintedOver", "orderFits", "()Z"⟩, 14) := ⟨⟨by decide +kernel, by decide +kernel⟩, List.mem_of_getElem? (i := 22) (by decide +kernel), List.mem_of_getElem? (i := 749) (by decide +kernel), List.mem_of_getElem? (i := 750) (by decide +kernel)⟩
theorem lw_p28 : lw_okq (⟨"PaintedOver", "lowestOn", "(I)I"⟩, 14) := ⟨⟨by decide +kernel, by decide +kernel⟩, List.mem_of_getElem? (i := 22) (by decide +kernel), List.mem_of_getElem? (i := 753) (by decide +kernel), List.mem_of_getElem? (i := 754) (by decide +kernel)⟩
theorem lw_p29 : lw_okq (⟨"PaintedOver", "inFirstOrder", "(I)I"⟩, 14) := ⟨⟨by decide +kernel, by decide +kernel⟩, List.mem_of_getElem? (i := 22) (by decide +kernel), List.mem_of_getElem? (i := 757) (by decide +kernel), List.mem_of_getElem? (i := 758) (by decide +kernel)⟩
theorem lw_p30 : lw_okq (⟨"PaintedOver$Town", "draw", "(I)I"⟩, 10) := ⟨⟨by decide +kernel, by decide +kernel⟩, List.mem_of_getElem? (i := 138) (by decide +kernel), List.mem_of_getElem? (i := 804) (by decide +kernel), List.mem_of_getElem? (i := 805) (by decide +kernel)⟩
theorem lw_p31 : lw_okq (⟨"PaintedOverModel", "no", "(I)I"⟩, 33) := ⟨⟨by decide +kernel, by decide +kernel⟩, List.mem_of_getElem? (i := 915) (by decide +kernel), List.mem_of_getElem? (i := 1028) (by decide +kernel), List.mem_of_getElem? (i := 1029) (by decide +kernel)⟩
def lw_privs_2 : List (MethodName × Nat) := [(⟨"PaintedOver$Reader", "stands", "(I)Z"⟩, 6), (⟨"PaintedOver$Reader", "isDigit", "(I)Z"⟩, 6), (⟨"PaintedOver$Reader", "readCoat", "()V"⟩, 6), (⟨"PaintedOver$Reader", "readColour", "([II)V"⟩, 6), (⟨"PaintedOver$Reader", "readScratch", "()V"⟩, 6), (⟨"PaintedOver", "cheapest", "(LPaintedOver$Front;I)I"⟩, 14), (⟨"PaintedOver", "pairsTrouble", "(IIZ)I"⟩, 14), (⟨"PaintedOver", "forgetPairs", "()V"⟩, 14), (⟨"PaintedOver", "addPair", "(I)V"⟩, 14), (⟨"PaintedOver", "countOrders", "()I"⟩, 14), (⟨"PaintedOver", "mayComeOn", "(II)Z"⟩, 14), (⟨"PaintedOver", "orderFits", "()Z"⟩, 14), (⟨"PaintedOver", "lowestOn", "(I)I"⟩, 14), (⟨"PaintedOver", "inFirstOrder", "(I)I"⟩, 14), (⟨"PaintedOver$Town", "draw", "(I)I"⟩, 10), (⟨"PaintedOverModel", "no", "(I)I"⟩, 33)]
theorem lw_r2 : ∀ q ∈ lw_privs_2, lw_okq q := List.forall_mem_cons.mpr ⟨lw_p16, List.forall_mem_cons.mpr ⟨lw_p17, List.forall_mem_cons.mpr ⟨lw_p18, List.forall_mem_cons.mpr ⟨lw_p19, List.forall_mem_cons.mpr ⟨lw_p20, List.forall_mem_cons.mpr ⟨lw_p21, List.forall_mem_cons.mpr ⟨lw_p22, List.forall_mem_cons.mpr ⟨lw_p23, List.forall_mem_cons.mpr ⟨lw_p24, List.forall_mem_cons.mpr ⟨lw_p25, List.forall_mem_cons.mpr ⟨lw_p26, List.forall_mem_cons.mpr ⟨lw_p27, List.forall_mem_cons.mpr ⟨lw_p28, List.forall_mem_cons.mpr ⟨lw_p29, List.forall_mem_cons.mpr ⟨lw_p30, List.forall_mem_cons.mpr ⟨lw_p31, fun _ h => absurd h List.not_mem_nil⟩⟩⟩⟩⟩⟩⟩⟩⟩⟩⟩⟩⟩⟩⟩⟩
theorem lw_p32 : lw_okq (⟨"PaintedOverModel", "noRow", "(I)I"⟩, 33) := ⟨⟨by decide +kernel, by decide +kernel⟩, List.mem_of_getElem? (i := 915) (by decide +kernel), List.mem_of_getElem? (i := 1036) (by decide +kernel), List.mem_of_getElem? (i := 1037) (by decide +kernel)⟩
theorem lw_p33 : lw_okq (⟨"PaintedOverModel", "isRow", "(I)Z"⟩, 33) := ⟨⟨by decide +kernel, by decide +kernel⟩, List.mem_of_getElem? (i := 915) (by decide +kernel), List.mem_of_getElem? (i := 1040) (by decide +kernel), List.mem_of_getElem? (i := 1041) (by decide +kernel)⟩
theorem lw_p34 : lw_okq (⟨"PaintedOverModel", "isHouse", "(I)Z"⟩, 33) := ⟨⟨by decide +kernel, by decide +kernel⟩, List.mem_of_getElem? (i := 915) (by decide +kernel), List.mem_of_getElem? (i := 1056) (by decide +kernel), List.mem_of_getElem? (i := 1057) (by decide +kernel)⟩
theorem lw_p35 : lw_okq (⟨"PaintedOverModel", "skinOf", "(I)I"⟩, 33) := ⟨⟨by decide +kernel, by decide +kernel⟩, List.mem_of_getElem? (i := 915) (by decide +kernel), List.mem_of_getElem? (i := 1074) (by decide +kernel), List.mem_of_getElem? (i := 1075) (by decide +kernel)⟩
theorem lw_p36 : lw_okq (⟨"PaintedOverModel", "deepOf", "(II)I"⟩, 33) := ⟨⟨by decide +kernel, by decide +kernel⟩, List.mem_of_getElem? (i := 915) (by decide +kernel), List.mem_of_getElem? (i := 1078) (by decide +kernel), List.mem_of_getElem? (i := 1079) (by decide +kernel)⟩
theorem lw_p37 : lw_okq (⟨"PaintedOverModel", "lies", "(II)I"⟩, 33) := ⟨⟨by decide +kernel, by decide +kernel⟩, List.mem_of_getElem? (i := 915) (by decide +kernel), List.mem_of_getElem? (i := 1082) (by decide +kernel), List.mem_of_getElem? (i := 1083) (by decide +kernel)⟩
theorem lw_p38 : lw_okq (⟨"PaintedOverModel", "sum", "(II)I"⟩, 33) := ⟨⟨by decide +kernel, by decide +kernel⟩, List.mem_of_getElem? (i := 915) (by decide +kernel), List.mem_of_getElem? (i := 1089) (by decide +kernel), List.mem_of_getElem? (i := 1090) (by decide +kernel)⟩
theorem lw_p39 : lw_okq (⟨"PaintedOverModel", "wetOf", "(III)I"⟩, 33) := ⟨⟨by decide +kernel, by decide +kernel⟩, List.mem_of_getElem? (i := 915) (by decide +kernel), List.mem_of_getElem? (i := 1093) (by decide +kernel), List.mem_of_getElem? (i := 1094) (by decide +kernel)⟩
theorem lw_p40 : lw_okq (⟨"PaintedOverModel", "hard", "(III)I"⟩, 33) := ⟨⟨by decide +kernel, by decide +kernel⟩, List.mem_of_getElem? (i := 915) (by decide +kernel), List.mem_of_getElem? (i := 1097) (by decide +kernel), List.mem_of_getElem? (i := 1098) (by decide +kernel)⟩
theorem lw_p41 : lw_okq (⟨"PaintedOverModel", "strength", "(II)I"⟩, 33) := ⟨⟨by decide +kernel, by decide +kernel⟩, List.mem_of_getElem? (i := 915) (by decide +kernel), List.mem_of_getElem? (i := 1102) (by decide +kernel), List.mem_of_getElem? (i := 1103) (by decide +kernel)⟩
theorem lw_p42 : lw_okq (⟨"PaintedOverModel", "newHouse", "(II)I"⟩, 33) := ⟨⟨by decide +kernel, by decide +kernel⟩, List.mem_of_getElem? (i := 915) (by decide +kernel), List.mem_of_getElem? (i := 1110) (by decide +kernel), List.mem_of_getElem? (i := 1111) (by decide +kernel)⟩
theorem lw_p43 : lw_okq (⟨"PaintedOverModel", "bare", "(I)V"⟩, 33) := ⟨⟨by decide +kernel, by decide +kernel⟩, List.mem_of_getElem? (i := 915) (by decide +kernel), List.mem_of_getElem? (i := 1114) (by decide +kernel), List.mem_of_getElem? (i := 1115) (by decide +kernel)⟩
theorem lw_p44 : lw_okq (⟨"PaintedOverModel", "lived", "(I)I"⟩, 33) := ⟨⟨by decide +kernel, by decide +kernel⟩, List.mem_of_getElem? (i := 915) (by decide +kernel), List.mem_of_getElem? (i := 1122) (by decide +kernel), List.mem_of_getElem? (i := 1123) (by decide +kernel)⟩
theorem lw_p45 : lw_okq (⟨"PaintedOverModel", "paints", "(IIIII)I"⟩, 33) := ⟨⟨by decide +kernel, by decide +kernel⟩, List.mem_of_getElem? (i := 915) (by decide +kernel), List.mem_of_getElem? (i := 1141) (by decide +kernel), List.mem_of_getElem? (i := 1142) (by decide +kernel)⟩
theorem lw_p46 : lw_okq (⟨"PaintedOverModel", "isCoat", "(II)Z"⟩, 33) := ⟨⟨by decide +kernel, by decide +kernel⟩, List.mem_of_getElem? (i := 915) (by decide +kernel), List.mem_of_getElem? (i := 1149) (by decide +kernel), List.mem_of_getElem? (i := 1150) (by decide +kernel)⟩
theorem lw_p47 : lw_okq (⟨"PaintedOverModel", "keep", "([I)V"⟩, 33) := ⟨⟨by decide +kernel, by decide +kernel⟩, List.mem_of_getElem? (i := 915) (by decide +kernel), List.mem_of_getElem? (i := 1157) (by decide +kernel), List.mem_of_getElem? (i := 1158) (by decide +kernel)⟩
def lw_privs_3 : List (MethodName × Nat) := [(⟨"PaintedOverModel", "noRow", "(I)I"⟩, 33), (⟨"PaintedOverModel", "isRow", "(I)Z"⟩, 33), (⟨"PaintedOverModel", "isHouse", "(I)Z"⟩, 33), (⟨"PaintedOverModel", "skinOf", "(I)I"⟩, 33), (⟨"PaintedOverModel", "deepOf", "(II)I"⟩, 33), (⟨"PaintedOverModel", "lies", "(II)I"⟩, 33), (⟨"PaintedOverModel", "sum", "(II)I"⟩, 33), (⟨"PaintedOverModel", "wetOf", "(III)I"⟩, 33), (⟨"PaintedOverModel", "hard", "(III)I"⟩, 33), (⟨"PaintedOverModel", "strength", "(II)I"⟩, 33), (⟨"PaintedOverModel", "newHouse", "(II)I"⟩, 33), (⟨"PaintedOverModel", "bare", "(I)V"⟩, 33), (⟨"PaintedOverModel", "lived", "(I)I"⟩, 33), (⟨"PaintedOverModel", "paints", "(IIIII)I"⟩, 33), (⟨"PaintedOverModel", "isCoat", "(II)Z"⟩, 33), (⟨"PaintedOverModel", "keep", "([I)V"⟩, 33)]
theorem lw_r3 : ∀ q ∈ lw_privs_3, lw_okq q := List.forall_mem_cons.mpr ⟨lw_p32, List.forall_mem_cons.mpr ⟨lw_p33, List.forall_mem_cons.mpr ⟨lw_p34, List.forall_mem_cons.mpr ⟨lw_p35, List.forall_mem_cons.mpr ⟨lw_p36, List.forall_mem_cons.mpr ⟨lw_p37, List.forall_mem_cons.mpr ⟨lw_p38, List.forall_mem_cons.mpr ⟨lw_p39, List.forall_mem_cons.mpr ⟨lw_p40, List.forall_mem_cons.mpr ⟨lw_p41, List.forall_mem_cons.mpr ⟨lw_p42, List.forall_mem_cons.mpr ⟨lw_p43, List.forall_mem_cons.mpr ⟨lw_p44, List.forall_mem_cons.mpr ⟨lw_p45, List.forall_mem_cons.mpr ⟨lw_p46, List.forall_mem_cons.mpr ⟨lw_p47, fun _ h => absurd h List.not_mem_nil⟩⟩⟩⟩⟩⟩⟩⟩⟩⟩⟩⟩⟩⟩⟩⟩
theorem lw_p48 : lw_okq (⟨"PaintedOverModel", "item", "()Z"⟩, 33) := ⟨⟨by decide +kernel, by decide +kernel⟩, List.mem_of_getElem? (i := 915) (by decide +kernel), List.mem_of_getElem? (i := 1161) (by decide +kernel), List.mem_of_getElem? (i := 1162) (by decide +kernel)⟩
theorem lw_p49 : lw_okq (⟨"PaintedOverModel", "is", "(C)Z"⟩, 33) := ⟨⟨by decide +kernel, by decide +kernel⟩, List.mem_of_getElem? (i := 915) (by decide +kernel), List.mem_of_getElem? (i := 1165) (by decide +kernel), List.mem_of_getElem? (i := 1166) (by decide +kernel)⟩
theorem lw_p50 : lw_okq (⟨"PaintedOverModel", "sign", "()I"⟩, 33) := ⟨⟨by decide +kernel, by decide +kernel⟩, List.mem_of_getElem? (i := 915) (by decide +kernel), List.mem_of_getElem? (i := 1169) (by decide +kernel), List.mem_of_getElem? (i := 1170) (by decide +kernel)⟩
theorem lw_p51 : lw_okq (⟨"PaintedOverModel", "word", "(Ljava/lang/String;)Z"⟩, 33) := ⟨⟨by decide +kernel, by decide +kernel⟩, List.mem_of_getElem? (i := 915) (by decide +kernel), List.mem_of_getElem? (i := 1174) (by decide +kernel), List.mem_of_getElem? (i := 1175) (by decide +kernel)⟩
theorem lw_p52 : lw_okq (⟨"PaintedOverModel", "number", "(III)Z"⟩, 33) := ⟨⟨by decide +kernel, by decide +kernel⟩, List.mem_of_getElem? (i := 915) (by decide +kernel), List.mem_of_getElem? (i := 1180) (by decide +kernel), List.mem_of_getElem? (i := 1181) (by decide +kernel)⟩
theorem lw_p53 : lw_okq (⟨"PaintedOverModel", "sign", "(I)I"⟩, 33) := ⟨⟨by decide +kernel, by decide +kernel⟩, List.mem_of_getElem? (i := 915) (by decide +kernel), List.mem_of_getElem? (i := 1184) (by decide +kernel), List.mem_of_getElem? (i := 1185) (by decide +kernel)⟩
theorem lw_p54 : lw_okq (⟨"PaintedOverModel", "hailAll", "(I)I"⟩, 33) := ⟨⟨by decide +kernel, by decide +kernel⟩, List.mem_of_getElem? (i := 915) (by decide +kernel), List.mem_of_getElem? (i := 1200) (by decide +kernel), List.mem_of_getElem? (i := 1201) (by decide +kernel)⟩
theorem lw_p55 : lw_okq (⟨"PaintedOverModel", "behind", "(III)I"⟩, 33) := ⟨⟨by decide +kernel, by decide +kernel⟩, List.mem_of_getElem? (i := 915) (by decide +kernel), List.mem_of_getElem? (i := 1204) (by decide +kernel), List.mem_of_getElem? (i := 1205) (by decide +kernel)⟩
theorem lw_p56 : lw_okq (⟨"PaintedOverModel", "again", "([I)V"⟩, 33) := ⟨⟨by decide +kernel, by decide +kernel⟩, List.mem_of_getElem? (i := 915) (by decide +kernel), List.mem_of_getElem? (i := 1211) (by decide +kernel), List.mem_of_getElem? (i := 1212) (by decide +kernel)⟩
theorem lw_p57 : lw_okq (⟨"PaintedOverModel", "no10", "(I)I"⟩, 33) := ⟨⟨by decide +kernel, by decide +kernel⟩, List.mem_of_getElem? (i := 915) (by decide +kernel), List.mem_of_getElem? (i := 1223) (by decide +kernel), List.mem_of_getElem? (i := 1224) (by decide +kernel)⟩
theorem lw_p58 : lw_okq (⟨"PaintedOverModel", "seenAt", "(III)I"⟩, 33) := ⟨⟨by decide +kernel, by decide +kernel⟩, List.mem_of_getElem? (i := 915) (by decide +kernel), List.mem_of_getElem? (i := 1230) (by decide +kernel), List.mem_of_getElem? (i := 1231) (by decide +kernel)⟩
theorem lw_p59 : lw_okq (⟨"PaintedOverModel", "seenIn", "(III)I"⟩, 33) := ⟨⟨by decide +kernel, by decide +kernel⟩, List.mem_of_getElem? (i := 915) (by decide +kernel), List.mem_of_getElem? (i := 1234) (by decide +kernel), List.mem_of_getElem? (i := 1235) (by decide +kernel)⟩
theorem lw_p60 : lw_okq (⟨"PaintedOverModel", "seenAll", "(II)I"⟩, 33) := ⟨⟨by decide +kernel, by decide +kernel⟩, List.mem_of_getElem? (i := 915) (by decide +kernel), List.mem_of_getElem? (i := 1262) (by decide +kernel), List.mem_of_getElem? (i := 1263) (by decide +kernel)⟩
theorem lw_p61 : lw_okq (⟨"PaintedOverModel", "noPairs", "(IIZ)I"⟩, 33) := ⟨⟨by decide +kernel, by decide +kernel⟩, List.mem_of_getElem? (i := 915) (by decide +kernel), List.mem_of_getElem? (i := 1290) (by decide +kernel), List.mem_of_getElem? (i := 1291) (by decide +kernel)⟩
theorem lw_p62 : lw_okq (⟨"PaintedOverModel", "pairs", "(II)V"⟩, 33) := ⟨⟨by decide +kernel, by decide +kernel⟩, List.mem_of_getElem? (i := 915) (by decide +kernel), List.mem_of_getElem? (i := 1294) (by decide +kernel), List.mem_of_getElem? (i := 1295) (by decide +kernel)⟩
theorem lw_p63 : lw_okq (⟨"PaintedOverModel", "ordersFrom", "(I)I"⟩, 33) := ⟨⟨by decide +kernel, by decide +kernel⟩, List.mem_of_getElem? (i := 915) (by decide +kernel), List.mem_of_getElem? (i := 1298) (by decide +kernel), List.mem_of_getElem? (i := 1299) (by decide +kernel)⟩
def lw_privs_4 : List (MethodName × Nat) := [(⟨"PaintedOverModel", "item", "()Z"⟩, 33), (⟨"PaintedOverModel", "is", "(C)Z"⟩, 33), (⟨"PaintedOverModel", "sign", "()I"⟩, 33), (⟨"PaintedOverModel", "word", "(Ljava/lang/String;)Z"⟩, 33), (⟨"PaintedOverModel", "number", "(III)Z"⟩, 33), (⟨"PaintedOverModel", "sign", "(I)I"⟩, 33), (⟨"PaintedOverModel", "hailAll", "(I)I"⟩, 33), (⟨"PaintedOverModel", "behind", "(III)I"⟩, 33), (⟨"PaintedOverModel", "again", "([I)V"⟩, 33), (⟨"PaintedOverModel", "no10", "(I)I"⟩, 33), (⟨"PaintedOverModel", "seenAt", "(III)I"⟩, 33), (⟨"PaintedOverModel", "seenIn", "(III)I"⟩, 33), (⟨"PaintedOverModel", "seenAll", "(II)I"⟩, 33), (⟨"PaintedOverModel", "noPairs", "(IIZ)I"⟩, 33), (⟨"PaintedOverModel", "pairs", "(II)V"⟩, 33), (⟨"PaintedOverModel", "ordersFrom", "(I)I"⟩, 33)]
theorem lw_r4 : ∀ q ∈ lw_privs_4, lw_okq q := List.forall_mem_cons.mpr ⟨lw_p48, List.forall_mem_cons.mpr ⟨lw_p49, List.forall_mem_cons.mpr ⟨lw_p50, List.forall_mem_cons.mpr ⟨lw_p51, List.forall_mem_cons.mpr ⟨lw_p52, List.forall_mem_cons.mpr ⟨lw_p53, List.forall_mem_cons.mpr ⟨lw_p54, List.forall_mem_cons.mpr ⟨lw_p55, List.forall_mem_cons.mpr ⟨lw_p56, List.forall_mem_cons.mpr ⟨lw_p57, List.forall_mem_cons.mpr ⟨lw_p58, List.forall_mem_cons.mpr ⟨lw_p59, List.forall_mem_cons.mpr ⟨lw_p60, List.forall_mem_cons.mpr ⟨lw_p61, List.forall_mem_cons.mpr ⟨lw_p62, List.forall_mem_cons.mpr ⟨lw_p63, fun _ h => absurd h List.not_mem_nil⟩⟩⟩⟩⟩⟩⟩⟩⟩⟩⟩⟩⟩⟩⟩⟩
theorem lw_p64 : lw_okq (⟨"PaintedOverModel", "deepest", "(I)I"⟩, 33) := ⟨⟨by decide +kernel, by decide +kernel⟩, List.mem_of_getElem? (i := 915) (by decide +kernel), List.mem_of_getElem? (i := 1310) (by decide +kernel), List.mem_of_getElem? (i := 1311) (by decide +kernel)⟩
theorem lw_p65 : lw_okq (⟨"PaintedOverModel", "fall", "()I"⟩, 33) := ⟨⟨by decide +kernel, by decide +kernel⟩, List.mem_of_getElem? (i := 915) (by decide +kernel), List.mem_of_getElem? (i := 1330) (by decide +kernel), List.mem_of_getElem? (i := 1331) (by decide +kernel)⟩
theorem lw_p66 : lw_okq (⟨"PaintedOverModel", "draw", "(I)I"⟩, 33) := ⟨⟨by decide +kernel, by decide +kernel⟩, List.mem_of_getElem? (i := 915) (by decide +kernel), List.mem_of_getElem? (i := 1338) (by decide +kernel), List.mem_of_getElem? (i := 1339) (by decide +kernel)⟩
theorem lw_p67 : lw_okq (⟨"PaintedOverModel", "paintsAct", "(II)I"⟩, 33) := ⟨⟨by decide +kernel, by decide +kernel⟩, List.mem_of_getElem? (i := 915) (by decide +kernel), List.mem_of_getElem? (i := 1351) (by decide +kernel), List.mem_of_getElem? (i := 1352) (by decide +kernel)⟩
theorem lw_p68 : lw_okq (⟨"PaintedOverModel", "ran", "(I)V"⟩, 33) := ⟨⟨by decide +kernel, by decide +kernel⟩, List.mem_of_getElem? (i := 915) (by decide +kernel), List.mem_of_getElem? (i := 1355) (by decide +kernel), List.mem_of_getElem? (i := 1356) (by decide +kernel)⟩
theorem lw_p69 : lw_okq (⟨"PaintedOverModel", "peels", "(II)I"⟩, 33) := ⟨⟨by decide +kernel, by decide +kernel⟩, List.mem_of_getElem? (i := 915) (by decide +kernel), List.mem_of_getElem? (i := 1359) (by decide +kernel), List.mem_of_getElem? (i := 1360) (by decide +kernel)⟩
theorem lw_p70 : lw_okq (⟨"PaintedOverModel", "fallsAct", "(II)I"⟩, 33) := ⟨⟨by decide +kernel, by decide +kernel⟩, List.mem_of_getElem? (i := 915) (by decide +kernel), List.mem_of_getElem? (i := 1363) (by decide +kernel), List.mem_of_getElem? (i := 1364) (by decide +kernel)⟩
def lw_privs_5 : List (MethodName × Nat) := [(⟨"PaintedOverModel", "deepest", "(I)I"⟩, 33), (⟨"PaintedOverModel", "fall", "()I"⟩, 33), (⟨"PaintedOverModel", "draw", "(I)I"⟩, 33), (⟨"PaintedOverModel", "paintsAct", "(II)I"⟩, 33), (⟨"PaintedOverModel", "ran", "(I)V"⟩, 33), (⟨"PaintedOverModel", "peels", "(II)I"⟩, 33), (⟨"PaintedOverModel", "fallsAct", "(II)I"⟩, 33)]
theorem lw_r5 : ∀ q ∈ lw_privs_5, lw_okq q := List.forall_mem_cons.mpr ⟨lw_p64, List.forall_mem_cons.mpr ⟨lw_p65, List.forall_mem_cons.mpr ⟨lw_p66, List.forall_mem_cons.mpr ⟨lw_p67, List.forall_mem_cons.mpr ⟨lw_p68, List.forall_mem_cons.mpr ⟨lw_p69, List.forall_mem_cons.mpr ⟨lw_p70, fun _ h => absurd h List.not_mem_nil⟩⟩⟩⟩⟩⟩⟩
def lw_privs : List (MethodName × Nat) := lw_privs_1 ++ (lw_privs_2 ++ (lw_privs_3 ++ (lw_privs_4 ++ (lw_privs_5))))
def lw_tbl : List Cond := k2_sels lw_privs ++ tables_1
theorem lw_privs_ok : ∀ q ∈ lw_privs, lw_okq q := by
  show ∀ q ∈ lw_privs_1 ++ (lw_privs_2 ++ (lw_privs_3 ++ (lw_privs_4 ++ (lw_privs_5)))), lw_okq q
  exact List.forall_mem_append.mpr ⟨lw_r1, List.forall_mem_append.mpr ⟨lw_r2, List.forall_mem_append.mpr ⟨lw_r3, List.forall_mem_append.mpr ⟨lw_r4, lw_r5⟩⟩⟩⟩
-- ===== end of PART A; then your names; then what follows =====
def RX0 : String := "PaintedOver$Bare"
def TX0 : u_T := fun k => match k with
  | _ => ("", "", "", false)
def tyX0 : Nat → FieldType := fun k => match k with
  | _ => .int
theorem nmX0 : ∀ a, a < 0 → ∀ b, b < 0 → a ≠ b → (TX0 a).2.1 ≠ (TX0 b).2.1 := by decide +kernel
theorem tyX0_ok : ∀ k, k < 0 → parseFieldDescriptor (TX0 k).2.2.1 = some (tyX0 k) := by decide +kernel
abbrev cX0_init : ByteArray := prog_2_method_1_code
def yX0_init : MethodName := ⟨RX0, "<init>", "()V"⟩
abbrev cX0_hardness : ByteArray := prog_2_method_2_code
def yX0_hardness : MethodName := ⟨RX0, "hardness", "(III)I"⟩
abbrev cX0_actPaints : ByteArray := prog_2_method_3_code
def yX0_actPaints : MethodName := ⟨RX0, "actPaints", "(LPaintedOver$Trace;I)I"⟩
abbrev cX0_actPeels : ByteArray := prog_2_method_4_code
def yX0_actPeels : MethodName := ⟨RX0, "actPeels", "(LPaintedOver$Trace;I)I"⟩
def RX1 : String := "PaintedOver$Cellar"
def TX1 : u_T := fun k => match k with
  | _ => ("", "", "", false)
def tyX1 : Nat → FieldType := fun k => match k with
  | _ => .int
theorem nmX1 : ∀ a, a < 0 → ∀ b, b < 0 → a ≠ b → (TX1 a).2.1 ≠ (TX1 b).2.1 := by decide +kernel
theorem tyX1_ok : ∀ k, k < 0 → parseFieldDescriptor (TX1 k).2.2.1 = some (tyX1 k) := by decide +kernel
abbrev cX1_init : ByteArray := prog_3_method_1_code
def yX1_init : MethodName := ⟨RX1, "<init>", "()V"⟩
abbrev cX1_wetness : ByteArray := prog_3_method_2_code
def yX1_wetness : MethodName := ⟨RX1, "wetness", "(III)I"⟩
abbrev cX1_actPeels : ByteArray := prog_3_method_3_code
def yX1_actPeels : MethodName := ⟨RX1, "actPeels", "(LPaintedOver$Trace;I)I"⟩
def RX2 : String := "PaintedOver$Damp"
def TX2 : u_T := fun k => match k with
  | _ => ("", "", "", false)
def tyX2 : Nat → FieldType := fun k => match k with
  | _ => .int
theorem nmX2 : ∀ a, a < 0 → ∀ b, b < 0 → a ≠ b → (TX2 a).2.1 ≠ (TX2 b).2.1 := by decide +kernel
theorem tyX2_ok : ∀ k, k < 0 → parseFieldDescriptor (TX2 k).2.2.1 = some (tyX2 k) := by decide +kernel
abbrev cX2_init : ByteArray := prog_4_method_1_code
def yX2_init : MethodName := ⟨RX2, "<init>", "()V"⟩
abbrev cX2_wetness : ByteArray := prog_4_method_2_code
def yX2_wetness : MethodName := ⟨RX2, "wetness", "(III)I"⟩
abbrev cX2_actPaints : ByteArray := prog_4_method_3_code
def yX2_actPaints : MethodName := ⟨RX2, "actPaints", "(LPaintedOver$Trace;I)I"⟩
def RX3 : String := "PaintedOver$Front"
def TX3 : u_T := fun k => match k with
  | 0 => ("PaintedOver$Front", "kind", "LPaintedOver$Kind;", false)
  | 1 => ("PaintedOver$Front", "kindNumber", "I", false)
  | 2 => ("PaintedOver$Front", "a", "I", false)
  | 3 => ("PaintedOver$Front", "coats", "I", false)
  | 4 => ("PaintedOver$Front", "tenant", "[I", true)
  | 5 => ("PaintedOver$Front", "colour", "[I", true)
  | 6 => ("PaintedOver$Front", "thick", "[I", true)
  | 7 => ("PaintedOver$Front", "gap", "[I", true)
  | 8 => ("PaintedOver$Front", "year", "[I", true)
  | _ => ("PaintedOver$Front", "gone", "[I", true)
def tyX3 : Nat → FieldType := fun k => match k with
  | 0 => .object "PaintedOver$Kind"
  | 1 => .int
  | 2 => .int
  | 3 => .int
  | 4 => .array .int
  | 5 => .array .int
  | 6 => .array .int
  | 7 => .array .int
  | 8 => .array .int
  | _ => .array .int
theorem nmX3 : ∀ a, a < 10 → ∀ b, b < 10 → a ≠ b → (TX3 a).2.1 ≠ (TX3 b).2.1 := by decide +kernel
theorem tyX3_ok : ∀ k, k < 10 → parseFieldDescriptor (TX3 k).2.2.1 = some (tyX3 k) := by decide +kernel
abbrev cX3_init : ByteArray := prog_5_method_1_code
def yX3_init : MethodName := ⟨RX3, "<init>", "(LPaintedOver$Kind;)V"⟩
abbrev cX3_become : ByteArray := prog_5_method_2_code
def yX3_become : MethodName := ⟨RX3, "become", "(LPaintedOver$Front;)V"⟩
abbrev cX3_clear : ByteArray := prog_5_method_3_code
def yX3_clear : MethodName := ⟨RX3, "clear", "()V"⟩
abbrev cX3_putOn : ByteArray := prog_5_method_4_code
def yX3_putOn : MethodName := ⟨RX3, "putOn", "(IIIII)I"⟩
abbrev cX3_lies : ByteArray := prog_5_method_5_code
def yX3_lies : MethodName := ⟨RX3, "lies", "(II)Z"⟩
abbrev cX3_lyingIn : ByteArray := prog_5_method_6_code
def yX3_lyingIn : MethodName := ⟨RX3, "lyingIn", "(I)I"⟩
abbrev cX3_cellsOf : ByteArray := prog_5_method_7_code
def yX3_cellsOf : MethodName := ⟨RX3, "cellsOf", "(I)I"⟩
abbrev cX3_depthFrom : ByteArray := prog_5_method_8_code
def yX3_depthFrom : MethodName := ⟨RX3, "depthFrom", "(II)I"⟩
abbrev cX3_depth : ByteArray := prog_5_method_9_code
def yX3_depth : MethodName := ⟨RX3, "depth", "(I)I"⟩
abbrev cX3_greatestDepth : ByteArray := prog_5_method_10_code
def yX3_greatestDepth : MethodName := ⟨RX3, "greatestDepth", "()I"⟩
abbrev cX3_wholeSkin : ByteArray := prog_5_method_11_code
def yX3_wholeSkin : MethodName := ⟨RX3, "wholeSkin", "()I"⟩
abbrev cX3_lived : ByteArray := prog_5_method_12_code
def yX3_lived : MethodName := ⟨RX3, "lived", "()I"⟩
abbrev cX3_coatsOf : ByteArray := prog_5_method_13_code
def yX3_coatsOf : MethodName := ⟨RX3, "coatsOf", "(I)I"⟩
abbrev cX3_wetness : ByteArray := prog_5_method_14_code
def yX3_wetness : MethodName := ⟨RX3, "wetness", "(II)I"⟩
abbrev cX3_hardness : ByteArray := prog_5_method_15_code
def yX3_hardness : MethodName := ⟨RX3, "hardness", "(II)I"⟩
abbrev cX3_wettestBut : ByteArray := prog_5_method_16_code
def yX3_wettestBut : MethodName := ⟨RX3, "wettestBut", "(II)I"⟩
abbrev cX3_behindHail : ByteArray := prog_5_method_17_code
def yX3_behindHail : MethodName := ⟨RX3, "behindHail", "(II)I"⟩
abbrev cX3_hailInTruth : ByteArray := prog_5_method_18_code
def yX3_hailInTruth : MethodName := ⟨RX3, "hailInTruth", "(II)I"⟩
abbrev cX3_takeUppermost : ByteArray := prog_5_method_19_code
def yX3_takeUppermost : MethodName := ⟨RX3, "takeUppermost", "(I)I"⟩
def RX4 : String := "PaintedOver$Kind"
def TX4 : u_T := fun k => match k with
  | _ => ("", "", "", false)
def tyX4 : Nat → FieldType := fun k => match k with
  | _ => .int
theorem nmX4 : ∀ a, a < 0 → ∀ b, b < 0 → a ≠ b → (TX4 a).2.1 ≠ (TX4 b).2.1 := by decide +kernel
theorem tyX4_ok : ∀ k, k < 0 → parseFieldDescriptor (TX4 k).2.2.1 = some (tyX4 k) := by decide +kernel
abbrev cX4_init : ByteArray := prog_6_method_1_code
def yX4_init : MethodName := ⟨RX4, "<init>", "()V"⟩
abbrev cX4_wetness : ByteArray := prog_6_method_2_code
def yX4_wetness : MethodName := ⟨RX4, "wetness", "(III)I"⟩
abbrev cX4_hardness : ByteArray := prog_6_method_3_code
def yX4_hardness : MethodName := ⟨RX4, "hardness", "(III)I"⟩
abbrev cX4_counted : ByteArray := prog_6_method_4_code
def yX4_counted : MethodName := ⟨RX4, "counted", "(I)I"⟩
abbrev cX4_actPaints : ByteArray := prog_6_method_5_code
def yX4_actPaints : MethodName := ⟨RX4, "actPaints", "(LPaintedOver$Trace;I)I"⟩
abbrev cX4_actPeels : ByteArray := prog_6_method_6_code
def yX4_actPeels : MethodName := ⟨RX4, "actPeels", "(LPaintedOver$Trace;I)I"⟩
abbrev cX4_actFalls : ByteArray := prog_6_method_7_code
def yX4_actFalls : MethodName := ⟨RX4, "actFalls", "(LPaintedOver$Trace;I)I"⟩
def RX5 : String := "PaintedOver$Limed"
def TX5 : u_T := fun k => match k with
  | _ => ("", "", "", false)
def tyX5 : Nat → FieldType := fun k => match k with
  | _ => .int
theorem nmX5 : ∀ a, a < 0 → ∀ b, b < 0 → a ≠ b → (TX5 a).2.1 ≠ (TX5 b).2.1 := by decide +kernel
theorem tyX5_ok : ∀ k, k < 0 → parseFieldDescriptor (TX5 k).2.2.1 = some (tyX5 k) := by decide +kernel
abbrev cX5_init : ByteArray := prog_7_method_1_code
def yX5_init : MethodName := ⟨RX5, "<init>", "()V"⟩
abbrev cX5_hardness : ByteArray := prog_7_method_2_code
def yX5_hardness : MethodName := ⟨RX5, "hardness", "(III)I"⟩
abbrev cX5_actPeels : ByteArray := prog_7_method_3_code
def yX5_actPeels : MethodName := ⟨RX5, "actPeels", "(LPaintedOver$Trace;I)I"⟩
def RX6 : String := "PaintedOver$Reader"
def TX6 : u_T := fun k => match k with
  | 0 => ("PaintedOver$Reader", "town", "LPaintedOver$Town;", false)
  | 1 => ("PaintedOver$Reader", "row", "[J", false)
  | 2 => ("PaintedOver$Reader", "size", "I", false)
  | 3 => ("PaintedOver$Reader", "at", "I", false)
  | 4 => ("PaintedOver$Reader", "numberAt", "I", false)
  | _ => ("PaintedOver$Reader", "fault", "I", false)
def tyX6 : Nat → FieldType := fun k => match k with
  | 0 => .object "PaintedOver$Town"
  | 1 => .array .long
  | 2 => .int
  | 3 => .int
  | 4 => .int
  | _ => .int
theorem nmX6 : ∀ a, a < 6 → ∀ b, b < 6 → a ≠ b → (TX6 a).2.1 ≠ (TX6 b).2.1 := by decide +kernel
theorem tyX6_ok : ∀ k, k < 6 → parseFieldDescriptor (TX6 k).2.2.1 = some (tyX6 k) := by decide +kernel
abbrev cX6_init : ByteArray := prog_8_method_1_code
def yX6_init : MethodName := ⟨RX6, "<init>", "()V"⟩
abbrev cX6_readAll : ByteArray := prog_8_method_2_code
def yX6_readAll : MethodName := ⟨RX6, "readAll", "(LPaintedOver$Town;[JI)I"⟩
abbrev cX6_readItem : ByteArray := prog_8_method_3_code
def yX6_readItem : MethodName := ⟨RX6, "readItem", "()V"⟩
abbrev cX6_word : ByteArray := prog_8_method_4_code
def yX6_word : MethodName := ⟨RX6, "word", "(I)Ljava/lang/String;"⟩
abbrev cX6_readWord : ByteArray := prog_8_method_5_code
def yX6_readWord : MethodName := ⟨RX6, "readWord", "()I"⟩
abbrev cX6_sameLetters : ByteArray := prog_8_method_6_code
def yX6_sameLetters : MethodName := ⟨RX6, "sameLetters", "(Ljava/lang/String;)I"⟩
abbrev cX6_readHouse : ByteArray := prog_8_method_7_code
def yX6_readHouse : MethodName := ⟨RX6, "readHouse", "(I)V"⟩
abbrev cX6_readCoat : ByteArray := prog_8_method_8_code
def yX6_readCoat : MethodName := ⟨RX6, "readCoat", "()V"⟩
abbrev cX6_readColour : ByteArray := prog_8_method_9_code
def yX6_readColour : MethodName := ⟨RX6, "readColour", "([II)V"⟩
abbrev cX6_readScratch : ByteArray := prog_8_method_10_code
def yX6_readScratch : MethodName := ⟨RX6, "readScratch", "()V"⟩
abbrev cX6_readNumber : ByteArray := prog_8_method_11_code
def yX6_readNumber : MethodName := ⟨RX6, "readNumber", "(II)I"⟩
abbrev cX6_stands : ByteArray := prog_8_method_12_code
def yX6_stands : MethodName := ⟨RX6, "stands", "(I)Z"⟩
abbrev cX6_isDigit : ByteArray := prog_8_method_13_code
def yX6_isDigit : MethodName := ⟨RX6, "isDigit", "(I)Z"⟩
abbrev cX6_elementAt : ByteArray := prog_8_method_14_code
def yX6_elementAt : MethodName := ⟨RX6, "elementAt", "(I)I"⟩
def RX7 : String := "PaintedOver$South"
def TX7 : u_T := fun k => match k with
  | _ => ("", "", "", false)
def tyX7 : Nat → FieldType := fun k => match k with
  | _ => .int
theorem nmX7 : ∀ a, a < 0 → ∀ b, b < 0 → a ≠ b → (TX7 a).2.1 ≠ (TX7 b).2.1 := by decide +kernel
theorem tyX7_ok : ∀ k, k < 0 → parseFieldDescriptor (TX7 k).2.2.1 = some (tyX7 k) := by decide +kernel
abbrev cX7_init : ByteArray := prog_9_method_1_code
def yX7_init : MethodName := ⟨RX7, "<init>", "()V"⟩
abbrev cX7_counted : ByteArray := prog_9_method_2_code
def yX7_counted : MethodName := ⟨RX7, "counted", "(I)I"⟩
abbrev cX7_actFalls : ByteArray := prog_9_method_3_code
def yX7_actFalls : MethodName := ⟨RX7, "actFalls", "(LPaintedOver$Trace;I)I"⟩
abbrev cX7_actPaints : ByteArray := prog_9_method_4_code
def yX7_actPaints : MethodName := ⟨RX7, "actPaints", "(LPaintedOver$Trace;I)I"⟩
def RX8 : String := "PaintedOver$Tiled"
def TX8 : u_T := fun k => match k with
  | _ => ("", "", "", false)
def tyX8 : Nat → FieldType := fun k => match k with
  | _ => .int
theorem nmX8 : ∀ a, a < 0 → ∀ b, b < 0 → a ≠ b → (TX8 a).2.1 ≠ (TX8 b).2.1 := by decide +kernel
theorem tyX8_ok : ∀ k, k < 0 → parseFieldDescriptor (TX8 k).2.2.1 = some (tyX8 k) := by decide +kernel
abbrev cX8_init : ByteArray := prog_10_method_1_code
def yX8_init : MethodName := ⟨RX8, "<init>", "()V"⟩
abbrev cX8_hardness : ByteArray := prog_10_method_2_code
def yX8_hardness : MethodName := ⟨RX8, "hardness", "(III)I"⟩
abbrev cX8_actFalls : ByteArray := prog_10_method_3_code
def yX8_actFalls : MethodName := ⟨RX8, "actFalls", "(LPaintedOver$Trace;I)I"⟩
def RX9 : String := "PaintedOver$Town"
def TX9 : u_T := fun k => match k with
  | 0 => ("PaintedOver$Town", "kinds", "[LPaintedOver$Kind;", true)
  | 1 => ("PaintedOver$Town", "fronts", "[LPaintedOver$Front;", true)
  | 2 => ("PaintedOver$Town", "houses", "I", false)
  | 3 => ("PaintedOver$Town", "hides", "[I", true)
  | 4 => ("PaintedOver$Town", "costs", "[I", true)
  | 5 => ("PaintedOver$Town", "limit", "I", false)
  | 6 => ("PaintedOver$Town", "wide", "I", false)
  | 7 => ("PaintedOver$Town", "year", "I", false)
  | 8 => ("PaintedOver$Town", "fallen", "I", false)
  | _ => ("PaintedOver$Town", "seed", "I", false)
def tyX9 : Nat → FieldType := fun k => match k with
  | 0 => .array (.object "PaintedOver$Kind")
  | 1 => .array (.object "PaintedOver$Front")
  | 2 => .int
  | 3 => .array .int
  | 4 => .array .int
  | 5 => .int
  | 6 => .int
  | 7 => .int
  | 8 => .int
  | _ => .int
theorem nmX9 : ∀ a, a < 10 → ∀ b, b < 10 → a ≠ b → (TX9 a).2.1 ≠ (TX9 b).2.1 := by decide +kernel
theorem tyX9_ok : ∀ k, k < 10 → parseFieldDescriptor (TX9 k).2.2.1 = some (tyX9 k) := by decide +kernel
abbrev cX9_init : ByteArray := prog_11_method_1_code
def yX9_init : MethodName := ⟨RX9, "<init>", "([LPaintedOver$Kind;)V"⟩
abbrev cX9_become : ByteArray := prog_11_method_2_code
def yX9_become : MethodName := ⟨RX9, "become", "(LPaintedOver$Town;)V"⟩
abbrev cX9_build : ByteArray := prog_11_method_3_code
def yX9_build : MethodName := ⟨RX9, "build", "(II)I"⟩
abbrev cX9_coatsInAll : ByteArray := prog_11_method_4_code
def yX9_coatsInAll : MethodName := ⟨RX9, "coatsInAll", "()I"⟩
abbrev cX9_strength : ByteArray := prog_11_method_5_code
def yX9_strength : MethodName := ⟨RX9, "strength", "(LPaintedOver$Front;II)I"⟩
abbrev cX9_seenAmong : ByteArray := prog_11_method_6_code
def yX9_seenAmong : MethodName := ⟨RX9, "seenAmong", "(LPaintedOver$Front;III)I"⟩
abbrev cX9_seenSomewhere : ByteArray := prog_11_method_7_code
def yX9_seenSomewhere : MethodName := ⟨RX9, "seenSomewhere", "(LPaintedOver$Front;I)I"⟩
abbrev cX9_hailOnAll : ByteArray := prog_11_method_8_code
def yX9_hailOnAll : MethodName := ⟨RX9, "hailOnAll", "(I)I"⟩
abbrev cX9_letFall : ByteArray := prog_11_method_9_code
def yX9_letFall : MethodName := ⟨RX9, "letFall", "()I"⟩
abbrev cX9_draw : ByteArray := prog_11_method_10_code
def yX9_draw : MethodName := ⟨RX9, "draw", "(I)I"⟩
abbrev cX9_passYear : ByteArray := prog_11_method_11_code
def yX9_passYear : MethodName := ⟨RX9, "passYear", "()V"⟩
def RX10 : String := "PaintedOver$Trace"
def TX10 : u_T := fun k => match k with
  | 0 => ("PaintedOver$Trace", "m", "I", false)
  | 1 => ("PaintedOver$Trace", "k", "I", false)
  | 2 => ("PaintedOver$Trace", "ran", "I", false)
  | _ => ("PaintedOver$Trace", "bodies", "[I", true)
def tyX10 : Nat → FieldType := fun k => match k with
  | 0 => .int
  | 1 => .int
  | 2 => .int
  | _ => .array .int
theorem nmX10 : ∀ a, a < 4 → ∀ b, b < 4 → a ≠ b → (TX10 a).2.1 ≠ (TX10 b).2.1 := by decide +kernel
theorem tyX10_ok : ∀ k, k < 4 → parseFieldDescriptor (TX10 k).2.2.1 = some (tyX10 k) := by decide +kernel
abbrev cX10_init : ByteArray := prog_12_method_1_code
def yX10_init : MethodName := ⟨RX10, "<init>", "()V"⟩
abbrev cX10_begin : ByteArray := prog_12_method_2_code
def yX10_begin : MethodName := ⟨RX10, "begin", "(I)V"⟩
def RX11 : String := "PaintedOver"
def TX11 : u_T := fun k => match k with
  | 0 => ("PaintedOver", "held", "[I", true)
  | 1 => ("PaintedOver", "sizes", "[I", true)
  | 2 => ("PaintedOver", "elements", "[[J", true)
  | 3 => ("PaintedOver", "refusals", "[I", true)
  | 4 => ("PaintedOver", "named", "I", false)
  | 5 => ("PaintedOver", "beneath", "[I", true)
  | 6 => ("PaintedOver", "ways", "[I", true)
  | 7 => ("PaintedOver", "now", "LPaintedOver$Town;", false)
  | 8 => ("PaintedOver", "draft", "LPaintedOver$Town;", false)
  | 9 => ("PaintedOver", "kept", "LPaintedOver$Town;", true)
  | 10 => ("PaintedOver", "isKept", "Z", false)
  | 11 => ("PaintedOver", "reader", "LPaintedOver$Reader;", true)
  | 12 => ("PaintedOver", "latestFault", "I", false)
  | _ => ("PaintedOver", "latest", "LPaintedOver$Trace;", true)
def tyX11 : Nat → FieldType := fun k => match k with
  | 0 => .array .int
  | 1 => .array .int
  | 2 => .array (.array .long)
  | 3 => .array .int
  | 4 => .int
  | 5 => .array .int
  | 6 => .array .int
  | 7 => .object "PaintedOver$Town"
  | 8 => .object "PaintedOver$Town"
  | 9 => .object "PaintedOver$Town"
  | 10 => .boolean
  | 11 => .object "PaintedOver$Reader"
  | 12 => .int
  | _ => .object "PaintedOver$Trace"
theorem nmX11 : ∀ a, a < 14 → ∀ b, b < 14 → a ≠ b → (TX11 a).2.1 ≠ (TX11 b).2.1 := by decide +kernel
theorem tyX11_ok : ∀ k, k < 14 → parseFieldDescriptor (TX11 k).2.2.1 = some (tyX11 k) := by decide +kernel
abbrev cX11_init : ByteArray := prog_1_method_1_code
def yX11_init : MethodName := ⟨RX11, "<init>", "()V"⟩
abbrev cX11_row : ByteArray := prog_1_method_2_code
def yX11_row : MethodName := ⟨RX11, "row", "(III)I"⟩
abbrev cX11_set : ByteArray := prog_1_method_3_code
def yX11_set : MethodName := ⟨RX11, "set", "(IIJ)I"⟩
abbrev cX11_copy : ByteArray := prog_1_method_4_code
def yX11_copy : MethodName := ⟨RX11, "copy", "(IIIII)I"⟩
abbrev cX11_element : ByteArray := prog_1_method_5_code
def yX11_element : MethodName := ⟨RX11, "element", "(II)J"⟩
abbrev cX11_show : ByteArray := prog_1_method_6_code
def yX11_show : MethodName := ⟨RX11, "show", "(II)I"⟩
abbrev cX11_holds : ByteArray := prog_1_method_7_code
def yX11_holds : MethodName := ⟨RX11, "holds", "(I)I"⟩
abbrev cX11_says : ByteArray := prog_1_method_8_code
def yX11_says : MethodName := ⟨RX11, "says", "(II)I"⟩
abbrev cX11_house : ByteArray := prog_1_method_9_code
def yX11_house : MethodName := ⟨RX11, "house", "(II)I"⟩
abbrev cX11_houseOf : ByteArray := prog_1_method_10_code
def yX11_houseOf : MethodName := ⟨RX11, "houseOf", "(II)I"⟩
abbrev cX11_colour : ByteArray := prog_1_method_11_code
def yX11_colour : MethodName := ⟨RX11, "colour", "(III)I"⟩
abbrev cX11_ask : ByteArray := prog_1_method_12_code
def yX11_ask : MethodName := ⟨RX11, "ask", "(II)I"⟩
abbrev cX11_coat : ByteArray := prog_1_method_13_code
def yX11_coat : MethodName := ⟨RX11, "coat", "(IIIII)I"⟩
abbrev cX11_coatOf : ByteArray := prog_1_method_14_code
def yX11_coatOf : MethodName := ⟨RX11, "coatOf", "(III)I"⟩
abbrev cX11_street : ByteArray := prog_1_method_15_code
def yX11_street : MethodName := ⟨RX11, "street", "(I)I"⟩
abbrev cX11_fault : ByteArray := prog_1_method_16_code
def yX11_fault : MethodName := ⟨RX11, "fault", "()I"⟩
abbrev cX11_seen : ByteArray := prog_1_method_17_code
def yX11_seen : MethodName := ⟨RX11, "seen", "(III)I"⟩
abbrev cX11_wet : ByteArray := prog_1_method_18_code
def yX11_wet : MethodName := ⟨RX11, "wet", "(III)I"⟩
abbrev cX11_deep : ByteArray := prog_1_method_19_code
def yX11_deep : MethodName := ⟨RX11, "deep", "(II)I"⟩
abbrev cX11_skin : ByteArray := prog_1_method_20_code
def yX11_skin : MethodName := ⟨RX11, "skin", "(I)I"⟩
abbrev cX11_hailed : ByteArray := prog_1_method_21_code
def yX11_hailed : MethodName := ⟨RX11, "hailed", "(III)I"⟩
abbrev cX11_razor : ByteArray := prog_1_method_22_code
def yX11_razor : MethodName := ⟨RX11, "razor", "(III)I"⟩
abbrev cX11_hidden : ByteArray := prog_1_method_23_code
def yX11_hidden : MethodName := ⟨RX11, "hidden", "(II)I"⟩
abbrev cX11_shown : ByteArray := prog_1_method_24_code
def yX11_shown : MethodName := ⟨RX11, "shown", "(II)I"⟩
abbrev cX11_firstWet : ByteArray := prog_1_method_25_code
def yX11_firstWet : MethodName := ⟨RX11, "firstWet", "(II)I"⟩
abbrev cX11_paint : ByteArray := prog_1_method_26_code
def yX11_paint : MethodName := ⟨RX11, "paint", "(III)I"⟩
abbrev cX11_gap : ByteArray := prog_1_method_27_code
def yX11_gap : MethodName := ⟨RX11, "gap", "(II)I"⟩
abbrev cX11_moves : ByteArray := prog_1_method_28_code
def yX11_moves : MethodName := ⟨RX11, "moves", "(II)I"⟩
abbrev cX11_orders : ByteArray := prog_1_method_29_code
def yX11_orders : MethodName := ⟨RX11, "orders", "(III)I"⟩
abbrev cX11_forged : ByteArray := prog_1_method_30_code
def yX11_forged : MethodName := ⟨RX11, "forged", "(II)I"⟩
abbrev cX11_lane : ByteArray := prog_1_method_31_code
def yX11_lane : MethodName := ⟨RX11, "lane", "(II)I"⟩
abbrev cX11_price : ByteArray := prog_1_method_32_code
def yX11_price : MethodName := ⟨RX11, "price", "(II)I"⟩
abbrev cX11_hail : ByteArray := prog_1_method_33_code
def yX11_hail : MethodName := ⟨RX11, "hail", "(I)I"⟩
abbrev cX11_scratch : ByteArray := prog_1_method_34_code
def yX11_scratch : MethodName := ⟨RX11, "scratch", "(II)I"⟩
abbrev cX11_falls : ByteArray := prog_1_method_35_code
def yX11_falls : MethodName := ⟨RX11, "falls", "()I"⟩
abbrev cX11_years : ByteArray := prog_1_method_36_code
def yX11_years : MethodName := ⟨RX11, "years", "(I)I"⟩
abbrev cX11_seed : ByteArray := prog_1_method_37_code
def yX11_seed : MethodName := ⟨RX11, "seed", "(I)I"⟩
abbrev cX11_act : ByteArray := prog_1_method_38_code
def yX11_act : MethodName := ⟨RX11, "act", "(III)I"⟩
abbrev cX11_trace : ByteArray := prog_1_method_39_code
def yX11_trace : MethodName := ⟨RX11, "trace", "(I)I"⟩
abbrev cX11_image : ByteArray := prog_1_method_40_code
def yX11_image : MethodName := ⟨RX11, "image", "()I"⟩
abbrev cX11_restore : ByteArray := prog_1_method_41_code
def yX11_restore : MethodName := ⟨RX11, "restore", "()I"⟩
abbrev cX11_status : ByteArray := prog_1_method_42_code
def yX11_status : MethodName := ⟨RX11, "status", "(I)I"⟩
abbrev cX11_refuse : ByteArray := prog_1_method_43_code
def yX11_refuse : MethodName := ⟨RX11, "refuse", "(I)I"⟩
abbrev cX11_refuseDown : ByteArray := prog_1_method_44_code
def yX11_refuseDown : MethodName := ⟨RX11, "refuseDown", "(II)I"⟩
abbrev cX11_outside : ByteArray := prog_1_method_45_code
def yX11_outside : MethodName := ⟨RX11, "outside", "(II)Z"⟩
abbrev cX11_noHouse : ByteArray := prog_1_method_46_code
def yX11_noHouse : MethodName := ⟨RX11, "noHouse", "(I)Z"⟩
abbrev cX11_noCoat : ByteArray := prog_1_method_47_code
def yX11_noCoat : MethodName := ⟨RX11, "noCoat", "(II)Z"⟩
abbrev cX11_holdsRow : ByteArray := prog_1_method_48_code
def yX11_holdsRow : MethodName := ⟨RX11, "holdsRow", "(I)Z"⟩
abbrev cX11_holdsHouse : ByteArray := prog_1_method_49_code
def yX11_holdsHouse : MethodName := ⟨RX11, "holdsHouse", "(I)Z"⟩
abbrev cX11_rowTrouble : ByteArray := prog_1_method_50_code
def yX11_rowTrouble : MethodName := ⟨RX11, "rowTrouble", "(I)I"⟩
abbrev cX11_noSuchPart : ByteArray := prog_1_method_51_code
def yX11_noSuchPart : MethodName := ⟨RX11, "noSuchPart", "(III)Z"⟩
abbrev cX11_lowestBits : ByteArray := prog_1_method_52_code
def yX11_lowestBits : MethodName := ⟨RX11, "lowestBits", "(IJ)J"⟩
abbrev cX11_isOf : ByteArray := prog_1_method_53_code
def yX11_isOf : MethodName := ⟨RX11, "isOf", "(LPaintedOver$Kind;I)Z"⟩
abbrev cX11_saidBy : ByteArray := prog_1_method_54_code
def yX11_saidBy : MethodName := ⟨RX11, "saidBy", "(LPaintedOver$Front;I)I"⟩
abbrev cX11_strengthOfHighest : ByteArray := prog_1_method_55_code
def yX11_strengthOfHighest : MethodName := ⟨RX11, "strengthOfHighest", "(LPaintedOver$Front;)I"⟩
abbrev cX11_cheapest : ByteArray := prog_1_method_56_code
def yX11_cheapest : MethodName := ⟨RX11, "cheapest", "(LPaintedOver$Front;I)I"⟩
abbrev cX11_pairsTrouble : ByteArray := prog_1_method_57_code
def yX11_pairsTrouble : MethodName := ⟨RX11, "pairsTrouble", "(IIZ)I"⟩
abbrev cX11_isPair : ByteArray := prog_1_method_58_code
def yX11_isPair : MethodName := ⟨RX11, "isPair", "(I)Z"⟩
abbrev cX11_forgetPairs : ByteArray := prog_1_method_59_code
def yX11_forgetPairs : MethodName := ⟨RX11, "forgetPairs", "()V"⟩
abbrev cX11_addPair : ByteArray := prog_1_method_60_code
def yX11_addPair : MethodName := ⟨RX11, "addPair", "(I)V"⟩
abbrev cX11_mayComeOn : ByteArray := prog_1_method_61_code
def yX11_mayComeOn : MethodName := ⟨RX11, "mayComeOn", "(II)Z"⟩
abbrev cX11_lowestOn : ByteArray := prog_1_method_62_code
def yX11_lowestOn : MethodName := ⟨RX11, "lowestOn", "(I)I"⟩
abbrev cX11_orderFits : ByteArray := prog_1_method_63_code
def yX11_orderFits : MethodName := ⟨RX11, "orderFits", "()Z"⟩
abbrev cX11_inFirstOrder : ByteArray := prog_1_method_64_code
def yX11_inFirstOrder : MethodName := ⟨RX11, "inFirstOrder", "(I)I"⟩
abbrev cX11_countOrders : ByteArray := prog_1_method_65_code
def yX11_countOrders : MethodName := ⟨RX11, "countOrders", "()I"⟩
def RX12 : String := "PaintedOverModel"
def TX12 : u_T := fun k => match k with
  | 0 => ("PaintedOverModel", "holding", "[I", true)
  | 1 => ("PaintedOverModel", "rowLength", "[I", true)
  | 2 => ("PaintedOverModel", "rowOf", "[J", true)
  | 3 => ("PaintedOverModel", "houses", "I", false)
  | 4 => ("PaintedOverModel", "kind", "[I", true)
  | 5 => ("PaintedOverModel", "own", "[I", true)
  | 6 => ("PaintedOverModel", "coats", "[I", true)
  | 7 => ("PaintedOverModel", "tenant", "[I", true)
  | 8 => ("PaintedOverModel", "colour", "[I", true)
  | 9 => ("PaintedOverModel", "thick", "[I", true)
  | 10 => ("PaintedOverModel", "gap", "[I", true)
  | 11 => ("PaintedOverModel", "painted", "[I", true)
  | 12 => ("PaintedOverModel", "gone", "[I", true)
  | 13 => ("PaintedOverModel", "hides", "[I", true)
  | 14 => ("PaintedOverModel", "costs", "[I", true)
  | 15 => ("PaintedOverModel", "limit", "I", false)
  | 16 => ("PaintedOverModel", "wide", "I", false)
  | 17 => ("PaintedOverModel", "year", "I", false)
  | 18 => ("PaintedOverModel", "fallen", "I", false)
  | 19 => ("PaintedOverModel", "seed", "I", false)
  | 20 => ("PaintedOverModel", "fault", "I", false)
  | 21 => ("PaintedOverModel", "refusals", "[I", true)
  | 22 => ("PaintedOverModel", "traced", "I", false)
  | 23 => ("PaintedOverModel", "traces", "[I", true)
  | 24 => ("PaintedOverModel", "imaged", "Z", false)
  | 25 => ("PaintedOverModel", "old", "[I", true)
  | 26 => ("PaintedOverModel", "ahead", "[I", true)
  | 27 => ("PaintedOverModel", "reading", "I", false)
  | 28 => ("PaintedOverModel", "at", "I", false)
  | 29 => ("PaintedOverModel", "numbers", "[I", true)
  | 30 => ("PaintedOverModel", "over", "[I", true)
  | 31 => ("PaintedOverModel", "named", "I", false)
  | _ => ("PaintedOverModel", "first", "[I", true)
def tyX12 : Nat → FieldType := fun k => match k with
  | 0 => .array .int
  | 1 => .array .int
  | 2 => .array .long
  | 3 => .int
  | 4 => .array .int
  | 5 => .array .int
  | 6 => .array .int
  | 7 => .array .int
  | 8 => .array .int
  | 9 => .array .int
  | 10 => .array .int
  | 11 => .array .int
  | 12 => .array .int
  | 13 => .array .int
  | 14 => .array .int
  | 15 => .int
  | 16 => .int
  | 17 => .int
  | 18 => .int
  | 19 => .int
  | 20 => .int
  | 21 => .array .int
  | 22 => .int
  | 23 => .array .int
  | 24 => .boolean
  | 25 => .array .int
  | 26 => .array .int
  | 27 => .int
  | 28 => .int
  | 29 => .array .int
  | 30 => .array .int
  | 31 => .int
  | _ => .array .int
theorem nmX12 : ∀ a, a < 33 → ∀ b, b < 33 → a ≠ b → (TX12 a).2.1 ≠ (TX12 b).2.1 := by decide +kernel
theorem tyX12_ok : ∀ k, k < 33 → parseFieldDescriptor (TX12 k).2.2.1 = some (tyX12 k) := by decide +kernel
abbrev cX12_init : ByteArray := prog_14_method_1_code
def yX12_init : MethodName := ⟨RX12, "<init>", "()V"⟩
abbrev cX12_no : ByteArray := prog_14_method_2_code
def yX12_no : MethodName := ⟨RX12, "no", "(I)I"⟩
abbrev cX12_no10 : ByteArray := prog_14_method_3_code
def yX12_no10 : MethodName := ⟨RX12, "no10", "(I)I"⟩
abbrev cX12_within : ByteArray := prog_14_method_4_code
def yX12_within : MethodName := ⟨RX12, "within", "(III)Z"⟩
abbrev cX12_has : ByteArray := prog_14_method_5_code
def yX12_has : MethodName := ⟨RX12, "has", "(II)Z"⟩
abbrev cX12_isHouse : ByteArray := prog_14_method_6_code
def yX12_isHouse : MethodName := ⟨RX12, "isHouse", "(I)Z"⟩
abbrev cX12_isCoat : ByteArray := prog_14_method_7_code
def yX12_isCoat : MethodName := ⟨RX12, "isCoat", "(II)Z"⟩
abbrev cX12_isCell : ByteArray := prog_14_method_8_code
def yX12_isCell : MethodName := ⟨RX12, "isCell", "(I)Z"⟩
abbrev cX12_isWeather : ByteArray := prog_14_method_9_code
def yX12_isWeather : MethodName := ⟨RX12, "isWeather", "(I)Z"⟩
abbrev cX12_isRow : ByteArray := prog_14_method_10_code
def yX12_isRow : MethodName := ⟨RX12, "isRow", "(I)Z"⟩
abbrev cX12_row : ByteArray := prog_14_method_11_code
def yX12_row : MethodName := ⟨RX12, "row", "(III)I"⟩
abbrev cX12_noRow : ByteArray := prog_14_method_12_code
def yX12_noRow : MethodName := ⟨RX12, "noRow", "(I)I"⟩
abbrev cX12_set : ByteArray := prog_14_method_13_code
def yX12_set : MethodName := ⟨RX12, "set", "(IIJ)I"⟩
abbrev cX12_copy : ByteArray := prog_14_method_14_code
def yX12_copy : MethodName := ⟨RX12, "copy", "(IIIII)I"⟩
abbrev cX12_element : ByteArray := prog_14_method_15_code
def yX12_element : MethodName := ⟨RX12, "element", "(II)J"⟩
abbrev cX12_show : ByteArray := prog_14_method_16_code
def yX12_show : MethodName := ⟨RX12, "show", "(II)I"⟩
abbrev cX12_holds : ByteArray := prog_14_method_17_code
def yX12_holds : MethodName := ⟨RX12, "holds", "(I)I"⟩
abbrev cX12_above : ByteArray := prog_14_method_18_code
def yX12_above : MethodName := ⟨RX12, "above", "(I)I"⟩
abbrev cX12_isUnder : ByteArray := prog_14_method_19_code
def yX12_isUnder : MethodName := ⟨RX12, "isUnder", "(II)Z"⟩
abbrev cX12_says : ByteArray := prog_14_method_20_code
def yX12_says : MethodName := ⟨RX12, "says", "(II)I"⟩
abbrev cX12_newHouse : ByteArray := prog_14_method_21_code
def yX12_newHouse : MethodName := ⟨RX12, "newHouse", "(II)I"⟩
abbrev cX12_bare : ByteArray := prog_14_method_22_code
def yX12_bare : MethodName := ⟨RX12, "bare", "(I)V"⟩
abbrev cX12_house : ByteArray := prog_14_method_23_code
def yX12_house : MethodName := ⟨RX12, "house", "(II)I"⟩
abbrev cX12_lived : ByteArray := prog_14_method_24_code
def yX12_lived : MethodName := ⟨RX12, "lived", "(I)I"⟩
abbrev cX12_houseOf : ByteArray := prog_14_method_25_code
def yX12_houseOf : MethodName := ⟨RX12, "houseOf", "(II)I"⟩
abbrev cX12_colour : ByteArray := prog_14_method_26_code
def yX12_colour : MethodName := ⟨RX12, "colour", "(III)I"⟩
abbrev cX12_ask : ByteArray := prog_14_method_27_code
def yX12_ask : MethodName := ⟨RX12, "ask", "(II)I"⟩
abbrev cX12_paints : ByteArray := prog_14_method_28_code
def yX12_paints : MethodName := ⟨RX12, "paints", "(IIIII)I"⟩
abbrev cX12_coat : ByteArray := prog_14_method_29_code
def yX12_coat : MethodName := ⟨RX12, "coat", "(IIIII)I"⟩
abbrev cX12_coatOf : ByteArray := prog_14_method_30_code
def yX12_coatOf : MethodName := ⟨RX12, "coatOf", "(III)I"⟩
abbrev cX12_sign : ByteArray := prog_14_method_31_code
def yX12_sign : MethodName := ⟨RX12, "sign", "()I"⟩
abbrev cX12_is : ByteArray := prog_14_method_32_code
def yX12_is : MethodName := ⟨RX12, "is", "(C)Z"⟩
abbrev cX12_word : ByteArray := prog_14_method_33_code
def yX12_word : MethodName := ⟨RX12, "word", "(Ljava/lang/String;)Z"⟩
abbrev cX12_number : ByteArray := prog_14_method_34_code
def yX12_number : MethodName := ⟨RX12, "number", "(III)Z"⟩
abbrev cX12_item : ByteArray := prog_14_method_35_code
def yX12_item : MethodName := ⟨RX12, "item", "()Z"⟩
abbrev cX12_sign_ : ByteArray := prog_14_method_36_code
def yX12_sign_ : MethodName := ⟨RX12, "sign", "(I)I"⟩
abbrev cX12_street : ByteArray := prog_14_method_37_code
def yX12_street : MethodName := ⟨RX12, "street", "(I)I"⟩
abbrev cX12_fault : ByteArray := prog_14_method_38_code
def yX12_fault : MethodName := ⟨RX12, "fault", "()I"⟩
abbrev cX12_strength : ByteArray := prog_14_method_39_code
def yX12_strength : MethodName := ⟨RX12, "strength", "(II)I"⟩
abbrev cX12_wetOf : ByteArray := prog_14_method_40_code
def yX12_wetOf : MethodName := ⟨RX12, "wetOf", "(III)I"⟩
abbrev cX12_lies : ByteArray := prog_14_method_41_code
def yX12_lies : MethodName := ⟨RX12, "lies", "(II)I"⟩
abbrev cX12_seenIn : ByteArray := prog_14_method_42_code
def yX12_seenIn : MethodName := ⟨RX12, "seenIn", "(III)I"⟩
abbrev cX12_seenAt : ByteArray := prog_14_method_43_code
def yX12_seenAt : MethodName := ⟨RX12, "seenAt", "(III)I"⟩
abbrev cX12_hard : ByteArray := prog_14_method_44_code
def yX12_hard : MethodName := ⟨RX12, "hard", "(III)I"⟩
abbrev cX12_behind : ByteArray := prog_14_method_45_code
def yX12_behind : MethodName := ⟨RX12, "behind", "(III)I"⟩
abbrev cX12_sum : ByteArray := prog_14_method_46_code
def yX12_sum : MethodName := ⟨RX12, "sum", "(II)I"⟩
abbrev cX12_deepOf : ByteArray := prog_14_method_47_code
def yX12_deepOf : MethodName := ⟨RX12, "deepOf", "(II)I"⟩
abbrev cX12_skinOf : ByteArray := prog_14_method_48_code
def yX12_skinOf : MethodName := ⟨RX12, "skinOf", "(I)I"⟩
abbrev cX12_seen : ByteArray := prog_14_method_49_code
def yX12_seen : MethodName := ⟨RX12, "seen", "(III)I"⟩
abbrev cX12_wet : ByteArray := prog_14_method_50_code
def yX12_wet : MethodName := ⟨RX12, "wet", "(III)I"⟩
abbrev cX12_deep : ByteArray := prog_14_method_51_code
def yX12_deep : MethodName := ⟨RX12, "deep", "(II)I"⟩
abbrev cX12_skin : ByteArray := prog_14_method_52_code
def yX12_skin : MethodName := ⟨RX12, "skin", "(I)I"⟩
abbrev cX12_hailed : ByteArray := prog_14_method_53_code
def yX12_hailed : MethodName := ⟨RX12, "hailed", "(III)I"⟩
abbrev cX12_razor : ByteArray := prog_14_method_54_code
def yX12_razor : MethodName := ⟨RX12, "razor", "(III)I"⟩
abbrev cX12_seenAll : ByteArray := prog_14_method_55_code
def yX12_seenAll : MethodName := ⟨RX12, "seenAll", "(II)I"⟩
abbrev cX12_hidden : ByteArray := prog_14_method_56_code
def yX12_hidden : MethodName := ⟨RX12, "hidden", "(II)I"⟩
abbrev cX12_shown : ByteArray := prog_14_method_57_code
def yX12_shown : MethodName := ⟨RX12, "shown", "(II)I"⟩
abbrev cX12_firstWet : ByteArray := prog_14_method_58_code
def yX12_firstWet : MethodName := ⟨RX12, "firstWet", "(II)I"⟩
abbrev cX12_paint : ByteArray := prog_14_method_59_code
def yX12_paint : MethodName := ⟨RX12, "paint", "(III)I"⟩
abbrev cX12_gap : ByteArray := prog_14_method_60_code
def yX12_gap : MethodName := ⟨RX12, "gap", "(II)I"⟩
abbrev cX12_moves : ByteArray := prog_14_method_61_code
def yX12_moves : MethodName := ⟨RX12, "moves", "(II)I"⟩
abbrev cX12_noPairs : ByteArray := prog_14_method_62_code
def yX12_noPairs : MethodName := ⟨RX12, "noPairs", "(IIZ)I"⟩
abbrev cX12_pairs : ByteArray := prog_14_method_63_code
def yX12_pairs : MethodName := ⟨RX12, "pairs", "(II)V"⟩
abbrev cX12_ordersFrom : ByteArray := prog_14_method_64_code
def yX12_ordersFrom : MethodName := ⟨RX12, "ordersFrom", "(I)I"⟩
abbrev cX12_orders : ByteArray := prog_14_method_65_code
def yX12_orders : MethodName := ⟨RX12, "orders", "(III)I"⟩
abbrev cX12_forged : ByteArray := prog_14_method_66_code
def yX12_forged : MethodName := ⟨RX12, "forged", "(II)I"⟩
abbrev cX12_deepest : ByteArray := prog_14_method_67_code
def yX12_deepest : MethodName := ⟨RX12, "deepest", "(I)I"⟩
abbrev cX12_lane : ByteArray := prog_14_method_68_code
def yX12_lane : MethodName := ⟨RX12, "lane", "(II)I"⟩
abbrev cX12_price : ByteArray := prog_14_method_69_code
def yX12_price : MethodName := ⟨RX12, "price", "(II)I"⟩
abbrev cX12_hailAll : ByteArray := prog_14_method_70_code
def yX12_hailAll : MethodName := ⟨RX12, "hailAll", "(I)I"⟩
abbrev cX12_hail : ByteArray := prog_14_method_71_code
def yX12_hail : MethodName := ⟨RX12, "hail", "(I)I"⟩
abbrev cX12_scratch : ByteArray := prog_14_method_72_code
def yX12_scratch : MethodName := ⟨RX12, "scratch", "(II)I"⟩
abbrev cX12_fall : ByteArray := prog_14_method_73_code
def yX12_fall : MethodName := ⟨RX12, "fall", "()I"⟩
abbrev cX12_falls : ByteArray := prog_14_method_74_code
def yX12_falls : MethodName := ⟨RX12, "falls", "()I"⟩
abbrev cX12_draw : ByteArray := prog_14_method_75_code
def yX12_draw : MethodName := ⟨RX12, "draw", "(I)I"⟩
abbrev cX12_years : ByteArray := prog_14_method_76_code
def yX12_years : MethodName := ⟨RX12, "years", "(I)I"⟩
abbrev cX12_seed : ByteArray := prog_14_method_77_code
def yX12_seed : MethodName := ⟨RX12, "seed", "(I)I"⟩
abbrev cX12_ran : ByteArray := prog_14_method_78_code
def yX12_ran : MethodName := ⟨RX12, "ran", "(I)V"⟩
abbrev cX12_paintsAct : ByteArray := prog_14_method_79_code
def yX12_paintsAct : MethodName := ⟨RX12, "paintsAct", "(II)I"⟩
abbrev cX12_peels : ByteArray := prog_14_method_80_code
def yX12_peels : MethodName := ⟨RX12, "peels", "(II)I"⟩
abbrev cX12_fallsAct : ByteArray := prog_14_method_81_code
def yX12_fallsAct : MethodName := ⟨RX12, "fallsAct", "(II)I"⟩
abbrev cX12_act : ByteArray := prog_14_method_82_code
def yX12_act : MethodName := ⟨RX12, "act", "(III)I"⟩
abbrev cX12_trace : ByteArray := prog_14_method_83_code
def yX12_trace : MethodName := ⟨RX12, "trace", "(I)I"⟩
abbrev cX12_keep : ByteArray := prog_14_method_84_code
def yX12_keep : MethodName := ⟨RX12, "keep", "([I)V"⟩
abbrev cX12_again : ByteArray := prog_14_method_85_code
def yX12_again : MethodName := ⟨RX12, "again", "([I)V"⟩
abbrev cX12_image : ByteArray := prog_14_method_86_code
def yX12_image : MethodName := ⟨RX12, "image", "()I"⟩
abbrev cX12_restore : ByteArray := prog_14_method_87_code
def yX12_restore : MethodName := ⟨RX12, "restore", "()I"⟩
abbrev cX12_status : ByteArray := prog_14_method_88_code
def yX12_status : MethodName := ⟨RX12, "status", "(I)I"⟩
def RJ6 : String := "java/lang/Integer"
def TJ6 : u_T := fun k => match k with
  | _ => ("", "", "", false)
def tyJ6 : Nat → FieldType := fun k => match k with
  | _ => .int
theorem nmJ6 : ∀ a, a < 0 → ∀ b, b < 0 → a ≠ b → (TJ6 a).2.1 ≠ (TJ6 b).2.1 := by decide +kernel
theorem tyJ6_ok : ∀ k, k < 0 → parseFieldDescriptor (TJ6 k).2.2.1 = some (tyJ6 k) := by decide +kernel
abbrev cJ6_highestOneBit_0f7a4 : ByteArray := prog_15_method_45_code
def yJ6_highestOneBit_0f7a4 : MethodName := ⟨RJ6, "highestOneBit", "(I)I"⟩
abbrev cJ6_numberOfLeadingZeros_0f7a4 : ByteArray := prog_15_method_47_code
def yJ6_numberOfLeadingZeros_0f7a4 : MethodName := ⟨RJ6, "numberOfLeadingZeros", "(I)I"⟩
abbrev cJ6_bitCount_0f7a4 : ByteArray := prog_15_method_49_code
def yJ6_bitCount_0f7a4 : MethodName := ⟨RJ6, "bitCount", "(I)I"⟩
def RJ9 : String := "java/lang/Math"
def TJ9 : u_T := fun k => match k with
  | _ => ("", "", "", false)
def tyJ9 : Nat → FieldType := fun k => match k with
  | _ => .int
theorem nmJ9 : ∀ a, a < 0 → ∀ b, b < 0 → a ≠ b → (TJ9 a).2.1 ≠ (TJ9 b).2.1 := by decide +kernel
theorem tyJ9_ok : ∀ k, k < 0 → parseFieldDescriptor (TJ9 k).2.2.1 = some (tyJ9 k) := by decide +kernel
abbrev cJ9_max_7cf53 : ByteArray := prog_16_method_65_code
def yJ9_max_7cf53 : MethodName := ⟨RJ9, "max", "(II)I"⟩
def RJ0 : String := "java/lang/String"
def TJ0 : u_T := fun k => match k with
  | _ => ("", "", "", false)
def tyJ0 : Nat → FieldType := fun k => match k with
  | _ => .int
theorem nmJ0 : ∀ a, a < 0 → ∀ b, b < 0 → a ≠ b → (TJ0 a).2.1 ≠ (TJ0 b).2.1 := by decide +kernel
theorem tyJ0_ok : ∀ k, k < 0 → parseFieldDescriptor (TJ0 k).2.2.1 = some (tyJ0 k) := by decide +kernel
abbrev cJ0_length_8abf5 : ByteArray := prog_17_method_54_code
def yJ0_length_8abf5 : MethodName := ⟨RJ0, "length", "()I"⟩
abbrev cJ0_charAt_5068e : ByteArray := prog_17_method_56_code
def yJ0_charAt_5068e : MethodName := ⟨RJ0, "charAt", "(I)C"⟩
abbrev cJ0_coder_7d493 : ByteArray := prog_17_method_152_code
def yJ0_coder_7d493 : MethodName := ⟨RJ0, "coder", "()B"⟩
abbrev cJ0_isLatin1_aae02 : ByteArray := prog_17_method_154_code
def yJ0_isLatin1_aae02 : MethodName := ⟨RJ0, "isLatin1", "()Z"⟩
abbrev cJ0_checkIndex_df160 : ByteArray := prog_17_method_155_code
def yJ0_checkIndex_df160 : MethodName := ⟨RJ0, "checkIndex", "(II)V"⟩
def RJ1 : String := "java/lang/StringLatin1"
def TJ1 : u_T := fun k => match k with
  | _ => ("", "", "", false)
def tyJ1 : Nat → FieldType := fun k => match k with
  | _ => .int
theorem nmJ1 : ∀ a, a < 0 → ∀ b, b < 0 → a ≠ b → (TJ1 a).2.1 ≠ (TJ1 b).2.1 := by decide +kernel
theorem tyJ1_ok : ∀ k, k < 0 → parseFieldDescriptor (TJ1 k).2.2.1 = some (tyJ1 k) := by decide +kernel
abbrev cJ1_charAt_3b067 : ByteArray := prog_18_method_2_code
def yJ1_charAt_3b067 : MethodName := ⟨RJ1, "charAt", "([BI)C"⟩
def RJ2 : String := "java/lang/StringUTF16"
def TJ2 : u_T := fun k => match k with
  | _ => ("", "", "", false)
def tyJ2 : Nat → FieldType := fun k => match k with
  | _ => .int
theorem nmJ2 : ∀ a, a < 0 → ∀ b, b < 0 → a ≠ b → (TJ2 a).2.1 ≠ (TJ2 b).2.1 := by decide +kernel
theorem tyJ2_ok : ∀ k, k < 0 → parseFieldDescriptor (TJ2 k).2.2.1 = some (tyJ2 k) := by decide +kernel
abbrev cJ2_getChar_3b067 : ByteArray := prog_19_method_5_code
def yJ2_getChar_3b067 : MethodName := ⟨RJ2, "getChar", "([BI)C"⟩
abbrev cJ2_length_9d52b : ByteArray := prog_19_method_6_code
def yJ2_length_9d52b : MethodName := ⟨RJ2, "length", "([B)I"⟩
abbrev cJ2_charAt_3b067 : ByteArray := prog_19_method_83_code
def yJ2_charAt_3b067 : MethodName := ⟨RJ2, "charAt", "([BI)C"⟩
abbrev cJ2_checkIndex_2214a : ByteArray := prog_19_method_91_code
def yJ2_checkIndex_2214a : MethodName := ⟨RJ2, "checkIndex", "(I[B)V"⟩
def RJ10 : String := "java/lang/System"
def TJ10 : u_T := fun k => match k with
  | _ => ("", "", "", false)
def tyJ10 : Nat → FieldType := fun k => match k with
  | _ => .int
theorem nmJ10 : ∀ a, a < 0 → ∀ b, b < 0 → a ≠ b → (TJ10 a).2.1 ≠ (TJ10 b).2.1 := by decide +kernel
theorem tyJ10_ok : ∀ k, k < 0 → parseFieldDescriptor (TJ10 k).2.2.1 = some (tyJ10 k) := by decide +kernel
def RJ3 : String := "jdk/internal/util/Preconditions"
def TJ3 : u_T := fun k => match k with
  | _ => ("", "", "", false)
def tyJ3 : Nat → FieldType := fun k => match k with
  | _ => .int
theorem nmJ3 : ∀ a, a < 0 → ∀ b, b < 0 → a ≠ b → (TJ3 a).2.1 ≠ (TJ3 b).2.1 := by decide +kernel
theorem tyJ3_ok : ∀ k, k < 0 → parseFieldDescriptor (TJ3 k).2.2.1 = some (tyJ3 k) := by decide +kernel
abbrev cJ3_checkIndex_8e157 : ByteArray := prog_21_method_11_code
def yJ3_checkIndex_8e157 : MethodName := ⟨RJ3, "checkIndex", "(IILjava/util/function/BiFunction;)I"⟩
def RL : String := "PaintedOverLaw"
abbrev cL_law : ByteArray := code
def yL_law : MethodName := ⟨RL, "law", "([I)Z"⟩
abbrev vwCl : List vw_C := [(RX0, TX0, 0), (RX1, TX1, 0), (RX2, TX2, 0), (RX3, TX3, 10), (RX4, TX4, 0), (RX5, TX5, 0), (RX6, TX6, 6), (RX7, TX7, 0), (RX8, TX8, 0), (RX9, TX9, 10), (RX10, TX10, 4), (RX11, TX11, 14), (RX12, TX12, 33)]
