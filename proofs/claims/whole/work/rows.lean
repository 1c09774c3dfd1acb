section
-- ===== PART A: goes FIRST, ahead of the names: the tables' words, and 'selects' of the private methods out of them =====
/-- a private method of a class that the tables say can be made, by its rows of tables_1 -/
def lw_okq (q : MethodName × Nat) : Prop := (q.1.cls ≠ "java/lang/invoke/MethodHandle" ∧ q.1.cls ≠ "java/lang/invoke/VarHandle") ∧ Cond.instantiable q.1.cls q.2 ∈ tables_1 ∧ Cond.privateMethod q.1 ∈ tables_1 ∧ Cond.instanceMethod q.1 ∈ tables_1
theorem lw_p0 : lw_okq (⟨"PaintedOver", "refuse", "(I)I"⟩, 14) := ⟨⟨by decide +kernel, by decide +kernel⟩, List.mem_of_getElem? (i := 22) (by decide +kernel), List.mem_of_getElem? (i := 293) (by decide +kernel), List.mem_of_getElem? (i := 294) (by decide +kernel)⟩
theorem lw_p1 : lw_okq (⟨"PaintedOver", "refuseDown", "(II)I"⟩, 14) := ⟨⟨by decide +kernel, by decide +kernel⟩, List.mem_of_getElem? (i := 22) (by decide +kernel), List.mem_of_getElem? (i := 297) (by decide +kernel), List.mem_of_getElem? (i := 298) (by decide +kernel)⟩
theorem lw_p2 : lw_okq (⟨"PaintedOver", "rowTrouble", "(I)I"⟩, 14) := ⟨⟨by decide +kernel, by decide +kernel⟩, List.mem_of_getElem? (i := 22) (by decide +kernel), List.mem_of_getElem? (i := 305) (by decide +kernel), List.mem_of_getElem? (i := 306) (by decide +kernel)⟩
theorem lw_p3 : lw_okq (⟨"PaintedOver", "holdsHouse", "(I)Z"⟩, 14) := ⟨⟨by decide +kernel, by decide +kernel⟩, List.mem_of_getElem? (i := 22) (by decide +kernel), List.mem_of_getElem? (i := 309) (by decide +kernel), List.mem_of_getElem? (i := 310) (by decide +kernel)⟩
theorem lw_p4 : lw_okq (⟨"PaintedOver", "holdsRow", "(I)Z"⟩, 14) := ⟨⟨by decide +kernel, by decide +kernel⟩, List.mem_of_getElem? (i := 22) (by decide +kernel), List.mem_of_getElem? (i := 313) (by decide +kernel), List.mem_of_getElem? (i := 314) (by decide +kernel)⟩
theorem lw_p5 : lw_okq (⟨"PaintedOver", "noSuchPart", "(III)Z"⟩, 14) := ⟨⟨by decide +kernel, by decide +kernel⟩, List.mem_of_getElem? (i := 22) (by decide +kernel), List.mem_of_getElem? (i := 324) (by decide +kernel), List.mem_of_getElem? (i := 325) (by decide +kernel)⟩
theorem lw_p6 : lw_okq (⟨"PaintedOver", "noHouse", "(I)Z"⟩, 14) := ⟨⟨by decide +kernel, by decide +kernel⟩, List.mem_of_getElem? (i := 22) (by decide +kernel), List.mem_of_getElem? (i := 339) (by decide +kernel), List.mem_of_getElem? (i := 340) (by decide +kernel)⟩
theorem lw_p7 : lw_okq (⟨"PaintedOver", "saidBy", "(LPaintedOver$Front;I)I"⟩, 14) := ⟨⟨by decide +kernel, by decide +kernel⟩, List.mem_of_getElem? (i := 22) (by decide +kernel), List.mem_of_getElem? (i := 354) (by decide +kernel), List.mem_of_getElem? (i := 355) (by decide +kernel)⟩
theorem lw_p8 : lw_okq (⟨"PaintedOver", "strengthOfHighest", "(LPaintedOver$Front;)I"⟩, 14) := ⟨⟨by decide +kernel, by decide +kernel⟩, List.mem_of_getElem? (i := 22) (by decide +kernel), List.mem_of_getElem? (i := 401) (by decide +kernel), List.mem_of_getElem? (i := 402) (by decide +kernel)⟩
theorem lw_p9 : lw_okq (⟨"PaintedOver", "noCoat", "(II)Z"⟩, 14) := ⟨⟨by decide +kernel, by decide +kernel⟩, List.mem_of_getElem? (i := 22) (by decide +kernel), List.mem_of_getElem? (i := 479) (by decide +kernel), List.mem_of_getElem? (i := 480) (by decide +kernel)⟩
theorem lw_p10 : lw_okq (⟨"PaintedOver$Reader", "readItem", "()V"⟩, 6) := ⟨⟨by decide +kernel, by decide +kernel⟩, List.mem_of_getElem? (i := 32) (by decide +kernel), List.mem_of_getElem? (i := 505) (by decide +kernel), List.mem_of_getElem? (i := 506) (by decide +kernel)⟩
theorem lw_p11 : lw_okq (⟨"PaintedOver$Reader", "readWord", "()I"⟩, 6) := ⟨⟨by decide +kernel, by decide +kernel⟩, List.mem_of_getElem? (i := 32) (by decide +kernel), List.mem_of_getElem? (i := 509) (by decide +kernel), List.mem_of_getElem? (i := 510) (by decide +kernel)⟩
theorem lw_p12 : lw_okq (⟨"PaintedOver$Reader", "sameLetters", "(Ljava/lang/String;)I"⟩, 6) := ⟨⟨by decide +kernel, by decide +kernel⟩, List.mem_of_getElem? (i := 32) (by decide +kernel), List.mem_of_getElem? (i := 522) (by decide +kernel), List.mem_of_getElem? (i := 523) (by decide +kernel)⟩
theorem lw_p13 : lw_okq (⟨"PaintedOver$Reader", "elementAt", "(I)I"⟩, 6) := ⟨⟨by decide +kernel, by decide +kernel⟩, List.mem_of_getElem? (i := 32) (by decide +kernel), List.mem_of_getElem? (i := 536) (by decide +kernel), List.mem_of_getElem? (i := 537) (by decide +kernel)⟩
theorem lw_p14 : lw_okq (⟨"PaintedOver$Reader", "readHouse", "(I)V"⟩, 6) := ⟨⟨by decide +kernel, by decide +kernel⟩, List.mem_of_getElem? (i := 32) (by decide +kernel), List.mem_of_getElem? (i := 581) (by decide +kernel), List.mem_of_getElem? (i := 582) (by decide +kernel)⟩
theorem lw_p15 : lw_okq (⟨"PaintedOver$Reader", "readNumber", "(II)I"⟩, 6) := ⟨⟨by decide +kernel, by decide +kernel⟩, List.mem_of_getElem? (i := 32) (by decide +kernel), List.mem_of_getElem? (i := 585) (by decide +kernel), List.mem_of_getElem? (i := 586) (by decide +kernel)⟩
def lw_privs_1 : List (MethodName × Nat) := [(⟨"PaintedOver", "refuse", "(I)I"⟩, 14), (⟨"PaintedOver", "refuseDown", "(II)I"⟩, 14), (⟨"PaintedOver", "rowTrouble", "(I)I"⟩, 14), (⟨"PaintedOver", "holdsHouse", "(I)Z"⟩, 14), (⟨"PaintedOver", "holdsRow", "(I)Z"⟩, 14), (⟨"PaintedOver", "noSuchPart", "(III)Z"⟩, 14), (⟨"PaintedOver", "noHouse", "(I)Z"⟩, 14), (⟨"PaintedOver", "saidBy", "(LPaintedOver$Front;I)I"⟩, 14), (⟨"PaintedOver", "strengthOfHighest", "(LPaintedOver$Front;)I"⟩, 14), (⟨"PaintedOver", "noCoat", "(II)Z"⟩, 14), (⟨"PaintedOver$Reader", "readItem", "()V"⟩, 6), (⟨"PaintedOver$Reader", "readWord", "()I"⟩, 6), (⟨"PaintedOver$Reader", "sameLetters", "(Ljava/lang/String;)I"⟩, 6), (⟨"PaintedOver$Reader", "elementAt", "(I)I"⟩, 6), (⟨"PaintedOver$Reader", "readHouse", "(I)V"⟩, 6), (⟨"PaintedOver$Reader", "readNumber", "(II)I"⟩, 6)]
theorem lw_r1 : ∀ q ∈ lw_privs_1, lw_okq q := List.forall_mem_cons.mpr ⟨lw_p0, List.forall_mem_cons.mpr ⟨lw_p1, List.forall_mem_cons.mpr ⟨lw_p2, List.forall_mem_cons.mpr ⟨lw_p3, List.forall_mem_cons.mpr ⟨lw_p4, List.forall_mem_cons.mpr ⟨lw_p5, List.forall_mem_cons.mpr ⟨lw_p6, List.forall_mem_cons.mpr ⟨lw_p7, List.forall_mem_cons.mpr ⟨lw_p8, List.forall_mem_cons.mpr ⟨lw_p9, List.forall_mem_cons.mpr ⟨lw_p10, List.forall_mem_cons.mpr ⟨lw_p11, List.forall_mem_cons.mpr ⟨lw_p12, List.forall_mem_cons.mpr ⟨lw_p13, List.forall_mem_cons.mpr ⟨lw_p14, List.forall_mem_cons.mpr ⟨lw_p15, fun _ h => absurd h List.not_mem_nil⟩⟩⟩⟩⟩⟩⟩⟩⟩⟩⟩⟩⟩⟩⟩⟩
theorem lw_p16 : lw_okq (⟨"PaintedOver$Reader", "stands", "(I)Z"⟩, 6) := ⟨⟨by decide +kernel, by decide +kernel⟩, List.mem_of_getElem? (i := 32) (by decide +kernel), List.mem_of_getElem? (i := 589) (by decide +kernel), List.mem_of_getElem? (i := 590) (by decide +kernel)⟩
theorem lw_p17 : lw_okq (⟨"PaintedOver$Reader", "isDigit", "(I)Z"⟩, 6) := ⟨⟨by decide +kernel, by decide +kernel⟩, List.mem_of_getElem? (i := 32) (by decide +kernel), List.mem_of_getElem? (i := 593) (by decide +kernel), List.mem_of_getElem? (i := 594) (by decide +kernel)⟩
theorem lw_p18 : lw_okq (⟨"PaintedOver$Reader", "readCoat", "()V"⟩, 6) := ⟨⟨by decide +kernel, by decide +kernel⟩, List.mem_of_getElem? (i := 32) (by decide +kernel), List.mem_of_getElem? (i := 598) (by decide +kernel), List.mem_of_getElem? (i := 599) (by decide +kernel)⟩
theorem lw_p19 : lw_okq (⟨"PaintedOver$Reader", "readColour", "([II)V"⟩, 6) := ⟨⟨by decide +kernel, by decide +kernel⟩, List.mem_of_getElem? (i := 32) (by decide +kernel), List.mem_of_getElem? (i := 603) (by decide +kernel), List.mem_of_getElem? (i := 604) (by decide +kernel)⟩
theorem lw_p20 : lw_okq (⟨"PaintedOver$Reader", "readScratch", "()V"⟩, 6) := ⟨⟨by decide +kernel, by decide +kernel⟩, List.mem_of_getElem? (i := 32) (by decide +kernel), List.mem_of_getElem? (i := 629) (by decide +kernel), List.mem_of_getElem? (i := 630) (by decide +kernel)⟩
theorem lw_p21 : lw_okq (⟨"PaintedOver", "cheapest", "(LPaintedOver$Front;I)I"⟩, 14) := ⟨⟨by decide +kernel, by decide +kernel⟩, List.mem_of_getElem? (i := 22) (by decide +kernel), List.mem_of_getElem? (i := 705) (by decide +kernel), List.mem_of_getElem? (i := 706) (by decide +kernel)⟩
theorem lw_p22 : lw_okq (⟨"PaintedOver", "pairsTrouble", "(IIZ)I"⟩, 14) := ⟨⟨by decide +kernel, by decide +kernel⟩, List.mem_of_getElem? (i := 22) (by decide +kernel), List.mem_of_getElem? (i := 725) (by decide +kernel), List.mem_of_getElem? (i := 726) (by decide +kernel)⟩
theorem lw_p23 : lw_okq (⟨"PaintedOver", "forgetPairs", "()V"⟩, 14) := ⟨⟨by decide +kernel, by decide +kernel⟩, List.mem_of_getElem? (i := 22) (by decide +kernel), List.mem_of_getElem? (i := 732) (by decide +kernel), List.mem_of_getElem? (i := 733) (by decide +kernel)⟩
theorem lw_p24 : lw_okq (⟨"PaintedOver", "addPair", "(I)V"⟩, 14) := ⟨⟨by decide +kernel, by decide +kernel⟩, List.mem_of_getElem? (i := 22) (by decide +kernel), List.mem_of_getElem? (i := 736) (by decide +kernel), List.mem_of_getElem? (i := 737) (by decide +kernel)⟩
theorem lw_p25 : lw_okq (⟨"PaintedOver", "countOrders", "()I"⟩, 14) := ⟨⟨by decide +kernel, by decide +kernel⟩, List.mem_of_getElem? (i := 22) (by decide +kernel), List.mem_of_getElem? (i := 740) (by decide +kernel), List.mem_of_getElem? (i := 741) (by decide +kernel)⟩
theorem lw_p26 : lw_okq (⟨"PaintedOver", "mayComeOn", "(II)Z"⟩, 14) := ⟨⟨by decide +kernel, by decide +kernel⟩, List.mem_of_getElem? (i := 22) (by decide +kernel), List.mem_of_getElem? (i := 744) (by decide +kernel), List.mem_of_getElem? (i := 745) (by decide +kernel)⟩
theorem lw_p27 : lw_okq (⟨"PaintedOver", "orderFits", "()Z"⟩, 14) := ⟨⟨by decide +kernel, by decide +kernel⟩, List.mem_of_getElem? (i := 22) (by decide +kernel), List.mem_of_getElem? (i := 749) (by decide +kernel), List.mem_of_getElem? (i := 750) (by decide +kernel)⟩
theorem lw_p28 : lw_okq (⟨"PaintedOver", "lowestOn", "(I)I"⟩, 14) := ⟨⟨by decide +kernel, by decide +kernel⟩, List.mem_of_getElem? (i := 22) (by decide +kernel), List.mem_of_getElem? (i := 753) (by decide +kernel), List.mem_of_getElem? (i := 754) (by decide +kernel)⟩
theorem lw_p29 : lw_okq (⟨"PaintedOver", "inFirstOrder", "(I)I"⟩, 14) := ⟨⟨by decide +kernel, by decide +kernel⟩, List.mem_of_getElem? (i := 22) (by decide +kernel), List.mem_of_getElem? (i := 757) (by decide +kernel), List.mem_of_getElem? (i := 758) (by decide +kernel)⟩
theorem lw_p30 : lw_okq (⟨"PaintedOver$Town", "draw", "(I)I"⟩, 10) := ⟨⟨by decide +kernel, by decide +kernel⟩, List.mem_of_getElem? (i := 138) (by decide +kernel), List.mem_of_getElem? (i := 804) (by decide +kernel), List.mem_of_getElem? (i := 805) (by decide +kernel)⟩
theorem lw_p31 : lw_okq (⟨"PaintedOverModel", "no", "(I)I"⟩, 33) := ⟨⟨by decide +kernel, by decide +kernel⟩, List.mem_of_getElem? (i := 915) (by decide +kernel), List.mem_of_getElem? (i := 1028) (by decide +kernel), List.mem_of_getElem? (i := 1029) (by decide +kernel)⟩
def lw_privs_2 : List (MethodName × Nat) := [(⟨"PaintedOver$Reader", "stands", "(I)Z"⟩, 6), (⟨"PaintedOver$Reader", "isDigit", "(I)Z"⟩, 6), (⟨"PaintedOver$Reader", "readCoat", "()V"⟩, 6), (⟨"PaintedOver$Reader", "readColour", "([II)V"⟩, 6), (⟨"PaintedOver$Reader", "readScratch", "()V"⟩, 6), (⟨"PaintedOver", "cheapest", "(LPaintedOver$Front;I)I"⟩, 14), (⟨"PaintedOver", "pairsTrouble", "(IIZ)I"⟩, 14), (⟨"PaintedOver", "forgetPairs", "()V"⟩, 14), (⟨"PaintedOver", "addPair", "(I)V"⟩, 14), (⟨"PaintedOver", "countOrders", "()I"⟩, 14), (⟨"PaintedOver", "mayComeOn", "(II)Z"⟩, 14), (⟨"PaintedOver", "orderFits", "()Z"⟩, 14), (⟨"PaintedOver", "lowestOn", "(I)I"⟩, 14), (⟨"PaintedOver", "inFirstOrder", "(I)I"⟩, 14), (⟨"PaintedOver$Town", "draw", "(I)I"⟩, 10), (⟨"PaintedOverModel", "no", "(I)I"⟩, 33)]
theorem lw_r2 : ∀ q ∈ lw_privs_2, lw_okq q := List.forall_mem_cons.mpr ⟨lw_p16, List.forall_mem_cons.mpr ⟨lw_p17, List.forall_mem_cons.mpr ⟨lw_p18, List.forall_mem_cons.mpr ⟨lw_p19, List.forall_mem_cons.mpr ⟨lw_p20, List.forall_mem_cons.mpr ⟨lw_p21, List.forall_mem_cons.mpr ⟨lw_p22, List.forall_mem_cons.mpr ⟨lw_p23, List.forall_mem_cons.mpr ⟨lw_p24, List.forall_mem_cons.mpr ⟨lw_p25, List.forall_mem_cons.mpr ⟨lw_p26, List.forall_mem_cons.mpr ⟨lw_p27, List.forall_mem_cons.mpr ⟨lw_p28, List.forall_mem_cons.mpr ⟨lw_p29, List.forall_mem_cons.mpr ⟨lw_p30, List.forall_mem_cons.mpr ⟨lw_p31, fun _ h => absurd h List.not_mem_nil⟩⟩⟩⟩⟩⟩⟩⟩⟩⟩⟩⟩⟩⟩⟩⟩
theorem lw_p32 : lw_okq (⟨"PaintedOverModel", "noRow", "(I)I"⟩, 33) := ⟨⟨by decide +kernel, by decide +kernel⟩, List.mem_of_getElem? (i := 915) (by decide +kernel), List.mem_of_getElem? (i := 1036) (by decide +kernel), List.mem_of_getElem? (i := 1037) (by decide +kernel)⟩
theorem lw_p33 : lw_okq (⟨"PaintedOverModel", "isRow", "(I)Z"⟩, 33) := ⟨⟨by decide +kernel, by decide +kernel⟩, List.mem_of_getElem? (i := 915) (by decide +kernel), List.mem_of_getElem? (i := 1040) (by decide +kernel), List.mem_of_getElem? (i := 1041) (by decide +kernel)⟩
theorem lw_p34 : lw_okq (⟨"PaintedOverModel", "isHouse", "(I)Z"⟩, 33) := ⟨⟨by decide +kernel, by decide +kernel⟩, List.mem_of_getElem? (i := 915) (by decide +kernel), List.mem_of_getElem? (i := 1056) (by decide +kernel), List.mem_of_getElem? (i := 1057) (by decide +kernel)⟩
theorem lw_p35 : lw_okq (⟨"PaintedOverModel", "skinOf", "(I)I"⟩, 33) := ⟨⟨by decide +kernel, by decide +kernel⟩, List.mem_of_getElem? (i := 915) (by decide +kernel), List.mem_of_getElem? (i := 1074) (by decide +kernel), List.mem_of_getElem? (i := 1075) (by decide +kernel)⟩
theorem lw_p36 : lw_okq (⟨"PaintedOverModel", "deepOf", "(II)I"⟩, 33) := ⟨⟨by decide +kernel, by decide +kernel⟩, List.mem_of_getElem? (i := 915) (by decide +kernel), List.mem_of_getElem? (i := 1078) (by decide +kernel), List.mem_of_getElem? (i := 1079) (by decide +kernel)⟩
theorem lw_p37 : lw_okq (⟨"PaintedOverModel", "lies", "(II)I"⟩, 33) := ⟨⟨by decide +kernel, by decide +kernel⟩, List.mem_of_getElem? (i := 915) (by decide +kernel), List.mem_of_getElem? (i := 1082) (by decide +kernel), List.mem_of_getElem? (i := 1083) (by decide +kernel)⟩
theorem lw_p38 : lw_okq (⟨"PaintedOverModel", "sum", "(II)I"⟩, 33) := ⟨⟨by decide +kernel, by decide +kernel⟩, List.mem_of_getElem? (i := 915) (by decide +kernel), List.mem_of_getElem? (i := 1089) (by decide +kernel), List.mem_of_getElem? (i := 1090) (by decide +kernel)⟩
theorem lw_p39 : lw_okq (⟨"PaintedOverModel", "wetOf", "(III)I"⟩, 33) := ⟨⟨by decide +kernel, by decide +kernel⟩, List.mem_of_getElem? (i := 915) (by decide +kernel), List.mem_of_getElem? (i := 1093) (by decide +kernel), List.mem_of_getElem? (i := 1094) (by decide +kernel)⟩
theorem lw_p40 : lw_okq (⟨"PaintedOverModel", "hard", "(III)I"⟩, 33) := ⟨⟨by decide +kernel, by decide +kernel⟩, List.mem_of_getElem? (i := 915) (by decide +kernel), List.mem_of_getElem? (i := 1097) (by decide +kernel), List.mem_of_getElem? (i := 1098) (by decide +kernel)⟩
theorem lw_p41 : lw_okq (⟨"PaintedOverModel", "strength", "(II)I"⟩, 33) := ⟨⟨by decide +kernel, by decide +kernel⟩, List.mem_of_getElem? (i := 915) (by decide +kernel), List.mem_of_getElem? (i := 1102) (by decide +kernel), List.mem_of_getElem? (i := 1103) (by decide +kernel)⟩
theorem lw_p42 : lw_okq (⟨"PaintedOverModel", "newHouse", "(II)I"⟩, 33) := ⟨⟨by decide +kernel, by decide +kernel⟩, List.mem_of_getElem? (i := 915) (by decide +kernel), List.mem_of_getElem? (i := 1110) (by decide +kernel), List.mem_of_getElem? (i := 1111) (by decide +kernel)⟩
theorem lw_p43 : lw_okq (⟨"PaintedOverModel", "bare", "(I)V"⟩, 33) := ⟨⟨by decide +kernel, by decide +kernel⟩, List.mem_of_getElem? (i := 915) (by decide +kernel), List.mem_of_getElem? (i := 1114) (by decide +kernel), List.mem_of_getElem? (i := 1115) (by decide +kernel)⟩
theorem lw_p44 : lw_okq (⟨"PaintedOverModel", "lived", "(I)I"⟩, 33) := ⟨⟨by decide +kernel, by decide +kernel⟩, List.mem_of_getElem? (i := 915) (by decide +kernel), List.mem_of_getElem? (i := 1122) (by decide +kernel), List.mem_of_getElem? (i := 1123) (by decide +kernel)⟩
theorem lw_p45 : lw_okq (⟨"PaintedOverModel", "paints", "(IIIII)I"⟩, 33) := ⟨⟨by decide +kernel, by decide +kernel⟩, List.mem_of_getElem? (i := 915) (by decide +kernel), List.mem_of_getElem? (i := 1141) (by decide +kernel), List.mem_of_getElem? (i := 1142) (by decide +kernel)⟩
theorem lw_p46 : lw_okq (⟨"PaintedOverModel", "isCoat", "(II)Z"⟩, 33) := ⟨⟨by decide +kernel, by decide +kernel⟩, List.mem_of_getElem? (i := 915) (by decide +kernel), List.mem_of_getElem? (i := 1149) (by decide +kernel), List.mem_of_getElem? (i := 1150) (by decide +kernel)⟩
theorem lw_p47 : lw_okq (⟨"PaintedOverModel", "keep", "([I)V"⟩, 33) := ⟨⟨by decide +kernel, by decide +kernel⟩, List.mem_of_getElem? (i := 915) (by decide +kernel), List.mem_of_getElem? (i := 1157) (by decide +kernel), List.mem_of_getElem? (i := 1158) (by decide +kernel)⟩
def lw_privs_3 : List (MethodName × Nat) := [(⟨"PaintedOverModel", "noRow", "(I)I"⟩, 33), (⟨"PaintedOverModel", "isRow", "(I)Z"⟩, 33), (⟨"PaintedOverModel", "isHouse", "(I)Z"⟩, 33), (⟨"PaintedOverModel", "skinOf", "(I)I"⟩, 33), (⟨"PaintedOverModel", "deepOf", "(II)I"⟩, 33), (⟨"PaintedOverModel", "lies", "(II)I"⟩, 33), (⟨"PaintedOverModel", "sum", "(II)I"⟩, 33), (⟨"PaintedOverModel", "wetOf", "(III)I"⟩, 33), (⟨"PaintedOverModel", "hard", "(III)I"⟩, 33), (⟨"PaintedOverModel", "strength", "(II)I"⟩, 33), (⟨"PaintedOverModel", "newHouse", "(II)I"⟩, 33), (⟨"PaintedOverModel", "bare", "(I)V"⟩, 33), (⟨"PaintedOverModel", "lived", "(I)I"⟩, 33), (⟨"PaintedOverModel", "paints", "(IIIII)I"⟩, 33), (⟨"PaintedOverModel", "isCoat", "(II)Z"⟩, 33), (⟨"PaintedOverModel", "keep", "([I)V"⟩, 33)]
theorem lw_r3 : ∀ q ∈ lw_privs_3, lw_okq q := List.forall_mem_cons.mpr ⟨lw_p32, List.forall_mem_cons.mpr ⟨lw_p33, List.forall_mem_cons.mpr ⟨lw_p34, List.forall_mem_cons.mpr ⟨lw_p35, List.forall_mem_cons.mpr ⟨lw_p36, List.forall_mem_cons.mpr ⟨lw_p37, List.forall_mem_cons.mpr ⟨lw_p38, List.forall_mem_cons.mpr ⟨lw_p39, List.forall_mem_cons.mpr ⟨lw_p40, List.forall_mem_cons.mpr ⟨lw_p41, List.forall_mem_cons.mpr ⟨lw_p42, List.forall_mem_cons.mpr ⟨lw_p43, List.forall_mem_cons.mpr ⟨lw_p44, List.forall_mem_cons.mpr ⟨lw_p45, List.forall_mem_cons.mpr ⟨lw_p46, List.forall_mem_cons.mpr ⟨lw_p47, fun _ h => absurd h List.not_mem_nil⟩⟩⟩⟩⟩⟩⟩⟩⟩⟩⟩⟩⟩⟩⟩⟩
theorem lw_p48 : lw_okq (⟨"PaintedOverModel", "item", "()Z"⟩, 33) := ⟨⟨by decide +kernel, by decide +kernel⟩, List.mem_of_getElem? (i := 915) (by decide +kernel), List.mem_of_getElem? (i := 1161) (by decide +kernel), List.mem_of_getElem? (i := 1162) (by decide +kernel)⟩
theorem lw_p49 : lw_okq (⟨"PaintedOverModel", "is", "(C)Z"⟩, 33) := ⟨⟨by decide +kernel, by decide +kernel⟩, List.mem_of_getElem? (i := 915) (by decide +kernel), List.mem_of_getElem? (i := 1165) (by decide +kernel), List.mem_of_getElem? (i := 1166) (by decide +kernel)⟩
theorem lw_p50 : lw_okq (⟨"PaintedOverModel", "sign", "()I"⟩, 33) := ⟨⟨by decide +kernel, by decide +kernel⟩, List.mem_of_getElem? (i := 915) (by decide +kernel), List.mem_of_getElem? (i := 1169) (by decide +kernel), List.mem_of_getElem? (i := 1170) (by decide +kernel)⟩
theorem lw_p51 : lw_okq (⟨"PaintedOverModel", "word", "(Ljava/lang/String;)Z"⟩, 33) := ⟨⟨by decide +kernel, by decide +kernel⟩, List.mem_of_getElem? (i := 915) (by decide +kernel), List.mem_of_getElem? (i := 1174) (by decide +kernel), List.mem_of_getElem? (i := 1175) (by decide +kernel)⟩
theorem lw_p52 : lw_okq (⟨"PaintedOverModel", "number", "(III)Z"⟩, 33) := ⟨⟨by decide +kernel, by decide +kernel⟩, List.mem_of_getElem? (i := 915) (by decide +kernel), List.mem_of_getElem? (i := 1180) (by decide +kernel), List.mem_of_getElem? (i := 1181) (by decide +kernel)⟩
theorem lw_p53 : lw_okq (⟨"PaintedOverModel", "sign", "(I)I"⟩, 33) := ⟨⟨by decide +kernel, by decide +kernel⟩, List.mem_of_getElem? (i := 915) (by decide +kernel), List.mem_of_getElem? (i := 1184) (by decide +kernel), List.mem_of_getElem? (i := 1185) (by decide +kernel)⟩
theorem lw_p54 : lw_okq (⟨"PaintedOverModel", "hailAll", "(I)I"⟩, 33) := ⟨⟨by decide +kernel, by decide +kernel⟩, List.mem_of_getElem? (i := 915) (by decide +kernel), List.mem_of_getElem? (i := 1200) (by decide +kernel), List.mem_of_getElem? (i := 1201) (by decide +kernel)⟩
theorem lw_p55 : lw_okq (⟨"PaintedOverModel", "behind", "(III)I"⟩, 33) := ⟨⟨by decide +kernel, by decide +kernel⟩, List.mem_of_getElem? (i := 915) (by decide +kernel), List.mem_of_getElem? (i := 1204) (by decide +kernel), List.mem_of_getElem? (i := 1205) (by decide +kernel)⟩
theorem lw_p56 : lw_okq (⟨"PaintedOverModel", "again", "([I)V"⟩, 33) := ⟨⟨by decide +kernel, by decide +kernel⟩, List.mem_of_getElem? (i := 915) (by decide +kernel), List.mem_of_getElem? (i := 1211) (by decide +kernel), List.mem_of_getElem? (i := 1212) (by decide +kernel)⟩
theorem lw_p57 : lw_okq (⟨"PaintedOverModel", "no10", "(I)I"⟩, 33) := ⟨⟨by decide +kernel, by decide +kernel⟩, List.mem_of_getElem? (i := 915) (by decide +kernel), List.mem_of_getElem? (i := 1223) (by decide +kernel), List.mem_of_getElem? (i := 1224) (by decide +kernel)⟩
theorem lw_p58 : lw_okq (⟨"PaintedOverModel", "seenAt", "(III)I"⟩, 33) := ⟨⟨by decide +kernel, by decide +kernel⟩, List.mem_of_getElem? (i := 915) (by decide +kernel), List.mem_of_getElem? (i := 1230) (by decide +kernel), List.mem_of_getElem? (i := 1231) (by decide +kernel)⟩
theorem lw_p59 : lw_okq (⟨"PaintedOverModel", "seenIn", "(III)I"⟩, 33) := ⟨⟨by decide +kernel, by decide +kernel⟩, List.mem_of_getElem? (i := 915) (by decide +kernel), List.mem_of_getElem? (i := 1234) (by decide +kernel), List.mem_of_getElem? (i := 1235) (by decide +kernel)⟩
theorem lw_p60 : lw_okq (⟨"PaintedOverModel", "seenAll", "(II)I"⟩, 33) := ⟨⟨by decide +kernel, by decide +kernel⟩, List.mem_of_getElem? (i := 915) (by decide +kernel), List.mem_of_getElem? (i := 1262) (by decide +kernel), List.mem_of_getElem? (i := 1263) (by decide +kernel)⟩
theorem lw_p61 : lw_okq (⟨"PaintedOverModel", "noPairs", "(IIZ)I"⟩, 33) := ⟨⟨by decide +kernel, by decide +kernel⟩, List.mem_of_getElem? (i := 915) (by decide +kernel), List.mem_of_getElem? (i := 1290) (by decide +kernel), List.mem_of_getElem? (i := 1291) (by decide +kernel)⟩
theorem lw_p62 : lw_okq (⟨"PaintedOverModel", "pairs", "(II)V"⟩, 33) := ⟨⟨by decide +kernel, by decide +kernel⟩, List.mem_of_getElem? (i := 915) (by decide +kernel), List.mem_of_getElem? (i := 1294) (by decide +kernel), List.mem_of_getElem? (i := 1295) (by decide +kernel)⟩
theorem lw_p63 : lw_okq (⟨"PaintedOverModel", "ordersFrom", "(I)I"⟩, 33) := ⟨⟨by decide +kernel, by decide +kernel⟩, List.mem_of_getElem? (i := 915) (by decide +kernel), List.mem_of_getElem? (i := 1298) (by decide +kernel), List.mem_of_getElem? (i := 1299) (by decide +kernel)⟩
def lw_privs_4 : List (MethodName × Nat) := [(⟨"PaintedOverModel", "item", "()Z"⟩, 33), (⟨"PaintedOverModel", "is", "(C)Z"⟩, 33), (⟨"PaintedOverModel", "sign", "()I"⟩, 33), (⟨"PaintedOverModel", "word", "(Ljava/lang/String;)Z"⟩, 33), (⟨"PaintedOverModel", "number", "(III)Z"⟩, 33), (⟨"PaintedOverModel", "sign", "(I)I"⟩, 33), (⟨"PaintedOverModel", "hailAll", "(I)I"⟩, 33), (⟨"PaintedOverModel", "behind", "(III)I"⟩, 33), (⟨"PaintedOverModel", "again", "([I)V"⟩, 33), (⟨"PaintedOverModel", "no10", "(I)I"⟩, 33), (⟨"PaintedOverModel", "seenAt", "(III)I"⟩, 33), (⟨"PaintedOverModel", "seenIn", "(III)I"⟩, 33), (⟨"PaintedOverModel", "seenAll", "(II)I"⟩, 33), (⟨"PaintedOverModel", "noPairs", "(IIZ)I"⟩, 33), (⟨"PaintedOverModel", "pairs", "(II)V"⟩, 33), (⟨"PaintedOverModel", "ordersFrom", "(I)I"⟩, 33)]
theorem lw_r4 : ∀ q ∈ lw_privs_4, lw_okq q := List.forall_mem_cons.mpr ⟨lw_p48, List.forall_mem_cons.mpr ⟨lw_p49, List.forall_mem_cons.mpr ⟨lw_p50, List.forall_mem_cons.mpr ⟨lw_p51, List.forall_mem_cons.mpr ⟨lw_p52, List.forall_mem_cons.mpr ⟨lw_p53, List.forall_mem_cons.mpr ⟨lw_p54, List.forall_mem_cons.mpr ⟨lw_p55, List.forall_mem_cons.mpr ⟨lw_p56, List.forall_mem_cons.mpr ⟨lw_p57, List.forall_mem_cons.mpr ⟨lw_p58, List.forall_mem_cons.mpr ⟨lw_p59, List.forall_mem_cons.mpr ⟨lw_p60, List.forall_mem_cons.mpr ⟨lw_p61, List.forall_mem_cons.mpr ⟨lw_p62, List.forall_mem_cons.mpr ⟨lw_p63, fun _ h => absurd h List.not_mem_nil⟩⟩⟩⟩⟩⟩⟩⟩⟩⟩⟩⟩⟩⟩⟩⟩
theorem lw_p64 : lw_okq (⟨"PaintedOverModel", "deepest", "(I)I"⟩, 33) := ⟨⟨by decide +kernel, by decide +kernel⟩, List.mem_of_getElem? (i := 915) (by decide +kernel), List.mem_of_getElem? (i := 1310) (by decide +kernel), List.mem_of_getElem? (i := 1311) (by decide +kernel)⟩
theorem lw_p65 : lw_okq (⟨"PaintedOverModel", "fall", "()I"⟩, 33) := ⟨⟨by decide +kernel, by decide +kernel⟩, List.mem_of_getElem? (i := 915) (by decide +kernel), List.mem_of_getElem? (i := 1330) (by decide +kernel), List.mem_of_getElem? (i := 1331) (by decide +kernel)⟩
theorem lw_p66 : lw_okq (⟨"PaintedOverModel", "draw", "(I)I"⟩, 33) := ⟨⟨by decide +kernel, by decide +kernel⟩, List.mem_of_getElem? (i := 915) (by decide +kernel), List.mem_of_getElem? (i := 1338) (by decide +kernel), List.mem_of_getElem? (i := 1339) (by decide +kernel)⟩
theorem lw_p67 : lw_okq (⟨"PaintedOverModel", "paintsAct", "(II)I"⟩, 33) := ⟨⟨by decide +kernel, by decide +kernel⟩, List.mem_of_getElem? (i := 915) (by decide +kernel), List.mem_of_getElem? (i := 1351) (by decide +kernel), List.mem_of_getElem? (i := 1352) (by decide +kernel)⟩
theorem lw_p68 : lw_okq (⟨"PaintedOverModel", "ran", "(I)V"⟩, 33) := ⟨⟨by decide +kernel, by decide +kernel⟩, List.mem_of_getElem? (i := 915) (by decide +kernel), List.mem_of_getElem? (i := 1355) (by decide +kernel), List.mem_of_getElem? (i := 1356) (by decide +kernel)⟩
theorem lw_p69 : lw_okq (⟨"PaintedOverModel", "peels", "(II)I"⟩, 33) := ⟨⟨by decide +kernel, by decide +kernel⟩, List.mem_of_getElem? (i := 915) (by decide +kernel), List.mem_of_getElem? (i := 1359) (by decide +kernel), List.mem_of_getElem? (i := 1360) (by decide +kernel)⟩
theorem lw_p70 : lw_okq (⟨"PaintedOverModel", "fallsAct", "(II)I"⟩, 33) := ⟨⟨by decide +kernel, by decide +kernel⟩, List.mem_of_getElem? (i := 915) (by decide +kernel), List.mem_of_getElem? (i := 1363) (by decide +kernel), List.mem_of_getElem? (i := 1364) (by decide +kernel)⟩
def lw_privs_5 : List (MethodName × Nat) := [(⟨"PaintedOverModel", "deepest", "(I)I"⟩, 33), (⟨"PaintedOverModel", "fall", "()I"⟩, 33), (⟨"PaintedOverModel", "draw", "(I)I"⟩, 33), (⟨"PaintedOverModel", "paintsAct", "(II)I"⟩, 33), (⟨"PaintedOverModel", "ran", "(I)V"⟩, 33), (⟨"PaintedOverModel", "peels", "(II)I"⟩, 33), (⟨"PaintedOverModel", "fallsAct", "(II)I"⟩, 33)]
theorem lw_r5 : ∀ q ∈ lw_privs_5, lw_okq q := List.forall_mem_cons.mpr ⟨lw_p64, List.forall_mem_cons.mpr ⟨lw_p65, List.forall_mem_cons.mpr ⟨lw_p66, List.forall_mem_cons.mpr ⟨lw_p67, List.forall_mem_cons.mpr ⟨lw_p68, List.forall_mem_cons.mpr ⟨lw_p69, List.forall_mem_cons.mpr ⟨lw_p70, fun _ h => absurd h List.not_mem_nil⟩⟩⟩⟩⟩⟩⟩
def lw_privs : List (MethodName × Nat) := lw_privs_1 ++ (lw_privs_2 ++ (lw_privs_3 ++ (lw_privs_4 ++ (lw_privs_5))))
def lw_tbl : List Cond := k2_sels lw_privs ++ tables_1
theorem lw_privs_ok : ∀ q ∈ lw_privs, lw_okq q := by
  show ∀ q ∈ lw_privs_1 ++ (lw_privs_2 ++ (lw_privs_3 ++ (lw_privs_4 ++ (lw_privs_5)))), lw_okq q
  exact List.forall_mem_append.mpr ⟨lw_r1, List.forall_mem_append.mpr ⟨lw_r2, List.forall_mem_append.mpr ⟨lw_r3, List.forall_mem_append.mpr ⟨lw_r4, lw_r5⟩⟩⟩⟩
-- ===== end of PART A; then your names; then what follows =====
def RX0 : String := "PaintedOver$Bare"
def TX0 : u_T := fun k => match k with
  | _ => ("", "", "", false)
def tyX0 : Nat → FieldType := fun k => match k with
  | _ => .int
theorem nmX0 : ∀ a, a < 0 → ∀ b, b < 0 → a ≠ b → (TX0 a).2.1 ≠ (TX0 b).2.1 := by decide +kernel
theorem tyX0_ok : ∀ k, k < 0 → parseFieldDescriptor (TX0 k).2.2.1 = some (tyX0 k) := by decide +kernel
abbrev cX0_init : ByteArray := prog_2_method_1_code
def yX0_init : MethodName := ⟨RX0, "<init>", "()V"⟩
abbrev cX0_hardness : ByteArray := prog_2_method_2_code
def yX0_hardness : MethodName := ⟨RX0, "hardness", "(III)I"⟩
abbrev cX0_actPaints : ByteArray := prog_2_method_3_code
def yX0_actPaints : MethodName := ⟨RX0, "actPaints", "(LPaintedOver$Trace;I)I"⟩
abbrev cX0_actPeels : ByteArray := prog_2_method_4_code
def yX0_actPeels : MethodName := ⟨RX0, "actPeels", "(LPaintedOver$Trace;I)I"⟩
def RX1 : String := "PaintedOver$Cellar"
def TX1 : u_T := fun k => match k with
  | _ => ("", "", "", false)
def tyX1 : Nat → FieldType := fun k => match k with
  | _ => .int
theorem nmX1 : ∀ a, a < 0 → ∀ b, b < 0 → a ≠ b → (TX1 a).2.1 ≠ (TX1 b).2.1 := by decide +kernel
theorem tyX1_ok : ∀ k, k < 0 → parseFieldDescriptor (TX1 k).2.2.1 = some (tyX1 k) := by decide +kernel
abbrev cX1_init : ByteArray := prog_3_method_1_code
def yX1_init : MethodName := ⟨RX1, "<init>", "()V"⟩
abbrev cX1_wetness : ByteArray := prog_3_method_2_code
def yX1_wetness : MethodName := ⟨RX1, "wetness", "(III)I"⟩
abbrev cX1_actPeels : ByteArray := prog_3_method_3_code
def yX1_actPeels : MethodName := ⟨RX1, "actPeels", "(LPaintedOver$Trace;I)I"⟩
def RX2 : String := "PaintedOver$Damp"
def TX2 : u_T := fun k => match k with
  | _ => ("", "", "", false)
def tyX2 : Nat → FieldType := fun k => match k with
  | _ => .int
theorem nmX2 : ∀ a, a < 0 → ∀ b, b < 0 → a ≠ b → (TX2 a).2.1 ≠ (TX2 b).2.1 := by decide +kernel
theorem tyX2_ok : ∀ k, k < 0 → parseFieldDescriptor (TX2 k).2.2.1 = some (tyX2 k) := by decide +kernel
abbrev cX2_init : ByteArray := prog_4_method_1_code
def yX2_init : MethodName := ⟨RX2, "<init>", "()V"⟩
abbrev cX2_wetness : ByteArray := prog_4_method_2_code
def yX2_wetness : MethodName := ⟨RX2, "wetness", "(III)I"⟩
abbrev cX2_actPaints : ByteArray := prog_4_method_3_code
def yX2_actPaints : MethodName := ⟨RX2, "actPaints", "(LPaintedOver$Trace;I)I"⟩
def RX3 : String := "PaintedOver$Front"
def TX3 : u_T := fun k => match k with
  | 0 => ("PaintedOver$Front", "kind", "LPaintedOver$Kind;", false)
  | 1 => ("PaintedOver$Front", "kindNumber", "I", false)
  | 2 => ("PaintedOver$Front", "a", "I", false)
  | 3 => ("PaintedOver$Front", "coats", "I", false)
  | 4 => ("PaintedOver$Front", "tenant", "[I", true)
  | 5 => ("PaintedOver$Front", "colour", "[I", true)
  | 6 => ("PaintedOver$Front", "thick", "[I", true)
  | 7 => ("PaintedOver$Front", "gap", "[I", true)
  | 8 => ("PaintedOver$Front", "year", "[I", true)
  | _ => ("PaintedOver$Front", "gone", "[I", true)
def tyX3 : Nat → FieldType := fun k => match k with
  | 0 => .object "PaintedOver$Kind"
  | 1 => .int
  | 2 => .int
  | 3 => .int
  | 4 => .array .int
  | 5 => .array .int
  | 6 => .array .int
  | 7 => .array .int
  | 8 => .array .int
  | _ => .array .int
theorem nmX3 : ∀ a, a < 10 → ∀ b, b < 10 → a ≠ b → (TX3 a).2.1 ≠ (TX3 b).2.1 := by decide +kernel
theorem tyX3_ok : ∀ k, k < 10 → parseFieldDescriptor (TX3 k).2.2.1 = some (tyX3 k) := by decide +kernel
abbrev cX3_init : ByteArray := prog_5_method_1_code
def yX3_init : MethodName := ⟨RX3, "<init>", "(LPaintedOver$Kind;)V"⟩
abbrev cX3_become : ByteArray := prog_5_method_2_code
def yX3_become : MethodName := ⟨RX3, "become", "(LPaintedOver$Front;)V"⟩
abbrev cX3_clear : ByteArray := prog_5_method_3_code
def yX3_clear : MethodName := ⟨RX3, "clear", "()V"⟩
abbrev cX3_putOn : ByteArray := prog_5_method_4_code
def yX3_putOn : MethodName := ⟨RX3, "putOn", "(IIIII)I"⟩
abbrev cX3_lies : ByteArray := prog_5_method_5_code
def yX3_lies : MethodName := ⟨RX3, "lies", "(II)Z"⟩
abbrev cX3_lyingIn : ByteArray := prog_5_method_6_code
def yX3_lyingIn : MethodName := ⟨RX3, "lyingIn", "(I)I"⟩
abbrev cX3_cellsOf : ByteArray := prog_5_method_7_code
def yX3_cellsOf : MethodName := ⟨RX3, "cellsOf", "(I)I"⟩
abbrev cX3_depthFrom : ByteArray := prog_5_method_8_code
def yX3_depthFrom : MethodName := ⟨RX3, "depthFrom", "(II)I"⟩
abbrev cX3_depth : ByteArray := prog_5_method_9_code
def yX3_depth : MethodName := ⟨RX3, "depth", "(I)I"⟩
abbrev cX3_greatestDepth : ByteArray := prog_5_method_10_code
def yX3_greatestDepth : MethodName := ⟨RX3, "greatestDepth", "()I"⟩
abbrev cX3_wholeSkin : ByteArray := prog_5_method_11_code
def yX3_wholeSkin : MethodName := ⟨RX3, "wholeSkin", "()I"⟩
abbrev cX3_lived : ByteArray := prog_5_method_12_code
def yX3_lived : MethodName := ⟨RX3, "lived", "()I"⟩
abbrev cX3_coatsOf : ByteArray := prog_5_method_13_code
def yX3_coatsOf : MethodName := ⟨RX3, "coatsOf", "(I)I"⟩
abbrev cX3_wetness : ByteArray := prog_5_method_14_code
def yX3_wetness : MethodName := ⟨RX3, "wetness", "(II)I"⟩
abbrev cX3_hardness : ByteArray := prog_5_method_15_code
def yX3_hardness : MethodName := ⟨RX3, "hardness", "(II)I"⟩
abbrev cX3_wettestBut : ByteArray := prog_5_method_16_code
def yX3_wettestBut : MethodName := ⟨RX3, "wettestBut", "(II)I"⟩
abbrev cX3_behindHail : ByteArray := prog_5_method_17_code
def yX3_behindHail : MethodName := ⟨RX3, "behindHail", "(II)I"⟩
abbrev cX3_hailInTruth : ByteArray := prog_5_method_18_code
def yX3_hailInTruth : MethodName := ⟨RX3, "hailInTruth", "(II)I"⟩
abbrev cX3_takeUppermost : ByteArray := prog_5_method_19_code
def yX3_takeUppermost : MethodName := ⟨RX3, "takeUppermost", "(I)I"⟩
def RX4 : String := "PaintedOver$Kind"
def TX4 : u_T := fun k => match k with
  | _ => ("", "", "", false)
def tyX4 : Nat → FieldType := fun k => match k with
  | _ => .int
theorem nmX4 : ∀ a, a < 0 → ∀ b, b < 0 → a ≠ b → (TX4 a).2.1 ≠ (TX4 b).2.1 := by decide +kernel
theorem tyX4_ok : ∀ k, k < 0 → parseFieldDescriptor (TX4 k).2.2.1 = some (tyX4 k) := by decide +kernel
abbrev cX4_init : ByteArray := prog_6_method_1_code
def yX4_init : MethodName := ⟨RX4, "<init>", "()V"⟩
abbrev cX4_wetness : ByteArray := prog_6_method_2_code
def yX4_wetness : MethodName := ⟨RX4, "wetness", "(III)I"⟩
abbrev cX4_hardness : ByteArray := prog_6_method_3_code
def yX4_hardness : MethodName := ⟨RX4, "hardness", "(III)I"⟩
abbrev cX4_counted : ByteArray := prog_6_method_4_code
def yX4_counted : MethodName := ⟨RX4, "counted", "(I)I"⟩
abbrev cX4_actPaints : ByteArray := prog_6_method_5_code
def yX4_actPaints : MethodName := ⟨RX4, "actPaints", "(LPaintedOver$Trace;I)I"⟩
abbrev cX4_actPeels : ByteArray := prog_6_method_6_code
def yX4_actPeels : MethodName := ⟨RX4, "actPeels", "(LPaintedOver$Trace;I)I"⟩
abbrev cX4_actFalls : ByteArray := prog_6_method_7_code
def yX4_actFalls : MethodName := ⟨RX4, "actFalls", "(LPaintedOver$Trace;I)I"⟩
def RX5 : String := "PaintedOver$Limed"
def TX5 : u_T := fun k => match k with
  | _ => ("", "", "", false)
def tyX5 : Nat → FieldType := fun k => match k with
  | _ => .int
theorem nmX5 : ∀ a, a < 0 → ∀ b, b < 0 → a ≠ b → (TX5 a).2.1 ≠ (TX5 b).2.1 := by decide +kernel
theorem tyX5_ok : ∀ k, k < 0 → parseFieldDescriptor (TX5 k).2.2.1 = some (tyX5 k) := by decide +kernel
abbrev cX5_init : ByteArray := prog_7_method_1_code
def yX5_init : MethodName := ⟨RX5, "<init>", "()V"⟩
abbrev cX5_hardness : ByteArray := prog_7_method_2_code
def yX5_hardness : MethodName := ⟨RX5, "hardness", "(III)I"⟩
abbrev cX5_actPeels : ByteArray := prog_7_method_3_code
def yX5_actPeels : MethodName := ⟨RX5, "actPeels", "(LPaintedOver$Trace;I)I"⟩
def RX6 : String := "PaintedOver$Reader"
def TX6 : u_T := fun k => match k with
  | 0 => ("PaintedOver$Reader", "town", "LPaintedOver$Town;", false)
  | 1 => ("PaintedOver$Reader", "row", "[J", false)
  | 2 => ("PaintedOver$Reader", "size", "I", false)
  | 3 => ("PaintedOver$Reader", "at", "I", false)
  | 4 => ("PaintedOver$Reader", "numberAt", "I", false)
  | _ => ("PaintedOver$Reader", "fault", "I", false)
def tyX6 : Nat → FieldType := fun k => match k with
  | 0 => .object "PaintedOver$Town"
  | 1 => .array .long
  | 2 => .int
  | 3 => .int
  | 4 => .int
  | _ => .int
theorem nmX6 : ∀ a, a < 6 → ∀ b, b < 6 → a ≠ b → (TX6 a).2.1 ≠ (TX6 b).2.1 := by decide +kernel
theorem tyX6_ok : ∀ k, k < 6 → parseFieldDescriptor (TX6 k).2.2.1 = some (tyX6 k) := by decide +kernel
abbrev cX6_init : ByteArray := prog_8_method_1_code
def yX6_init : MethodName := ⟨RX6, "<init>", "()V"⟩
abbrev cX6_readAll : ByteArray := prog_8_method_2_code
def yX6_readAll : MethodName := ⟨RX6, "readAll", "(LPaintedOver$Town;[JI)I"⟩
abbrev cX6_readItem : ByteArray := prog_8_method_3_code
def yX6_readItem : MethodName := ⟨RX6, "readItem", "()V"⟩
abbrev cX6_word : ByteArray := prog_8_method_4_code
def yX6_word : MethodName := ⟨RX6, "word", "(I)Ljava/lang/String;"⟩
abbrev cX6_readWord : ByteArray := prog_8_method_5_code
def yX6_readWord : MethodName := ⟨RX6, "readWord", "()I"⟩
abbrev cX6_sameLetters : ByteArray := prog_8_method_6_code
def yX6_sameLetters : MethodName := ⟨RX6, "sameLetters", "(Ljava/lang/String;)I"⟩
abbrev cX6_readHouse : ByteArray := prog_8_method_7_code
def yX6_readHouse : MethodName := ⟨RX6, "readHouse", "(I)V"⟩
abbrev cX6_readCoat : ByteArray := prog_8_method_8_code
def yX6_readCoat : MethodName := ⟨RX6, "readCoat", "()V"⟩
abbrev cX6_readColour : ByteArray := prog_8_method_9_code
def yX6_readColour : MethodName := ⟨RX6, "readColour", "([II)V"⟩
abbrev cX6_readScratch : ByteArray := prog_8_method_10_code
def yX6_readScratch : MethodName := ⟨RX6, "readScratch", "()V"⟩
abbrev cX6_readNumber : ByteArray := prog_8_method_11_code
def yX6_readNumber : MethodName := ⟨RX6, "readNumber", "(II)I"⟩
abbrev cX6_stands : ByteArray := prog_8_method_12_code
def yX6_stands : MethodName := ⟨RX6, "stands", "(I)Z"⟩
abbrev cX6_isDigit : ByteArray := prog_8_method_13_code
def yX6_isDigit : MethodName := ⟨RX6, "isDigit", "(I)Z"⟩
abbrev cX6_elementAt : ByteArray := prog_8_method_14_code
def yX6_elementAt : MethodName := ⟨RX6, "elementAt", "(I)I"⟩
def RX7 : String := "PaintedOver$South"
def TX7 : u_T := fun k => match k with
  | _ => ("", "", "", false)
def tyX7 : Nat → FieldType := fun k => match k with
  | _ => .int
theorem nmX7 : ∀ a, a < 0 → ∀ b, b < 0 → a ≠ b → (TX7 a).2.1 ≠ (TX7 b).2.1 := by decide +kernel
theorem tyX7_ok : ∀ k, k < 0 → parseFieldDescriptor (TX7 k).2.2.1 = some (tyX7 k) := by decide +kernel
abbrev cX7_init : ByteArray := prog_9_method_1_code
def yX7_init : MethodName := ⟨RX7, "<init>", "()V"⟩
abbrev cX7_counted : ByteArray := prog_9_method_2_code
def yX7_counted : MethodName := ⟨RX7, "counted", "(I)I"⟩
abbrev cX7_actFalls : ByteArray := prog_9_method_3_code
def yX7_actFalls : MethodName := ⟨RX7, "actFalls", "(LPaintedOver$Trace;I)I"⟩
abbrev cX7_actPaints : ByteArray := prog_9_method_4_code
def yX7_actPaints : MethodName := ⟨RX7, "actPaints", "(LPaintedOver$Trace;I)I"⟩
def RX8 : String := "PaintedOver$Tiled"
def TX8 : u_T := fun k => match k with
  | _ => ("", "", "", false)
def tyX8 : Nat → FieldType := fun k => match k with
  | _ => .int
theorem nmX8 : ∀ a, a < 0 → ∀ b, b < 0 → a ≠ b → (TX8 a).2.1 ≠ (TX8 b).2.1 := by decide +kernel
theorem tyX8_ok : ∀ k, k < 0 → parseFieldDescriptor (TX8 k).2.2.1 = some (tyX8 k) := by decide +kernel
abbrev cX8_init : ByteArray := prog_10_method_1_code
def yX8_init : MethodName := ⟨RX8, "<init>", "()V"⟩
abbrev cX8_hardness : ByteArray := prog_10_method_2_code
def yX8_hardness : MethodName := ⟨RX8, "hardness", "(III)I"⟩
abbrev cX8_actFalls : ByteArray := prog_10_method_3_code
def yX8_actFalls : MethodName := ⟨RX8, "actFalls", "(LPaintedOver$Trace;I)I"⟩
def RX9 : String := "PaintedOver$Town"
def TX9 : u_T := fun k => match k with
  | 0 => ("PaintedOver$Town", "kinds", "[LPaintedOver$Kind;", true)
  | 1 => ("PaintedOver$Town", "fronts", "[LPaintedOver$Front;", true)
  | 2 => ("PaintedOver$Town", "houses", "I", false)
  | 3 => ("PaintedOver$Town", "hides", "[I", true)
  | 4 => ("PaintedOver$Town", "costs", "[I", true)
  | 5 => ("PaintedOver$Town", "limit", "I", false)
  | 6 => ("PaintedOver$Town", "wide", "I", false)
  | 7 => ("PaintedOver$Town", "year", "I", false)
  | 8 => ("PaintedOver$Town", "fallen", "I", false)
  | _ => ("PaintedOver$Town", "seed", "I", false)
def tyX9 : Nat → FieldType := fun k => match k with
  | 0 => .array (.object "PaintedOver$Kind")
  | 1 => .array (.object "PaintedOver$Front")
  | 2 => .int
  | 3 => .array .int
  | 4 => .array .int
  | 5 => .int
  | 6 => .int
  | 7 => .int
  | 8 => .int
  | _ => .int
theorem nmX9 : ∀ a, a < 10 → ∀ b, b < 10 → a ≠ b → (TX9 a).2.1 ≠ (TX9 b).2.1 := by decide +kernel
theorem tyX9_ok : ∀ k, k < 10 → parseFieldDescriptor (TX9 k).2.2.1 = some (tyX9 k) := by decide +kernel
abbrev cX9_init : ByteArray := prog_11_method_1_code
def yX9_init : MethodName := ⟨RX9, "<init>", "([LPaintedOver$Kind;)V"⟩
abbrev cX9_become : ByteArray := prog_11_method_2_code
def yX9_become : MethodName := ⟨RX9, "become", "(LPaintedOver$Town;)V"⟩
abbrev cX9_build : ByteArray := prog_11_method_3_code
def yX9_build : MethodName := ⟨RX9, "build", "(II)I"⟩
abbrev cX9_coatsInAll : ByteArray := prog_11_method_4_code
def yX9_coatsInAll : MethodName := ⟨RX9, "coatsInAll", "()I"⟩
abbrev cX9_strength : ByteArray := prog_11_method_5_code
def yX9_strength : MethodName := ⟨RX9, "strength", "(LPaintedOver$Front;II)I"⟩
abbrev cX9_seenAmong : ByteArray := prog_11_method_6_code
def yX9_seenAmong : MethodName := ⟨RX9, "seenAmong", "(LPaintedOver$Front;III)I"⟩
abbrev cX9_seenSomewhere : ByteArray := prog_11_method_7_code
def yX9_seenSomewhere : MethodName := ⟨RX9, "seenSomewhere", "(LPaintedOver$Front;I)I"⟩
abbrev cX9_hailOnAll : ByteArray := prog_11_method_8_code
def yX9_hailOnAll : MethodName := ⟨RX9, "hailOnAll", "(I)I"⟩
abbrev cX9_letFall : ByteArray := prog_11_method_9_code
def yX9_letFall : MethodName := ⟨RX9, "letFall", "()I"⟩
abbrev cX9_draw : ByteArray := prog_11_method_10_code
def yX9_draw : MethodName := ⟨RX9, "draw", "(I)I"⟩
abbrev cX9_passYear : ByteArray := prog_11_method_11_code
def yX9_passYear : MethodName := ⟨RX9, "passYear", "()V"⟩
def RX10 : String := "PaintedOver$Trace"
def TX10 : u_T := fun k => match k with
  | 0 => ("PaintedOver$Trace", "m", "I", false)
  | 1 => ("PaintedOver$Trace", "k", "I", false)
  | 2 => ("PaintedOver$Trace", "ran", "I", false)
  | _ => ("PaintedOver$Trace", "bodies", "[I", true)
def tyX10 : Nat → FieldType := fun k => match k with
  | 0 => .int
  | 1 => .int
  | 2 => .int
  | _ => .array .int
theorem nmX10 : ∀ a, a < 4 → ∀ b, b < 4 → a ≠ b → (TX10 a).2.1 ≠ (TX10 b).2.1 := by decide +kernel
theorem tyX10_ok : ∀ k, k < 4 → parseFieldDescriptor (TX10 k).2.2.1 = some (tyX10 k) := by decide +kernel
abbrev cX10_init : ByteArray := prog_12_method_1_code
def yX10_init : MethodName := ⟨RX10, "<init>", "()V"⟩
abbrev cX10_begin : ByteArray := prog_12_method_2_code
def yX10_begin : MethodName := ⟨RX10, "begin", "(I)V"⟩
def RX11 : String := "PaintedOver"
def TX11 : u_T := fun k => match k with
  | 0 => ("PaintedOver", "held", "[I", true)
  | 1 => ("PaintedOver", "sizes", "[I", true)
  | 2 => ("PaintedOver", "elements", "[[J", true)
  | 3 => ("PaintedOver", "refusals", "[I", true)
  | 4 => ("PaintedOver", "named", "I", false)
  | 5 => ("PaintedOver", "beneath", "[I", true)
  | 6 => ("PaintedOver", "ways", "[I", true)
  | 7 => ("PaintedOver", "now", "LPaintedOver$Town;", false)
  | 8 => ("PaintedOver", "draft", "LPaintedOver$Town;", false)
  | 9 => ("PaintedOver", "kept", "LPaintedOver$Town;", true)
  | 10 => ("PaintedOver", "isKept", "Z", false)
  | 11 => ("PaintedOver", "reader", "LPaintedOver$Reader;", true)
  | 12 => ("PaintedOver", "latestFault", "I", false)
  | _ => ("PaintedOver", "latest", "LPaintedOver$Trace;", true)
def tyX11 : Nat → FieldType := fun k => match k with
  | 0 => .array .int
  | 1 => .array .int
  | 2 => .array (.array .long)
  | 3 => .array .int
  | 4 => .int
  | 5 => .array .int
  | 6 => .array .int
  | 7 => .object "PaintedOver$Town"
  | 8 => .object "PaintedOver$Town"
  | 9 => .object "PaintedOver$Town"
  | 10 => .boolean
  | 11 => .object "PaintedOver$Reader"
  | 12 => .int
  | _ => .object "PaintedOver$Trace"
theorem nmX11 : ∀ a, a < 14 → ∀ b, b < 14 → a ≠ b → (TX11 a).2.1 ≠ (TX11 b).2.1 := by decide +kernel
theorem tyX11_ok : ∀ k, k < 14 → parseFieldDescriptor (TX11 k).2.2.1 = some (tyX11 k) := by decide +kernel
abbrev cX11_init : ByteArray := prog_1_method_1_code
def yX11_init : MethodName := ⟨RX11, "<init>", "()V"⟩
abbrev cX11_row : ByteArray := prog_1_method_2_code
def yX11_row : MethodName := ⟨RX11, "row", "(III)I"⟩
abbrev cX11_set : ByteArray := prog_1_method_3_code
def yX11_set : MethodName := ⟨RX11, "set", "(IIJ)I"⟩
abbrev cX11_copy : ByteArray := prog_1_method_4_code
def yX11_copy : MethodName := ⟨RX11, "copy", "(IIIII)I"⟩
abbrev cX11_element : ByteArray := prog_1_method_5_code
def yX11_element : MethodName := ⟨RX11, "element", "(II)J"⟩
abbrev cX11_show : ByteArray := prog_1_method_6_code
def yX11_show : MethodName := ⟨RX11, "show", "(II)I"⟩
abbrev cX11_holds : ByteArray := prog_1_method_7_code
def yX11_holds : MethodName := ⟨RX11, "holds", "(I)I"⟩
abbrev cX11_says : ByteArray := prog_1_method_8_code
def yX11_says : MethodName := ⟨RX11, "says", "(II)I"⟩
abbrev cX11_house : ByteArray := prog_1_method_9_code
def yX11_house : MethodName := ⟨RX11, "house", "(II)I"⟩
abbrev cX11_houseOf : ByteArray := prog_1_method_10_code
def yX11_houseOf : MethodName := ⟨RX11, "houseOf", "(II)I"⟩
abbrev cX11_colour : ByteArray := prog_1_method_11_code
def yX11_colour : MethodName := ⟨RX11, "colour", "(III)I"⟩
abbrev cX11_ask : ByteArray := prog_1_method_12_code
def yX11_ask : MethodName := ⟨RX11, "ask", "(II)I"⟩
abbrev cX11_coat : ByteArray := prog_1_method_13_code
def yX11_coat : MethodName := ⟨RX11, "coat", "(IIIII)I"⟩
abbrev cX11_coatOf : ByteArray := prog_1_method_14_code
def yX11_coatOf : MethodName := ⟨RX11, "coatOf", "(III)I"⟩
abbrev cX11_street : ByteArray := prog_1_method_15_code
def yX11_street : MethodName := ⟨RX11, "street", "(I)I"⟩
abbrev cX11_fault : ByteArray := prog_1_method_16_code
def yX11_fault : MethodName := ⟨RX11, "fault", "()I"⟩
abbrev cX11_seen : ByteArray := prog_1_method_17_code
def yX11_seen : MethodName := ⟨RX11, "seen", "(III)I"⟩
abbrev cX11_wet : ByteArray := prog_1_method_18_code
def yX11_wet : MethodName := ⟨RX11, "wet", "(III)I"⟩
abbrev cX11_deep : ByteArray := prog_1_method_19_code
def yX11_deep : MethodName := ⟨RX11, "deep", "(II)I"⟩
abbrev cX11_skin : ByteArray := prog_1_method_20_code
def yX11_skin : MethodName := ⟨RX11, "skin", "(I)I"⟩
abbrev cX11_hailed : ByteArray := prog_1_method_21_code
def yX11_hailed : MethodName := ⟨RX11, "hailed", "(III)I"⟩
abbrev cX11_razor : ByteArray := prog_1_method_22_code
def yX11_razor : MethodName := ⟨RX11, "razor", "(III)I"⟩
abbrev cX11_hidden : ByteArray := prog_1_method_23_code
def yX11_hidden : MethodName := ⟨RX11, "hidden", "(II)I"⟩
abbrev cX11_shown : ByteArray := prog_1_method_24_code
def yX11_shown : MethodName := ⟨RX11, "shown", "(II)I"⟩
abbrev cX11_firstWet : ByteArray := prog_1_method_25_code
def yX11_firstWet : MethodName := ⟨RX11, "firstWet", "(II)I"⟩
abbrev cX11_paint : ByteArray := prog_1_method_26_code
def yX11_paint : MethodName := ⟨RX11, "paint", "(III)I"⟩
abbrev cX11_gap : ByteArray := prog_1_method_27_code
def yX11_gap : MethodName := ⟨RX11, "gap", "(II)I"⟩
abbrev cX11_moves : ByteArray := prog_1_method_28_code
def yX11_moves : MethodName := ⟨RX11, "moves", "(II)I"⟩
abbrev cX11_orders : ByteArray := prog_1_method_29_code
def yX11_orders : MethodName := ⟨RX11, "orders", "(III)I"⟩
abbrev cX11_forged : ByteArray := prog_1_method_30_code
def yX11_forged : MethodName := ⟨RX11, "forged", "(II)I"⟩
abbrev cX11_lane : ByteArray := prog_1_method_31_code
def yX11_lane : MethodName := ⟨RX11, "lane", "(II)I"⟩
abbrev cX11_price : ByteArray := prog_1_method_32_code
def yX11_price : MethodName := ⟨RX11, "price", "(II)I"⟩
abbrev cX11_hail : ByteArray := prog_1_method_33_code
def yX11_hail : MethodName := ⟨RX11, "hail", "(I)I"⟩
abbrev cX11_scratch : ByteArray := prog_1_method_34_code
def yX11_scratch : MethodName := ⟨RX11, "scratch", "(II)I"⟩
abbrev cX11_falls : ByteArray := prog_1_method_35_code
def yX11_falls : MethodName := ⟨RX11, "falls", "()I"⟩
abbrev cX11_years : ByteArray := prog_1_method_36_code
def yX11_years : MethodName := ⟨RX11, "years", "(I)I"⟩
abbrev cX11_seed : ByteArray := prog_1_method_37_code
def yX11_seed : MethodName := ⟨RX11, "seed", "(I)I"⟩
abbrev cX11_act : ByteArray := prog_1_method_38_code
def yX11_act : MethodName := ⟨RX11, "act", "(III)I"⟩
abbrev cX11_trace : ByteArray := prog_1_method_39_code
def yX11_trace : MethodName := ⟨RX11, "trace", "(I)I"⟩
abbrev cX11_image : ByteArray := prog_1_method_40_code
def yX11_image : MethodName := ⟨RX11, "image", "()I"⟩
abbrev cX11_restore : ByteArray := prog_1_method_41_code
def yX11_restore : MethodName := ⟨RX11, "restore", "()I"⟩
abbrev cX11_status : ByteArray := prog_1_method_42_code
def yX11_status : MethodName := ⟨RX11, "status", "(I)I"⟩
abbrev cX11_refuse : ByteArray := prog_1_method_43_code
def yX11_refuse : MethodName := ⟨RX11, "refuse", "(I)I"⟩
abbrev cX11_refuseDown : ByteArray := prog_1_method_44_code
def yX11_refuseDown : MethodName := ⟨RX11, "refuseDown", "(II)I"⟩
abbrev cX11_outside : ByteArray := prog_1_method_45_code
def yX11_outside : MethodName := ⟨RX11, "outside", "(II)Z"⟩
abbrev cX11_noHouse : ByteArray := prog_1_method_46_code
def yX11_noHouse : MethodName := ⟨RX11, "noHouse", "(I)Z"⟩
abbrev cX11_noCoat : ByteArray := prog_1_method_47_code
def yX11_noCoat : MethodName := ⟨RX11, "noCoat", "(II)Z"⟩
abbrev cX11_holdsRow : ByteArray := prog_1_method_48_code
def yX11_holdsRow : MethodName := ⟨RX11, "holdsRow", "(I)Z"⟩
abbrev cX11_holdsHouse : ByteArray := prog_1_method_49_code
def yX11_holdsHouse : MethodName := ⟨RX11, "holdsHouse", "(I)Z"⟩
abbrev cX11_rowTrouble : ByteArray := prog_1_method_50_code
def yX11_rowTrouble : MethodName := ⟨RX11, "rowTrouble", "(I)I"⟩
abbrev cX11_noSuchPart : ByteArray := prog_1_method_51_code
def yX11_noSuchPart : MethodName := ⟨RX11, "noSuchPart", "(III)Z"⟩
abbrev cX11_lowestBits : ByteArray := prog_1_method_52_code
def yX11_lowestBits : MethodName := ⟨RX11, "lowestBits", "(IJ)J"⟩
abbrev cX11_isOf : ByteArray := prog_1_method_53_code
def yX11_isOf : MethodName := ⟨RX11, "isOf", "(LPaintedOver$Kind;I)Z"⟩
abbrev cX11_saidBy : ByteArray := prog_1_method_54_code
def yX11_saidBy : MethodName := ⟨RX11, "saidBy", "(LPaintedOver$Front;I)I"⟩
abbrev cX11_strengthOfHighest : ByteArray := prog_1_method_55_code
def yX11_strengthOfHighest : MethodName := ⟨RX11, "strengthOfHighest", "(LPaintedOver$Front;)I"⟩
abbrev cX11_cheapest : ByteArray := prog_1_method_56_code
def yX11_cheapest : MethodName := ⟨RX11, "cheapest", "(LPaintedOver$Front;I)I"⟩
abbrev cX11_pairsTrouble : ByteArray := prog_1_method_57_code
def yX11_pairsTrouble : MethodName := ⟨RX11, "pairsTrouble", "(IIZ)I"⟩
abbrev cX11_isPair : ByteArray := prog_1_method_58_code
def yX11_isPair : MethodName := ⟨RX11, "isPair", "(I)Z"⟩
abbrev cX11_forgetPairs : ByteArray := prog_1_method_59_code
def yX11_forgetPairs : MethodName := ⟨RX11, "forgetPairs", "()V"⟩
abbrev cX11_addPair : ByteArray := prog_1_method_60_code
def yX11_addPair : MethodName := ⟨RX11, "addPair", "(I)V"⟩
abbrev cX11_mayComeOn : ByteArray := prog_1_method_61_code
def yX11_mayComeOn : MethodName := ⟨RX11, "mayComeOn", "(II)Z"⟩
abbrev cX11_lowestOn : ByteArray := prog_1_method_62_code
def yX11_lowestOn : MethodName := ⟨RX11, "lowestOn", "(I)I"⟩
abbrev cX11_orderFits : ByteArray := prog_1_method_63_code
def yX11_orderFits : MethodName := ⟨RX11, "orderFits", "()Z"⟩
abbrev cX11_inFirstOrder : ByteArray := prog_1_method_64_code
def yX11_inFirstOrder : MethodName := ⟨RX11, "inFirstOrder", "(I)I"⟩
abbrev cX11_countOrders : ByteArray := prog_1_method_65_code
def yX11_countOrders : MethodName := ⟨RX11, "countOrders", "()I"⟩
def RX12 : String := "PaintedOverModel"
def TX12 : u_T := fun k => match k with
  | 0 => ("PaintedOverModel", "holding", "[I", true)
  | 1 => ("PaintedOverModel", "rowLength", "[I", true)
  | 2 => ("PaintedOverModel", "rowOf", "[J", true)
  | 3 => ("PaintedOverModel", "houses", "I", false)
  | 4 => ("PaintedOverModel", "kind", "[I", true)
  | 5 => ("PaintedOverModel", "own", "[I", true)
  | 6 => ("PaintedOverModel", "coats", "[I", true)
  | 7 => ("PaintedOverModel", "tenant", "[I", true)
  | 8 => ("PaintedOverModel", "colour", "[I", true)
  | 9 => ("PaintedOverModel", "thick", "[I", true)
  | 10 => ("PaintedOverModel", "gap", "[I", true)
  | 11 => ("PaintedOverModel", "painted", "[I", true)
  | 12 => ("PaintedOverModel", "gone", "[I", true)
  | 13 => ("PaintedOverModel", "hides", "[I", true)
  | 14 => ("PaintedOverModel", "costs", "[I", true)
  | 15 => ("PaintedOverModel", "limit", "I", false)
  | 16 => ("PaintedOverModel", "wide", "I", false)
  | 17 => ("PaintedOverModel", "year", "I", false)
  | 18 => ("PaintedOverModel", "fallen", "I", false)
  | 19 => ("PaintedOverModel", "seed", "I", false)
  | 20 => ("PaintedOverModel", "fault", "I", false)
  | 21 => ("PaintedOverModel", "refusals", "[I", true)
  | 22 => ("PaintedOverModel", "traced", "I", false)
  | 23 => ("PaintedOverModel", "traces", "[I", true)
  | 24 => ("PaintedOverModel", "imaged", "Z", false)
  | 25 => ("PaintedOverModel", "old", "[I", true)
  | 26 => ("PaintedOverModel", "ahead", "[I", true)
  | 27 => ("PaintedOverModel", "reading", "I", false)
  | 28 => ("PaintedOverModel", "at", "I", false)
  | 29 => ("PaintedOverModel", "numbers", "[I", true)
  | 30 => ("PaintedOverModel", "over", "[I", true)
  | 31 => ("PaintedOverModel", "named", "I", false)
  | _ => ("PaintedOverModel", "first", "[I", true)
def tyX12 : Nat → FieldType := fun k => match k with
  | 0 => .array .int
  | 1 => .array .int
  | 2 => .array .long
  | 3 => .int
  | 4 => .array .int
  | 5 => .array .int
  | 6 => .array .int
  | 7 => .array .int
  | 8 => .array .int
  | 9 => .array .int
  | 10 => .array .int
  | 11 => .array .int
  | 12 => .array .int
  | 13 => .array .int
  | 14 => .array .int
  | 15 => .int
  | 16 => .int
  | 17 => .int
  | 18 => .int
  | 19 => .int
  | 20 => .int
  | 21 => .array .int
  | 22 => .int
  | 23 => .array .int
  | 24 => .boolean
  | 25 => .array .int
  | 26 => .array .int
  | 27 => .int
  | 28 => .int
  | 29 => .array .int
  | 30 => .array .int
  | 31 => .int
  | _ => .array .int
theorem nmX12 : ∀ a, a < 33 → ∀ b, b < 33 → a ≠ b → (TX12 a).2.1 ≠ (TX12 b).2.1 := by decide +kernel
theorem tyX12_ok : ∀ k, k < 33 → parseFieldDescriptor (TX12 k).2.2.1 = some (tyX12 k) := by decide +kernel
abbrev cX12_init : ByteArray := prog_14_method_1_code
def yX12_init : MethodName := ⟨RX12, "<init>", "()V"⟩
abbrev cX12_no : ByteArray := prog_14_method_2_code
def yX12_no : MethodName := ⟨RX12, "no", "(I)I"⟩
abbrev cX12_no10 : ByteArray := prog_14_method_3_code
def yX12_no10 : MethodName := ⟨RX12, "no10", "(I)I"⟩
abbrev cX12_within : ByteArray := prog_14_method_4_code
def yX12_within : MethodName := ⟨RX12, "within", "(III)Z"⟩
abbrev cX12_has : ByteArray := prog_14_method_5_code
def yX12_has : MethodName := ⟨RX12, "has", "(II)Z"⟩
abbrev cX12_isHouse : ByteArray := prog_14_method_6_code
def yX12_isHouse : MethodName := ⟨RX12, "isHouse", "(I)Z"⟩
abbrev cX12_isCoat : ByteArray := prog_14_method_7_code
def yX12_isCoat : MethodName := ⟨RX12, "isCoat", "(II)Z"⟩
abbrev cX12_isCell : ByteArray := prog_14_method_8_code
def yX12_isCell : MethodName := ⟨RX12, "isCell", "(I)Z"⟩
abbrev cX12_isWeather : ByteArray := prog_14_method_9_code
def yX12_isWeather : MethodName := ⟨RX12, "isWeather", "(I)Z"⟩
abbrev cX12_isRow : ByteArray := prog_14_method_10_code
def yX12_isRow : MethodName := ⟨RX12, "isRow", "(I)Z"⟩
abbrev cX12_row : ByteArray := prog_14_method_11_code
def yX12_row : MethodName := ⟨RX12, "row", "(III)I"⟩
abbrev cX12_noRow : ByteArray := prog_14_method_12_code
def yX12_noRow : MethodName := ⟨RX12, "noRow", "(I)I"⟩
abbrev cX12_set : ByteArray := prog_14_method_13_code
def yX12_set : MethodName := ⟨RX12, "set", "(IIJ)I"⟩
abbrev cX12_copy : ByteArray := prog_14_method_14_code
def yX12_copy : MethodName := ⟨RX12, "copy", "(IIIII)I"⟩
abbrev cX12_element : ByteArray := prog_14_method_15_code
def yX12_element : MethodName := ⟨RX12, "element", "(II)J"⟩
abbrev cX12_show : ByteArray := prog_14_method_16_code
def yX12_show : MethodName := ⟨RX12, "show", "(II)I"⟩
abbrev cX12_holds : ByteArray := prog_14_method_17_code
def yX12_holds : MethodName := ⟨RX12, "holds", "(I)I"⟩
abbrev cX12_above : ByteArray := prog_14_method_18_code
def yX12_above : MethodName := ⟨RX12, "above", "(I)I"⟩
abbrev cX12_isUnder : ByteArray := prog_14_method_19_code
def yX12_isUnder : MethodName := ⟨RX12, "isUnder", "(II)Z"⟩
abbrev cX12_says : ByteArray := prog_14_method_20_code
def yX12_says : MethodName := ⟨RX12, "says", "(II)I"⟩
abbrev cX12_newHouse : ByteArray := prog_14_method_21_code
def yX12_newHouse : MethodName := ⟨RX12, "newHouse", "(II)I"⟩
abbrev cX12_bare : ByteArray := prog_14_method_22_code
def yX12_bare : MethodName := ⟨RX12, "bare", "(I)V"⟩
abbrev cX12_house : ByteArray := prog_14_method_23_code
def yX12_house : MethodName := ⟨RX12, "house", "(II)I"⟩
abbrev cX12_lived : ByteArray := prog_14_method_24_code
def yX12_lived : MethodName := ⟨RX12, "lived", "(I)I"⟩
abbrev cX12_houseOf : ByteArray := prog_14_method_25_code
def yX12_houseOf : MethodName := ⟨RX12, "houseOf", "(II)I"⟩
abbrev cX12_colour : ByteArray := prog_14_method_26_code
def yX12_colour : MethodName := ⟨RX12, "colour", "(III)I"⟩
abbrev cX12_ask : ByteArray := prog_14_method_27_code
def yX12_ask : MethodName := ⟨RX12, "ask", "(II)I"⟩
abbrev cX12_paints : ByteArray := prog_14_method_28_code
def yX12_paints : MethodName := ⟨RX12, "paints", "(IIIII)I"⟩
abbrev cX12_coat : ByteArray := prog_14_method_29_code
def yX12_coat : MethodName := ⟨RX12, "coat", "(IIIII)I"⟩
abbrev cX12_coatOf : ByteArray := prog_14_method_30_code
def yX12_coatOf : MethodName := ⟨RX12, "coatOf", "(III)I"⟩
abbrev cX12_sign : ByteArray := prog_14_method_31_code
def yX12_sign : MethodName := ⟨RX12, "sign", "()I"⟩
abbrev cX12_is : ByteArray := prog_14_method_32_code
def yX12_is : MethodName := ⟨RX12, "is", "(C)Z"⟩
abbrev cX12_word : ByteArray := prog_14_method_33_code
def yX12_word : MethodName := ⟨RX12, "word", "(Ljava/lang/String;)Z"⟩
abbrev cX12_number : ByteArray := prog_14_method_34_code
def yX12_number : MethodName := ⟨RX12, "number", "(III)Z"⟩
abbrev cX12_item : ByteArray := prog_14_method_35_code
def yX12_item : MethodName := ⟨RX12, "item", "()Z"⟩
abbrev cX12_sign_ : ByteArray := prog_14_method_36_code
def yX12_sign_ : MethodName := ⟨RX12, "sign", "(I)I"⟩
abbrev cX12_street : ByteArray := prog_14_method_37_code
def yX12_street : MethodName := ⟨RX12, "street", "(I)I"⟩
abbrev cX12_fault : ByteArray := prog_14_method_38_code
def yX12_fault : MethodName := ⟨RX12, "fault", "()I"⟩
abbrev cX12_strength : ByteArray := prog_14_method_39_code
def yX12_strength : MethodName := ⟨RX12, "strength", "(II)I"⟩
abbrev cX12_wetOf : ByteArray := prog_14_method_40_code
def yX12_wetOf : MethodName := ⟨RX12, "wetOf", "(III)I"⟩
abbrev cX12_lies : ByteArray := prog_14_method_41_code
def yX12_lies : MethodName := ⟨RX12, "lies", "(II)I"⟩
abbrev cX12_seenIn : ByteArray := prog_14_method_42_code
def yX12_seenIn : MethodName := ⟨RX12, "seenIn", "(III)I"⟩
abbrev cX12_seenAt : ByteArray := prog_14_method_43_code
def yX12_seenAt : MethodName := ⟨RX12, "seenAt", "(III)I"⟩
abbrev cX12_hard : ByteArray := prog_14_method_44_code
def yX12_hard : MethodName := ⟨RX12, "hard", "(III)I"⟩
abbrev cX12_behind : ByteArray := prog_14_method_45_code
def yX12_behind : MethodName := ⟨RX12, "behind", "(III)I"⟩
abbrev cX12_sum : ByteArray := prog_14_method_46_code
def yX12_sum : MethodName := ⟨RX12, "sum", "(II)I"⟩
abbrev cX12_deepOf : ByteArray := prog_14_method_47_code
def yX12_deepOf : MethodName := ⟨RX12, "deepOf", "(II)I"⟩
abbrev cX12_skinOf : ByteArray := prog_14_method_48_code
def yX12_skinOf : MethodName := ⟨RX12, "skinOf", "(I)I"⟩
abbrev cX12_seen : ByteArray := prog_14_method_49_code
def yX12_seen : MethodName := ⟨RX12, "seen", "(III)I"⟩
abbrev cX12_wet : ByteArray := prog_14_method_50_code
def yX12_wet : MethodName := ⟨RX12, "wet", "(III)I"⟩
abbrev cX12_deep : ByteArray := prog_14_method_51_code
def yX12_deep : MethodName := ⟨RX12, "deep", "(II)I"⟩
abbrev cX12_skin : ByteArray := prog_14_method_52_code
def yX12_skin : MethodName := ⟨RX12, "skin", "(I)I"⟩
abbrev cX12_hailed : ByteArray := prog_14_method_53_code
def yX12_hailed : MethodName := ⟨RX12, "hailed", "(III)I"⟩
abbrev cX12_razor : ByteArray := prog_14_method_54_code
def yX12_razor : MethodName := ⟨RX12, "razor", "(III)I"⟩
abbrev cX12_seenAll : ByteArray := prog_14_method_55_code
def yX12_seenAll : MethodName := ⟨RX12, "seenAll", "(II)I"⟩
abbrev cX12_hidden : ByteArray := prog_14_method_56_code
def yX12_hidden : MethodName := ⟨RX12, "hidden", "(II)I"⟩
abbrev cX12_shown : ByteArray := prog_14_method_57_code
def yX12_shown : MethodName := ⟨RX12, "shown", "(II)I"⟩
abbrev cX12_firstWet : ByteArray := prog_14_method_58_code
def yX12_firstWet : MethodName := ⟨RX12, "firstWet", "(II)I"⟩
abbrev cX12_paint : ByteArray := prog_14_method_59_code
def yX12_paint : MethodName := ⟨RX12, "paint", "(III)I"⟩
abbrev cX12_gap : ByteArray := prog_14_method_60_code
def yX12_gap : MethodName := ⟨RX12, "gap", "(II)I"⟩
abbrev cX12_moves : ByteArray := prog_14_method_61_code
def yX12_moves : MethodName := ⟨RX12, "moves", "(II)I"⟩
abbrev cX12_noPairs : ByteArray := prog_14_method_62_code
def yX12_noPairs : MethodName := ⟨RX12, "noPairs", "(IIZ)I"⟩
abbrev cX12_pairs : ByteArray := prog_14_method_63_code
def yX12_pairs : MethodName := ⟨RX12, "pairs", "(II)V"⟩
abbrev cX12_ordersFrom : ByteArray := prog_14_method_64_code
def yX12_ordersFrom : MethodName := ⟨RX12, "ordersFrom", "(I)I"⟩
abbrev cX12_orders : ByteArray := prog_14_method_65_code
def yX12_orders : MethodName := ⟨RX12, "orders", "(III)I"⟩
abbrev cX12_forged : ByteArray := prog_14_method_66_code
def yX12_forged : MethodName := ⟨RX12, "forged", "(II)I"⟩
abbrev cX12_deepest : ByteArray := prog_14_method_67_code
def yX12_deepest : MethodName := ⟨RX12, "deepest", "(I)I"⟩
abbrev cX12_lane : ByteArray := prog_14_method_68_code
def yX12_lane : MethodName := ⟨RX12, "lane", "(II)I"⟩
abbrev cX12_price : ByteArray := prog_14_method_69_code
def yX12_price : MethodName := ⟨RX12, "price", "(II)I"⟩
abbrev cX12_hailAll : ByteArray := prog_14_method_70_code
def yX12_hailAll : MethodName := ⟨RX12, "hailAll", "(I)I"⟩
abbrev cX12_hail : ByteArray := prog_14_method_71_code
def yX12_hail : MethodName := ⟨RX12, "hail", "(I)I"⟩
abbrev cX12_scratch : ByteArray := prog_14_method_72_code
def yX12_scratch : MethodName := ⟨RX12, "scratch", "(II)I"⟩
abbrev cX12_fall : ByteArray := prog_14_method_73_code
def yX12_fall : MethodName := ⟨RX12, "fall", "()I"⟩
abbrev cX12_falls : ByteArray := prog_14_method_74_code
def yX12_falls : MethodName := ⟨RX12, "falls", "()I"⟩
abbrev cX12_draw : ByteArray := prog_14_method_75_code
def yX12_draw : MethodName := ⟨RX12, "draw", "(I)I"⟩
abbrev cX12_years : ByteArray := prog_14_method_76_code
def yX12_years : MethodName := ⟨RX12, "years", "(I)I"⟩
abbrev cX12_seed : ByteArray := prog_14_method_77_code
def yX12_seed : MethodName := ⟨RX12, "seed", "(I)I"⟩
abbrev cX12_ran : ByteArray := prog_14_method_78_code
def yX12_ran : MethodName := ⟨RX12, "ran", "(I)V"⟩
abbrev cX12_paintsAct : ByteArray := prog_14_method_79_code
def yX12_paintsAct : MethodName := ⟨RX12, "paintsAct", "(II)I"⟩
abbrev cX12_peels : ByteArray := prog_14_method_80_code
def yX12_peels : MethodName := ⟨RX12, "peels", "(II)I"⟩
abbrev cX12_fallsAct : ByteArray := prog_14_method_81_code
def yX12_fallsAct : MethodName := ⟨RX12, "fallsAct", "(II)I"⟩
abbrev cX12_act : ByteArray := prog_14_method_82_code
def yX12_act : MethodName := ⟨RX12, "act", "(III)I"⟩
abbrev cX12_trace : ByteArray := prog_14_method_83_code
def yX12_trace : MethodName := ⟨RX12, "trace", "(I)I"⟩
abbrev cX12_keep : ByteArray := prog_14_method_84_code
def yX12_keep : MethodName := ⟨RX12, "keep", "([I)V"⟩
abbrev cX12_again : ByteArray := prog_14_method_85_code
def yX12_again : MethodName := ⟨RX12, "again", "([I)V"⟩
abbrev cX12_image : ByteArray := prog_14_method_86_code
def yX12_image : MethodName := ⟨RX12, "image", "()I"⟩
abbrev cX12_restore : ByteArray := prog_14_method_87_code
def yX12_restore : MethodName := ⟨RX12, "restore", "()I"⟩
abbrev cX12_status : ByteArray := prog_14_method_88_code
def yX12_status : MethodName := ⟨RX12, "status", "(I)I"⟩
def RJ6 : String := "java/lang/Integer"
def TJ6 : u_T := fun k => match k with
  | _ => ("", "", "", false)
def tyJ6 : Nat → FieldType := fun k => match k with
  | _ => .int
theorem nmJ6 : ∀ a, a < 0 → ∀ b, b < 0 → a ≠ b → (TJ6 a).2.1 ≠ (TJ6 b).2.1 := by decide +kernel
theorem tyJ6_ok : ∀ k, k < 0 → parseFieldDescriptor (TJ6 k).2.2.1 = some (tyJ6 k) := by decide +kernel
abbrev cJ6_highestOneBit_0f7a4 : ByteArray := prog_15_method_45_code
def yJ6_highestOneBit_0f7a4 : MethodName := ⟨RJ6, "highestOneBit", "(I)I"⟩
abbrev cJ6_numberOfLeadingZeros_0f7a4 : ByteArray := prog_15_method_47_code
def yJ6_numberOfLeadingZeros_0f7a4 : MethodName := ⟨RJ6, "numberOfLeadingZeros", "(I)I"⟩
abbrev cJ6_bitCount_0f7a4 : ByteArray := prog_15_method_49_code
def yJ6_bitCount_0f7a4 : MethodName := ⟨RJ6, "bitCount", "(I)I"⟩
def RJ9 : String := "java/lang/Math"
def TJ9 : u_T := fun k => match k with
  | _ => ("", "", "", false)
def tyJ9 : Nat → FieldType := fun k => match k with
  | _ => .int
theorem nmJ9 : ∀ a, a < 0 → ∀ b, b < 0 → a ≠ b → (TJ9 a).2.1 ≠ (TJ9 b).2.1 := by decide +kernel
theorem tyJ9_ok : ∀ k, k < 0 → parseFieldDescriptor (TJ9 k).2.2.1 = some (tyJ9 k) := by decide +kernel
abbrev cJ9_max_7cf53 : ByteArray := prog_16_method_65_code
def yJ9_max_7cf53 : MethodName := ⟨RJ9, "max", "(II)I"⟩
def RJ0 : String := "java/lang/String"
def TJ0 : u_T := fun k => match k with
  | _ => ("", "", "", false)
def tyJ0 : Nat → FieldType := fun k => match k with
  | _ => .int
theorem nmJ0 : ∀ a, a < 0 → ∀ b, b < 0 → a ≠ b → (TJ0 a).2.1 ≠ (TJ0 b).2.1 := by decide +kernel
theorem tyJ0_ok : ∀ k, k < 0 → parseFieldDescriptor (TJ0 k).2.2.1 = some (tyJ0 k) := by decide +kernel
abbrev cJ0_length_8abf5 : ByteArray := prog_17_method_54_code
def yJ0_length_8abf5 : MethodName := ⟨RJ0, "length", "()I"⟩
abbrev cJ0_charAt_5068e : ByteArray := prog_17_method_56_code
def yJ0_charAt_5068e : MethodName := ⟨RJ0, "charAt", "(I)C"⟩
abbrev cJ0_coder_7d493 : ByteArray := prog_17_method_152_code
def yJ0_coder_7d493 : MethodName := ⟨RJ0, "coder", "()B"⟩
abbrev cJ0_isLatin1_aae02 : ByteArray := prog_17_method_154_code
def yJ0_isLatin1_aae02 : MethodName := ⟨RJ0, "isLatin1", "()Z"⟩
abbrev cJ0_checkIndex_df160 : ByteArray := prog_17_method_155_code
def yJ0_checkIndex_df160 : MethodName := ⟨RJ0, "checkIndex", "(II)V"⟩
def RJ1 : String := "java/lang/StringLatin1"
def TJ1 : u_T := fun k => match k with
  | _ => ("", "", "", false)
def tyJ1 : Nat → FieldType := fun k => match k with
  | _ => .int
theorem nmJ1 : ∀ a, a < 0 → ∀ b, b < 0 → a ≠ b → (TJ1 a).2.1 ≠ (TJ1 b).2.1 := by decide +kernel
theorem tyJ1_ok : ∀ k, k < 0 → parseFieldDescriptor (TJ1 k).2.2.1 = some (tyJ1 k) := by decide +kernel
abbrev cJ1_charAt_3b067 : ByteArray := prog_18_method_2_code
def yJ1_charAt_3b067 : MethodName := ⟨RJ1, "charAt", "([BI)C"⟩
def RJ2 : String := "java/lang/StringUTF16"
def TJ2 : u_T := fun k => match k with
  | _ => ("", "", "", false)
def tyJ2 : Nat → FieldType := fun k => match k with
  | _ => .int
theorem nmJ2 : ∀ a, a < 0 → ∀ b, b < 0 → a ≠ b → (TJ2 a).2.1 ≠ (TJ2 b).2.1 := by decide +kernel
theorem tyJ2_ok : ∀ k, k < 0 → parseFieldDescriptor (TJ2 k).2.2.1 = some (tyJ2 k) := by decide +kernel
abbrev cJ2_getChar_3b067 : ByteArray := prog_19_method_5_code
def yJ2_getChar_3b067 : MethodName := ⟨RJ2, "getChar", "([BI)C"⟩
abbrev cJ2_length_9d52b : ByteArray := prog_19_method_6_code
def yJ2_length_9d52b : MethodName := ⟨RJ2, "length", "([B)I"⟩
abbrev cJ2_charAt_3b067 : ByteArray := prog_19_method_83_code
def yJ2_charAt_3b067 : MethodName := ⟨RJ2, "charAt", "([BI)C"⟩
abbrev cJ2_checkIndex_2214a : ByteArray := prog_19_method_91_code
def yJ2_checkIndex_2214a : MethodName := ⟨RJ2, "checkIndex", "(I[B)V"⟩
def RJ10 : String := "java/lang/System"
def TJ10 : u_T := fun k => match k with
  | _ => ("", "", "", false)
def tyJ10 : Nat → FieldType := fun k => match k with
  | _ => .int
theorem nmJ10 : ∀ a, a < 0 → ∀ b, b < 0 → a ≠ b → (TJ10 a).2.1 ≠ (TJ10 b).2.1 := by decide +kernel
theorem tyJ10_ok : ∀ k, k < 0 → parseFieldDescriptor (TJ10 k).2.2.1 = some (tyJ10 k) := by decide +kernel
def RJ3 : String := "jdk/internal/util/Preconditions"
def TJ3 : u_T := fun k => match k with
  | _ => ("", "", "", false)
def tyJ3 : Nat → FieldType := fun k => match k with
  | _ => .int
theorem nmJ3 : ∀ a, a < 0 → ∀ b, b < 0 → a ≠ b → (TJ3 a).2.1 ≠ (TJ3 b).2.1 := by decide +kernel
theorem tyJ3_ok : ∀ k, k < 0 → parseFieldDescriptor (TJ3 k).2.2.1 = some (tyJ3 k) := by decide +kernel
abbrev cJ3_checkIndex_8e157 : ByteArray := prog_21_method_11_code
def yJ3_checkIndex_8e157 : MethodName := ⟨RJ3, "checkIndex", "(IILjava/util/function/BiFunction;)I"⟩
def RL : String := "PaintedOverLaw"
abbrev cL_law : ByteArray := code
def yL_law : MethodName := ⟨RL, "law", "([I)Z"⟩
abbrev vwCl : List vw_C := [(RX0, TX0, 0), (RX1, TX1, 0), (RX2, TX2, 0), (RX3, TX3, 10), (RX4, TX4, 0), (RX5, TX5, 0), (RX6, TX6, 6), (RX7, TX7, 0), (RX8, TX8, 0), (RX9, TX9, 10), (RX10, TX10, 4), (RX11, TX11, 14), (RX12, TX12, 33)]
end
section
theorem dX0_init_0 : decode cX0_init 0 = .ok (.aload_n 0, 1) := by decide +kernel
theorem dX0_init_1 : decode cX0_init 1 = .ok (.invokespecial 1, 3) := by decide +kernel
theorem dX0_init_4 : decode cX0_init 4 = .ok (.return_, 1) := by decide +kernel
theorem dX0_hardness_0 : decode cX0_hardness 0 = .ok (.iconst 2, 1) := by decide +kernel
theorem dX0_hardness_1 : decode cX0_hardness 1 = .ok (.aload_n 0, 1) := by decide +kernel
theorem dX0_hardness_2 : decode cX0_hardness 2 = .ok (.iload_n 1, 1) := by decide +kernel
theorem dX0_hardness_3 : decode cX0_hardness 3 = .ok (.iload_n 2, 1) := by decide +kernel
theorem dX0_hardness_4 : decode cX0_hardness 4 = .ok (.iload_n 3, 1) := by decide +kernel
theorem dX0_hardness_5 : decode cX0_hardness 5 = .ok (.invokespecial 7, 3) := by decide +kernel
theorem dX0_hardness_8 : decode cX0_hardness 8 = .ok (.imul, 1) := by decide +kernel
theorem dX0_hardness_9 : decode cX0_hardness 9 = .ok (.ireturn, 1) := by decide +kernel
theorem dX0_actPaints_0 : decode cX0_actPaints 0 = .ok (.aload_n 1, 1) := by decide +kernel
theorem dX0_actPaints_1 : decode cX0_actPaints 1 = .ok (.bipush 70, 2) := by decide +kernel
theorem dX0_actPaints_3 : decode cX0_actPaints 3 = .ok (.invokevirtual 11, 3) := by decide +kernel
theorem dX0_actPaints_6 : decode cX0_actPaints 6 = .ok (.aload_n 0, 1) := by decide +kernel
theorem dX0_actPaints_7 : decode cX0_actPaints 7 = .ok (.aload_n 1, 1) := by decide +kernel
theorem dX0_actPaints_8 : decode cX0_actPaints 8 = .ok (.iload_n 2, 1) := by decide +kernel
theorem dX0_actPaints_9 : decode cX0_actPaints 9 = .ok (.invokespecial 17, 3) := by decide +kernel
theorem dX0_actPaints_12 : decode cX0_actPaints 12 = .ok (.iconst 2, 1) := by decide +kernel
theorem dX0_actPaints_13 : decode cX0_actPaints 13 = .ok (.imul, 1) := by decide +kernel
theorem dX0_actPaints_14 : decode cX0_actPaints 14 = .ok (.ireturn, 1) := by decide +kernel
theorem dX0_actPeels_0 : decode cX0_actPeels 0 = .ok (.aload_n 1, 1) := by decide +kernel
theorem dX0_actPeels_1 : decode cX0_actPeels 1 = .ok (.bipush 71, 2) := by decide +kernel
theorem dX0_actPeels_3 : decode cX0_actPeels 3 = .ok (.invokevirtual 11, 3) := by decide +kernel
theorem dX0_actPeels_6 : decode cX0_actPeels 6 = .ok (.aload_n 0, 1) := by decide +kernel
theorem dX0_actPeels_7 : decode cX0_actPeels 7 = .ok (.aload_n 1, 1) := by decide +kernel
theorem dX0_actPeels_8 : decode cX0_actPeels 8 = .ok (.iload_n 2, 1) := by decide +kernel
theorem dX0_actPeels_9 : decode cX0_actPeels 9 = .ok (.aload_n 1, 1) := by decide +kernel
theorem dX0_actPeels_10 : decode cX0_actPeels 10 = .ok (.getfield 21, 3) := by decide +kernel
theorem dX0_actPeels_13 : decode cX0_actPeels 13 = .ok (.isub, 1) := by decide +kernel
theorem dX0_actPeels_14 : decode cX0_actPeels 14 = .ok (.invokespecial 25, 3) := by decide +kernel
theorem dX0_actPeels_17 : decode cX0_actPeels 17 = .ok (.ireturn, 1) := by decide +kernel
theorem dX1_init_0 : decode cX1_init 0 = .ok (.aload_n 0, 1) := by decide +kernel
theorem dX1_init_1 : decode cX1_init 1 = .ok (.invokespecial 3, 3) := by decide +kernel
theorem dX1_init_4 : decode cX1_init 4 = .ok (.return_, 1) := by decide +kernel
theorem dX1_wetness_0 : decode cX1_wetness 0 = .ok (.aload_n 0, 1) := by decide +kernel
theorem dX1_wetness_1 : decode cX1_wetness 1 = .ok (.iload_n 1, 1) := by decide +kernel
theorem dX1_wetness_2 : decode cX1_wetness 2 = .ok (.iload_n 2, 1) := by decide +kernel
theorem dX1_wetness_3 : decode cX1_wetness 3 = .ok (.iload_n 3, 1) := by decide +kernel
theorem dX1_wetness_4 : decode cX1_wetness 4 = .ok (.invokespecial 9, 3) := by decide +kernel
theorem dX1_wetness_7 : decode cX1_wetness 7 = .ok (.istore 4, 2) := by decide +kernel
theorem dX1_wetness_9 : decode cX1_wetness 9 = .ok (.iload_n 2, 1) := by decide +kernel
theorem dX1_wetness_10 : decode cX1_wetness 10 = .ok (.iconst 4, 1) := by decide +kernel
theorem dX1_wetness_11 : decode cX1_wetness 11 = .ok (.idiv, 1) := by decide +kernel
theorem dX1_wetness_12 : decode cX1_wetness 12 = .ok (.iconst 2, 1) := by decide +kernel
theorem dX1_wetness_13 : decode cX1_wetness 13 = .ok (.if_icmp .ne 10, 3) := by decide +kernel
theorem dX1_wetness_16 : decode cX1_wetness 16 = .ok (.iconst 2, 1) := by decide +kernel
theorem dX1_wetness_17 : decode cX1_wetness 17 = .ok (.iload 4, 2) := by decide +kernel
theorem dX1_wetness_19 : decode cX1_wetness 19 = .ok (.imul, 1) := by decide +kernel
theorem dX1_wetness_20 : decode cX1_wetness 20 = .ok (.goto 5, 3) := by decide +kernel
theorem dX1_wetness_23 : decode cX1_wetness 23 = .ok (.iload 4, 2) := by decide +kernel
theorem dX1_wetness_25 : decode cX1_wetness 25 = .ok (.ireturn, 1) := by decide +kernel
theorem dX1_actPeels_0 : decode cX1_actPeels 0 = .ok (.aload_n 1, 1) := by decide +kernel
theorem dX1_actPeels_1 : decode cX1_actPeels 1 = .ok (.bipush 40, 2) := by decide +kernel
theorem dX1_actPeels_3 : decode cX1_actPeels 3 = .ok (.invokevirtual 13, 3) := by decide +kernel
theorem dX1_actPeels_6 : decode cX1_actPeels 6 = .ok (.aload_n 0, 1) := by decide +kernel
theorem dX1_actPeels_7 : decode cX1_actPeels 7 = .ok (.aload_n 1, 1) := by decide +kernel
theorem dX1_actPeels_8 : decode cX1_actPeels 8 = .ok (.iload_n 2, 1) := by decide +kernel
theorem dX1_actPeels_9 : decode cX1_actPeels 9 = .ok (.iconst 1, 1) := by decide +kernel
theorem dX1_actPeels_10 : decode cX1_actPeels 10 = .ok (.iadd, 1) := by decide +kernel
theorem dX1_actPeels_11 : decode cX1_actPeels 11 = .ok (.invokespecial 19, 3) := by decide +kernel
theorem dX1_actPeels_14 : decode cX1_actPeels 14 = .ok (.ireturn, 1) := by decide +kernel
theorem dX2_init_0 : decode cX2_init 0 = .ok (.aload_n 0, 1) := by decide +kernel
theorem dX2_init_1 : decode cX2_init 1 = .ok (.invokespecial 1, 3) := by decide +kernel
theorem dX2_init_4 : decode cX2_init 4 = .ok (.return_, 1) := by decide +kernel
theorem dX2_wetness_0 : decode cX2_wetness 0 = .ok (.iload_n 3, 1) := by decide +kernel
theorem dX2_wetness_1 : decode cX2_wetness 1 = .ok (.ifCond .le 9, 3) := by decide +kernel
theorem dX2_wetness_4 : decode cX2_wetness 4 = .ok (.iload_n 3, 1) := by decide +kernel
theorem dX2_wetness_5 : decode cX2_wetness 5 = .ok (.iload_n 1, 1) := by decide +kernel
theorem dX2_wetness_6 : decode cX2_wetness 6 = .ok (.iadd, 1) := by decide +kernel
theorem dX2_wetness_7 : decode cX2_wetness 7 = .ok (.goto 4, 3) := by decide +kernel
theorem dX2_wetness_10 : decode cX2_wetness 10 = .ok (.iload_n 3, 1) := by decide +kernel
theorem dX2_wetness_11 : decode cX2_wetness 11 = .ok (.ireturn, 1) := by decide +kernel
theorem dX2_actPaints_0 : decode cX2_actPaints 0 = .ok (.aload_n 1, 1) := by decide +kernel
theorem dX2_actPaints_1 : decode cX2_actPaints 1 = .ok (.bipush 20, 2) := by decide +kernel
theorem dX2_actPaints_3 : decode cX2_actPaints 3 = .ok (.invokevirtual 7, 3) := by decide +kernel
theorem dX2_actPaints_6 : decode cX2_actPaints 6 = .ok (.aload_n 0, 1) := by decide +kernel
theorem dX2_actPaints_7 : decode cX2_actPaints 7 = .ok (.aload_n 1, 1) := by decide +kernel
theorem dX2_actPaints_8 : decode cX2_actPaints 8 = .ok (.iload_n 2, 1) := by decide +kernel
theorem dX2_actPaints_9 : decode cX2_actPaints 9 = .ok (.invokespecial 13, 3) := by decide +kernel
theorem dX2_actPaints_12 : decode cX2_actPaints 12 = .ok (.aload_n 1, 1) := by decide +kernel
theorem dX2_actPaints_13 : decode cX2_actPaints 13 = .ok (.getfield 17, 3) := by decide +kernel
theorem dX2_actPaints_16 : decode cX2_actPaints 16 = .ok (.iadd, 1) := by decide +kernel
theorem dX2_actPaints_17 : decode cX2_actPaints 17 = .ok (.ireturn, 1) := by decide +kernel
theorem dX3_init_0 : decode cX3_init 0 = .ok (.aload_n 0, 1) := by decide +kernel
theorem dX3_init_1 : decode cX3_init 1 = .ok (.invokespecial 3, 3) := by decide +kernel
theorem dX3_init_4 : decode cX3_init 4 = .ok (.aload_n 0, 1) := by decide +kernel
theorem dX3_init_5 : decode cX3_init 5 = .ok (.iconst 0, 1) := by decide +kernel
theorem dX3_init_6 : decode cX3_init 6 = .ok (.putfield 9, 3) := by decide +kernel
theorem dX3_init_9 : decode cX3_init 9 = .ok (.aload_n 0, 1) := by decide +kernel
theorem dX3_init_10 : decode cX3_init 10 = .ok (.iconst 0, 1) := by decide +kernel
theorem dX3_init_11 : decode cX3_init 11 = .ok (.putfield 15, 3) := by decide +kernel
theorem dX3_init_14 : decode cX3_init 14 = .ok (.aload_n 0, 1) := by decide +kernel
theorem dX3_init_15 : decode cX3_init 15 = .ok (.iconst 0, 1) := by decide +kernel
theorem dX3_init_16 : decode cX3_init 16 = .ok (.putfield 18, 3) := by decide +kernel
theorem dX3_init_19 : decode cX3_init 19 = .ok (.aload_n 0, 1) := by decide +kernel
theorem dX3_init_20 : decode cX3_init 20 = .ok (.bipush 8, 2) := by decide +kernel
theorem dX3_init_22 : decode cX3_init 22 = .ok (.newarray .int, 2) := by decide +kernel
theorem dX3_init_24 : decode cX3_init 24 = .ok (.putfield 21, 3) := by decide +kernel
theorem dX3_init_27 : decode cX3_init 27 = .ok (.aload_n 0, 1) := by decide +kernel
theorem dX3_init_28 : decode cX3_init 28 = .ok (.bipush 8, 2) := by decide +kernel
theorem dX3_init_30 : decode cX3_init 30 = .ok (.newarray .int, 2) := by decide +kernel
theorem dX3_init_32 : decode cX3_init 32 = .ok (.putfield 25, 3) := by decide +kernel
theorem dX3_init_35 : decode cX3_init 35 = .ok (.aload_n 0, 1) := by decide +kernel
theorem dX3_init_36 : decode cX3_init 36 = .ok (.bipush 8, 2) := by decide +kernel
theorem dX3_init_38 : decode cX3_init 38 = .ok (.newarray .int, 2) := by decide +kernel
theorem dX3_init_40 : decode cX3_init 40 = .ok (.putfield 28, 3) := by decide +kernel
theorem dX3_init_43 : decode cX3_init 43 = .ok (.aload_n 0, 1) := by decide +kernel
theorem dX3_init_44 : decode cX3_init 44 = .ok (.bipush 8, 2) := by decide +kernel
theorem dX3_init_46 : decode cX3_init 46 = .ok (.newarray .int, 2) := by decide +kernel
theorem dX3_init_48 : decode cX3_init 48 = .ok (.putfield 31, 3) := by decide +kernel
theorem dX3_init_51 : decode cX3_init 51 = .ok (.aload_n 0, 1) := by decide +kernel
theorem dX3_init_52 : decode cX3_init 52 = .ok (.bipush 8, 2) := by decide +kernel
theorem dX3_init_54 : decode cX3_init 54 = .ok (.newarray .int, 2) := by decide +kernel
theorem dX3_init_56 : decode cX3_init 56 = .ok (.putfield 34, 3) := by decide +kernel
theorem dX3_init_59 : decode cX3_init 59 = .ok (.aload_n 0, 1) := by decide +kernel
theorem dX3_init_60 : decode cX3_init 60 = .ok (.bipush 12, 2) := by decide +kernel
theorem dX3_init_62 : decode cX3_init 62 = .ok (.newarray .int, 2) := by decide +kernel
theorem dX3_init_64 : decode cX3_init 64 = .ok (.putfield 37, 3) := by decide +kernel
theorem dX3_init_67 : decode cX3_init 67 = .ok (.aload_n 0, 1) := by decide +kernel
theorem dX3_init_68 : decode cX3_init 68 = .ok (.aload_n 1, 1) := by decide +kernel
theorem dX3_init_69 : decode cX3_init 69 = .ok (.putfield 40, 3) := by decide +kernel
theorem dX3_init_72 : decode cX3_init 72 = .ok (.return_, 1) := by decide +kernel
theorem dX3_become_0 : decode cX3_become 0 = .ok (.aload_n 0, 1) := by decide +kernel
theorem dX3_become_1 : decode cX3_become 1 = .ok (.aload_n 1, 1) := by decide +kernel
theorem dX3_become_2 : decode cX3_become 2 = .ok (.getfield 40, 3) := by decide +kernel
theorem dX3_become_5 : decode cX3_become 5 = .ok (.putfield 40, 3) := by decide +kernel
theorem dX3_become_8 : decode cX3_become 8 = .ok (.aload_n 0, 1) := by decide +kernel
theorem dX3_become_9 : decode cX3_become 9 = .ok (.aload_n 1, 1) := by decide +kernel
theorem dX3_become_10 : decode cX3_become 10 = .ok (.getfield 9, 3) := by decide +kernel
theorem dX3_become_13 : decode cX3_become 13 = .ok (.putfield 9, 3) := by decide +kernel
theorem dX3_become_16 : decode cX3_become 16 = .ok (.aload_n 0, 1) := by decide +kernel
theorem dX3_become_17 : decode cX3_become 17 = .ok (.aload_n 1, 1) := by decide +kernel
theorem dX3_become_18 : decode cX3_become 18 = .ok (.getfield 15, 3) := by decide +kernel
theorem dX3_become_21 : decode cX3_become 21 = .ok (.putfield 15, 3) := by decide +kernel
theorem dX3_become_24 : decode cX3_become 24 = .ok (.aload_n 0, 1) := by decide +kernel
theorem dX3_become_25 : decode cX3_become 25 = .ok (.aload_n 1, 1) := by decide +kernel
theorem dX3_become_26 : decode cX3_become 26 = .ok (.getfield 18, 3) := by decide +kernel
theorem dX3_become_29 : decode cX3_become 29 = .ok (.putfield 18, 3) := by decide +kernel
theorem dX3_become_32 : decode cX3_become 32 = .ok (.aload_n 1, 1) := by decide +kernel
theorem dX3_become_33 : decode cX3_become 33 = .ok (.getfield 21, 3) := by decide +kernel
theorem dX3_become_36 : decode cX3_become 36 = .ok (.iconst 0, 1) := by decide +kernel
theorem dX3_become_37 : decode cX3_become 37 = .ok (.aload_n 0, 1) := by decide +kernel
theorem dX3_become_38 : decode cX3_become 38 = .ok (.getfield 21, 3) := by decide +kernel
theorem dX3_become_41 : decode cX3_become 41 = .ok (.iconst 0, 1) := by decide +kernel
theorem dX3_become_42 : decode cX3_become 42 = .ok (.bipush 8, 2) := by decide +kernel
theorem dX3_become_44 : decode cX3_become 44 = .ok (.invokestatic 44, 3) := by decide +kernel
theorem dX3_become_47 : decode cX3_become 47 = .ok (.aload_n 1, 1) := by decide +kernel
theorem dX3_become_48 : decode cX3_become 48 = .ok (.getfield 25, 3) := by decide +kernel
theorem dX3_become_51 : decode cX3_become 51 = .ok (.iconst 0, 1) := by decide +kernel
theorem dX3_become_52 : decode cX3_become 52 = .ok (.aload_n 0, 1) := by decide +kernel
theorem dX3_become_53 : decode cX3_become 53 = .ok (.getfield 25, 3) := by decide +kernel
theorem dX3_become_56 : decode cX3_become 56 = .ok (.iconst 0, 1) := by decide +kernel
theorem dX3_become_57 : decode cX3_become 57 = .ok (.bipush 8, 2) := by decide +kernel
theorem dX3_become_59 : decode cX3_become 59 = .ok (.invokestatic 44, 3) := by decide +kernel
theorem dX3_become_62 : decode cX3_become 62 = .ok (.aload_n 1, 1) := by decide +kernel
theorem dX3_become_63 : decode cX3_become 63 = .ok (.getfield 28, 3) := by decide +kernel
theorem dX3_become_66 : decode cX3_become 66 = .ok (.iconst 0, 1) := by decide +kernel
theorem dX3_become_67 : decode cX3_become 67 = .ok (.aload_n 0, 1) := by decide +kernel
theorem dX3_become_68 : decode cX3_become 68 = .ok (.getfield 28, 3) := by decide +kernel
theorem dX3_become_71 : decode cX3_become 71 = .ok (.iconst 0, 1) := by decide +kernel
theorem dX3_become_72 : decode cX3_become 72 = .ok (.bipush 8, 2) := by decide +kernel
theorem dX3_become_74 : decode cX3_become 74 = .ok (.invokestatic 44, 3) := by decide +kernel
theorem dX3_become_77 : decode cX3_become 77 = .ok (.aload_n 1, 1) := by decide +kernel
theorem dX3_become_78 : decode cX3_become 78 = .ok (.getfield 31, 3) := by decide +kernel
theorem dX3_become_81 : decode cX3_become 81 = .ok (.iconst 0, 1) := by decide +kernel
theorem dX3_become_82 : decode cX3_become 82 = .ok (.aload_n 0, 1) := by decide +kernel
theorem dX3_become_83 : decode cX3_become 83 = .ok (.getfield 31, 3) := by decide +kernel
theorem dX3_become_86 : decode cX3_become 86 = .ok (.iconst 0, 1) := by decide +kernel
theorem dX3_become_87 : decode cX3_become 87 = .ok (.bipush 8, 2) := by decide +kernel
theorem dX3_become_89 : decode cX3_become 89 = .ok (.invokestatic 44, 3) := by decide +kernel
theorem dX3_become_92 : decode cX3_become 92 = .ok (.aload_n 1, 1) := by decide +kernel
theorem dX3_become_93 : decode cX3_become 93 = .ok (.getfield 34, 3) := by decide +kernel
theorem dX3_become_96 : decode cX3_become 96 = .ok (.iconst 0, 1) := by decide +kernel
theorem dX3_become_97 : decode cX3_become 97 = .ok (.aload_n 0, 1) := by decide +kernel
theorem dX3_become_98 : decode cX3_become 98 = .ok (.getfield 34, 3) := by decide +kernel
theorem dX3_become_101 : decode cX3_become 101 = .ok (.iconst 0, 1) := by decide +kernel
theorem dX3_become_102 : decode cX3_become 102 = .ok (.bipush 8, 2) := by decide +kernel
theorem dX3_become_104 : decode cX3_become 104 = .ok (.invokestatic 44, 3) := by decide +kernel
theorem dX3_become_107 : decode cX3_become 107 = .ok (.aload_n 1, 1) := by decide +kernel
theorem dX3_become_108 : decode cX3_become 108 = .ok (.getfield 37, 3) := by decide +kernel
theorem dX3_become_111 : decode cX3_become 111 = .ok (.iconst 0, 1) := by decide +kernel
theorem dX3_become_112 : decode cX3_become 112 = .ok (.aload_n 0, 1) := by decide +kernel
theorem dX3_become_113 : decode cX3_become 113 = .ok (.getfield 37, 3) := by decide +kernel
theorem dX3_become_116 : decode cX3_become 116 = .ok (.iconst 0, 1) := by decide +kernel
theorem dX3_become_117 : decode cX3_become 117 = .ok (.bipush 12, 2) := by decide +kernel
theorem dX3_become_119 : decode cX3_become 119 = .ok (.invokestatic 44, 3) := by decide +kernel
theorem dX3_become_122 : decode cX3_become 122 = .ok (.return_, 1) := by decide +kernel
theorem dX3_clear_0 : decode cX3_clear 0 = .ok (.aload_n 0, 1) := by decide +kernel
theorem dX3_clear_1 : decode cX3_clear 1 = .ok (.iconst 0, 1) := by decide +kernel
theorem dX3_clear_2 : decode cX3_clear 2 = .ok (.putfield 18, 3) := by decide +kernel
theorem dX3_clear_5 : decode cX3_clear 5 = .ok (.iconst 0, 1) := by decide +kernel
theorem dX3_clear_6 : decode cX3_clear 6 = .ok (.istore_n 1, 1) := by decide +kernel
theorem dX3_clear_7 : decode cX3_clear 7 = .ok (.iload_n 1, 1) := by decide +kernel
theorem dX3_clear_8 : decode cX3_clear 8 = .ok (.bipush 12, 2) := by decide +kernel
theorem dX3_clear_10 : decode cX3_clear 10 = .ok (.if_icmp .ge 16, 3) := by decide +kernel
theorem dX3_clear_13 : decode cX3_clear 13 = .ok (.aload_n 0, 1) := by decide +kernel
theorem dX3_clear_14 : decode cX3_clear 14 = .ok (.getfield 37, 3) := by decide +kernel
theorem dX3_clear_17 : decode cX3_clear 17 = .ok (.iload_n 1, 1) := by decide +kernel
theorem dX3_clear_18 : decode cX3_clear 18 = .ok (.iconst 0, 1) := by decide +kernel
theorem dX3_clear_19 : decode cX3_clear 19 = .ok (.iastore, 1) := by decide +kernel
theorem dX3_clear_20 : decode cX3_clear 20 = .ok (.iinc 1 1, 3) := by decide +kernel
theorem dX3_clear_23 : decode cX3_clear 23 = .ok (.goto (-16), 3) := by decide +kernel
theorem dX3_clear_26 : decode cX3_clear 26 = .ok (.return_, 1) := by decide +kernel
theorem dX3_putOn_0 : decode cX3_putOn 0 = .ok (.aload_n 0, 1) := by decide +kernel
theorem dX3_putOn_1 : decode cX3_putOn 1 = .ok (.getfield 18, 3) := by decide +kernel
theorem dX3_putOn_4 : decode cX3_putOn 4 = .ok (.bipush 8, 2) := by decide +kernel
theorem dX3_putOn_6 : decode cX3_putOn 6 = .ok (.if_icmp .lt 5, 3) := by decide +kernel
theorem dX3_putOn_9 : decode cX3_putOn 9 = .ok (.iconst (-1), 1) := by decide +kernel
theorem dX3_putOn_10 : decode cX3_putOn 10 = .ok (.ireturn, 1) := by decide +kernel
theorem dX3_putOn_11 : decode cX3_putOn 11 = .ok (.aload_n 0, 1) := by decide +kernel
theorem dX3_putOn_12 : decode cX3_putOn 12 = .ok (.getfield 18, 3) := by decide +kernel
theorem dX3_putOn_15 : decode cX3_putOn 15 = .ok (.istore 6, 2) := by decide +kernel
theorem dX3_putOn_17 : decode cX3_putOn 17 = .ok (.aload_n 0, 1) := by decide +kernel
theorem dX3_putOn_18 : decode cX3_putOn 18 = .ok (.getfield 21, 3) := by decide +kernel
theorem dX3_putOn_21 : decode cX3_putOn 21 = .ok (.iload 6, 2) := by decide +kernel
theorem dX3_putOn_23 : decode cX3_putOn 23 = .ok (.iload_n 1, 1) := by decide +kernel
theorem dX3_putOn_24 : decode cX3_putOn 24 = .ok (.iastore, 1) := by decide +kernel
theorem dX3_putOn_25 : decode cX3_putOn 25 = .ok (.aload_n 0, 1) := by decide +kernel
theorem dX3_putOn_26 : decode cX3_putOn 26 = .ok (.getfield 25, 3) := by decide +kernel
theorem dX3_putOn_29 : decode cX3_putOn 29 = .ok (.iload 6, 2) := by decide +kernel
theorem dX3_putOn_31 : decode cX3_putOn 31 = .ok (.iload_n 2, 1) := by decide +kernel
theorem dX3_putOn_32 : decode cX3_putOn 32 = .ok (.iastore, 1) := by decide +kernel
theorem dX3_putOn_33 : decode cX3_putOn 33 = .ok (.aload_n 0, 1) := by decide +kernel
theorem dX3_putOn_34 : decode cX3_putOn 34 = .ok (.getfield 28, 3) := by decide +kernel
theorem dX3_putOn_37 : decode cX3_putOn 37 = .ok (.iload 6, 2) := by decide +kernel
theorem dX3_putOn_39 : decode cX3_putOn 39 = .ok (.iload_n 3, 1) := by decide +kernel
theorem dX3_putOn_40 : decode cX3_putOn 40 = .ok (.iastore, 1) := by decide +kernel
theorem dX3_putOn_41 : decode cX3_putOn 41 = .ok (.aload_n 0, 1) := by decide +kernel
theorem dX3_putOn_42 : decode cX3_putOn 42 = .ok (.getfield 31, 3) := by decide +kernel
theorem dX3_putOn_45 : decode cX3_putOn 45 = .ok (.iload 6, 2) := by decide +kernel
theorem dX3_putOn_47 : decode cX3_putOn 47 = .ok (.iload 4, 2) := by decide +kernel
theorem dX3_putOn_49 : decode cX3_putOn 49 = .ok (.iastore, 1) := by decide +kernel
theorem dX3_putOn_50 : decode cX3_putOn 50 = .ok (.aload_n 0, 1) := by decide +kernel
theorem dX3_putOn_51 : decode cX3_putOn 51 = .ok (.getfield 34, 3) := by decide +kernel
theorem dX3_putOn_54 : decode cX3_putOn 54 = .ok (.iload 6, 2) := by decide +kernel
theorem dX3_putOn_56 : decode cX3_putOn 56 = .ok (.iload 5, 2) := by decide +kernel
theorem dX3_putOn_58 : decode cX3_putOn 58 = .ok (.iastore, 1) := by decide +kernel
theorem dX3_putOn_59 : decode cX3_putOn 59 = .ok (.aload_n 0, 1) := by decide +kernel
theorem dX3_putOn_60 : decode cX3_putOn 60 = .ok (.dup, 1) := by decide +kernel
theorem dX3_putOn_61 : decode cX3_putOn 61 = .ok (.getfield 18, 3) := by decide +kernel
theorem dX3_putOn_64 : decode cX3_putOn 64 = .ok (.iconst 1, 1) := by decide +kernel
theorem dX3_putOn_65 : decode cX3_putOn 65 = .ok (.iadd, 1) := by decide +kernel
theorem dX3_putOn_66 : decode cX3_putOn 66 = .ok (.putfield 18, 3) := by decide +kernel
theorem dX3_putOn_69 : decode cX3_putOn 69 = .ok (.iload 6, 2) := by decide +kernel
theorem dX3_putOn_71 : decode cX3_putOn 71 = .ok (.ireturn, 1) := by decide +kernel
theorem dX3_lies_0 : decode cX3_lies 0 = .ok (.aload_n 0, 1) := by decide +kernel
theorem dX3_lies_1 : decode cX3_lies 1 = .ok (.getfield 31, 3) := by decide +kernel
theorem dX3_lies_4 : decode cX3_lies 4 = .ok (.iload_n 1, 1) := by decide +kernel
theorem dX3_lies_5 : decode cX3_lies 5 = .ok (.iaload, 1) := by decide +kernel
theorem dX3_lies_6 : decode cX3_lies 6 = .ok (.iload_n 2, 1) := by decide +kernel
theorem dX3_lies_7 : decode cX3_lies 7 = .ok (.if_icmp .eq 20, 3) := by decide +kernel
theorem dX3_lies_10 : decode cX3_lies 10 = .ok (.aload_n 0, 1) := by decide +kernel
theorem dX3_lies_11 : decode cX3_lies 11 = .ok (.getfield 37, 3) := by decide +kernel
theorem dX3_lies_14 : decode cX3_lies 14 = .ok (.iload_n 2, 1) := by decide +kernel
theorem dX3_lies_15 : decode cX3_lies 15 = .ok (.iaload, 1) := by decide +kernel
theorem dX3_lies_16 : decode cX3_lies 16 = .ok (.iload_n 1, 1) := by decide +kernel
theorem dX3_lies_17 : decode cX3_lies 17 = .ok (.ishr, 1) := by decide +kernel
theorem dX3_lies_18 : decode cX3_lies 18 = .ok (.iconst 1, 1) := by decide +kernel
theorem dX3_lies_19 : decode cX3_lies 19 = .ok (.iand, 1) := by decide +kernel
theorem dX3_lies_20 : decode cX3_lies 20 = .ok (.ifCond .ne 7, 3) := by decide +kernel
theorem dX3_lies_23 : decode cX3_lies 23 = .ok (.iconst 1, 1) := by decide +kernel
theorem dX3_lies_24 : decode cX3_lies 24 = .ok (.goto 4, 3) := by decide +kernel
theorem dX3_lies_27 : decode cX3_lies 27 = .ok (.iconst 0, 1) := by decide +kernel
theorem dX3_lies_28 : decode cX3_lies 28 = .ok (.ireturn, 1) := by decide +kernel
theorem dX3_lyingIn_0 : decode cX3_lyingIn 0 = .ok (.iconst 0, 1) := by decide +kernel
theorem dX3_lyingIn_1 : decode cX3_lyingIn 1 = .ok (.istore_n 2, 1) := by decide +kernel
theorem dX3_lyingIn_2 : decode cX3_lyingIn 2 = .ok (.iconst 0, 1) := by decide +kernel
theorem dX3_lyingIn_3 : decode cX3_lyingIn 3 = .ok (.istore_n 3, 1) := by decide +kernel
theorem dX3_lyingIn_4 : decode cX3_lyingIn 4 = .ok (.iload_n 3, 1) := by decide +kernel
theorem dX3_lyingIn_5 : decode cX3_lyingIn 5 = .ok (.aload_n 0, 1) := by decide +kernel
theorem dX3_lyingIn_6 : decode cX3_lyingIn 6 = .ok (.getfield 18, 3) := by decide +kernel
theorem dX3_lyingIn_9 : decode cX3_lyingIn 9 = .ok (.if_icmp .ge 24, 3) := by decide +kernel
theorem dX3_lyingIn_12 : decode cX3_lyingIn 12 = .ok (.aload_n 0, 1) := by decide +kernel
theorem dX3_lyingIn_13 : decode cX3_lyingIn 13 = .ok (.iload_n 3, 1) := by decide +kernel
theorem dX3_lyingIn_14 : decode cX3_lyingIn 14 = .ok (.iload_n 1, 1) := by decide +kernel
theorem dX3_lyingIn_15 : decode cX3_lyingIn 15 = .ok (.invokevirtual 50, 3) := by decide +kernel
theorem dX3_lyingIn_18 : decode cX3_lyingIn 18 = .ok (.ifCond .eq 9, 3) := by decide +kernel
theorem dX3_lyingIn_21 : decode cX3_lyingIn 21 = .ok (.iload_n 2, 1) := by decide +kernel
theorem dX3_lyingIn_22 : decode cX3_lyingIn 22 = .ok (.iconst 1, 1) := by decide +kernel
theorem dX3_lyingIn_23 : decode cX3_lyingIn 23 = .ok (.iload_n 3, 1) := by decide +kernel
theorem dX3_lyingIn_24 : decode cX3_lyingIn 24 = .ok (.ishl, 1) := by decide +kernel
theorem dX3_lyingIn_25 : decode cX3_lyingIn 25 = .ok (.ior, 1) := by decide +kernel
theorem dX3_lyingIn_26 : decode cX3_lyingIn 26 = .ok (.istore_n 2, 1) := by decide +kernel
theorem dX3_lyingIn_27 : decode cX3_lyingIn 27 = .ok (.iinc 3 1, 3) := by decide +kernel
theorem dX3_lyingIn_30 : decode cX3_lyingIn 30 = .ok (.goto (-26), 3) := by decide +kernel
theorem dX3_lyingIn_33 : decode cX3_lyingIn 33 = .ok (.iload_n 2, 1) := by decide +kernel
theorem dX3_lyingIn_34 : decode cX3_lyingIn 34 = .ok (.ireturn, 1) := by decide +kernel
theorem dX3_cellsOf_0 : decode cX3_cellsOf 0 = .ok (.iconst 0, 1) := by decide +kernel
theorem dX3_cellsOf_1 : decode cX3_cellsOf 1 = .ok (.istore_n 2, 1) := by decide +kernel
theorem dX3_cellsOf_2 : decode cX3_cellsOf 2 = .ok (.iconst 0, 1) := by decide +kernel
theorem dX3_cellsOf_3 : decode cX3_cellsOf 3 = .ok (.istore_n 3, 1) := by decide +kernel
theorem dX3_cellsOf_4 : decode cX3_cellsOf 4 = .ok (.iload_n 3, 1) := by decide +kernel
theorem dX3_cellsOf_5 : decode cX3_cellsOf 5 = .ok (.bipush 12, 2) := by decide +kernel
theorem dX3_cellsOf_7 : decode cX3_cellsOf 7 = .ok (.if_icmp .ge 24, 3) := by decide +kernel
theorem dX3_cellsOf_10 : decode cX3_cellsOf 10 = .ok (.aload_n 0, 1) := by decide +kernel
theorem dX3_cellsOf_11 : decode cX3_cellsOf 11 = .ok (.iload_n 1, 1) := by decide +kernel
theorem dX3_cellsOf_12 : decode cX3_cellsOf 12 = .ok (.iload_n 3, 1) := by decide +kernel
theorem dX3_cellsOf_13 : decode cX3_cellsOf 13 = .ok (.invokevirtual 50, 3) := by decide +kernel
theorem dX3_cellsOf_16 : decode cX3_cellsOf 16 = .ok (.ifCond .eq 9, 3) := by decide +kernel
theorem dX3_cellsOf_19 : decode cX3_cellsOf 19 = .ok (.iload_n 2, 1) := by decide +kernel
theorem dX3_cellsOf_20 : decode cX3_cellsOf 20 = .ok (.iconst 1, 1) := by decide +kernel
theorem dX3_cellsOf_21 : decode cX3_cellsOf 21 = .ok (.iload_n 3, 1) := by decide +kernel
theorem dX3_cellsOf_22 : decode cX3_cellsOf 22 = .ok (.ishl, 1) := by decide +kernel
theorem dX3_cellsOf_23 : decode cX3_cellsOf 23 = .ok (.ior, 1) := by decide +kernel
theorem dX3_cellsOf_24 : decode cX3_cellsOf 24 = .ok (.istore_n 2, 1) := by decide +kernel
theorem dX3_cellsOf_25 : decode cX3_cellsOf 25 = .ok (.iinc 3 1, 3) := by decide +kernel
theorem dX3_cellsOf_28 : decode cX3_cellsOf 28 = .ok (.goto (-24), 3) := by decide +kernel
theorem dX3_cellsOf_31 : decode cX3_cellsOf 31 = .ok (.iload_n 2, 1) := by decide +kernel
theorem dX3_cellsOf_32 : decode cX3_cellsOf 32 = .ok (.ireturn, 1) := by decide +kernel
theorem dX3_depthFrom_0 : decode cX3_depthFrom 0 = .ok (.iconst 0, 1) := by decide +kernel
theorem dX3_depthFrom_1 : decode cX3_depthFrom 1 = .ok (.istore_n 3, 1) := by decide +kernel
theorem dX3_depthFrom_2 : decode cX3_depthFrom 2 = .ok (.iload_n 1, 1) := by decide +kernel
theorem dX3_depthFrom_3 : decode cX3_depthFrom 3 = .ok (.istore 4, 2) := by decide +kernel
theorem dX3_depthFrom_5 : decode cX3_depthFrom 5 = .ok (.iload 4, 2) := by decide +kernel
theorem dX3_depthFrom_7 : decode cX3_depthFrom 7 = .ok (.aload_n 0, 1) := by decide +kernel
theorem dX3_depthFrom_8 : decode cX3_depthFrom 8 = .ok (.getfield 18, 3) := by decide +kernel
theorem dX3_depthFrom_11 : decode cX3_depthFrom 11 = .ok (.if_icmp .ge 29, 3) := by decide +kernel
theorem dX3_depthFrom_14 : decode cX3_depthFrom 14 = .ok (.aload_n 0, 1) := by decide +kernel
theorem dX3_depthFrom_15 : decode cX3_depthFrom 15 = .ok (.iload 4, 2) := by decide +kernel
theorem dX3_depthFrom_17 : decode cX3_depthFrom 17 = .ok (.iload_n 2, 1) := by decide +kernel
theorem dX3_depthFrom_18 : decode cX3_depthFrom 18 = .ok (.invokevirtual 50, 3) := by decide +kernel
theorem dX3_depthFrom_21 : decode cX3_depthFrom 21 = .ok (.ifCond .eq 13, 3) := by decide +kernel
theorem dX3_depthFrom_24 : decode cX3_depthFrom 24 = .ok (.iload_n 3, 1) := by decide +kernel
theorem dX3_depthFrom_25 : decode cX3_depthFrom 25 = .ok (.aload_n 0, 1) := by decide +kernel
theorem dX3_depthFrom_26 : decode cX3_depthFrom 26 = .ok (.getfield 28, 3) := by decide +kernel
theorem dX3_depthFrom_29 : decode cX3_depthFrom 29 = .ok (.iload 4, 2) := by decide +kernel
theorem dX3_depthFrom_31 : decode cX3_depthFrom 31 = .ok (.iaload, 1) := by decide +kernel
theorem dX3_depthFrom_32 : decode cX3_depthFrom 32 = .ok (.iadd, 1) := by decide +kernel
theorem dX3_depthFrom_33 : decode cX3_depthFrom 33 = .ok (.istore_n 3, 1) := by decide +kernel
theorem dX3_depthFrom_34 : decode cX3_depthFrom 34 = .ok (.iinc 4 1, 3) := by decide +kernel
theorem dX3_depthFrom_37 : decode cX3_depthFrom 37 = .ok (.goto (-32), 3) := by decide +kernel
theorem dX3_depthFrom_40 : decode cX3_depthFrom 40 = .ok (.iload_n 3, 1) := by decide +kernel
theorem dX3_depthFrom_41 : decode cX3_depthFrom 41 = .ok (.ireturn, 1) := by decide +kernel
theorem dX3_depth_0 : decode cX3_depth 0 = .ok (.aload_n 0, 1) := by decide +kernel
theorem dX3_depth_1 : decode cX3_depth 1 = .ok (.iconst 0, 1) := by decide +kernel
theorem dX3_depth_2 : decode cX3_depth 2 = .ok (.iload_n 1, 1) := by decide +kernel
theorem dX3_depth_3 : decode cX3_depth 3 = .ok (.invokevirtual 54, 3) := by decide +kernel
theorem dX3_depth_6 : decode cX3_depth 6 = .ok (.ireturn, 1) := by decide +kernel
theorem dX3_greatestDepth_0 : decode cX3_greatestDepth 0 = .ok (.iconst 0, 1) := by decide +kernel
theorem dX3_greatestDepth_1 : decode cX3_greatestDepth 1 = .ok (.istore_n 1, 1) := by decide +kernel
theorem dX3_greatestDepth_2 : decode cX3_greatestDepth 2 = .ok (.iconst 0, 1) := by decide +kernel
theorem dX3_greatestDepth_3 : decode cX3_greatestDepth 3 = .ok (.istore_n 2, 1) := by decide +kernel
theorem dX3_greatestDepth_4 : decode cX3_greatestDepth 4 = .ok (.iload_n 2, 1) := by decide +kernel
theorem dX3_greatestDepth_5 : decode cX3_greatestDepth 5 = .ok (.bipush 12, 2) := by decide +kernel
theorem dX3_greatestDepth_7 : decode cX3_greatestDepth 7 = .ok (.if_icmp .ge 19, 3) := by decide +kernel
theorem dX3_greatestDepth_10 : decode cX3_greatestDepth 10 = .ok (.iload_n 1, 1) := by decide +kernel
theorem dX3_greatestDepth_11 : decode cX3_greatestDepth 11 = .ok (.aload_n 0, 1) := by decide +kernel
theorem dX3_greatestDepth_12 : decode cX3_greatestDepth 12 = .ok (.iload_n 2, 1) := by decide +kernel
theorem dX3_greatestDepth_13 : decode cX3_greatestDepth 13 = .ok (.invokevirtual 58, 3) := by decide +kernel
theorem dX3_greatestDepth_16 : decode cX3_greatestDepth 16 = .ok (.invokestatic 62, 3) := by decide +kernel
theorem dX3_greatestDepth_19 : decode cX3_greatestDepth 19 = .ok (.istore_n 1, 1) := by decide +kernel
theorem dX3_greatestDepth_20 : decode cX3_greatestDepth 20 = .ok (.iinc 2 1, 3) := by decide +kernel
theorem dX3_greatestDepth_23 : decode cX3_greatestDepth 23 = .ok (.goto (-19), 3) := by decide +kernel
theorem dX3_greatestDepth_26 : decode cX3_greatestDepth 26 = .ok (.iload_n 1, 1) := by decide +kernel
theorem dX3_greatestDepth_27 : decode cX3_greatestDepth 27 = .ok (.ireturn, 1) := by decide +kernel
theorem dX3_wholeSkin_0 : decode cX3_wholeSkin 0 = .ok (.iconst 0, 1) := by decide +kernel
theorem dX3_wholeSkin_1 : decode cX3_wholeSkin 1 = .ok (.istore_n 1, 1) := by decide +kernel
theorem dX3_wholeSkin_2 : decode cX3_wholeSkin 2 = .ok (.iconst 0, 1) := by decide +kernel
theorem dX3_wholeSkin_3 : decode cX3_wholeSkin 3 = .ok (.istore_n 2, 1) := by decide +kernel
theorem dX3_wholeSkin_4 : decode cX3_wholeSkin 4 = .ok (.iload_n 2, 1) := by decide +kernel
theorem dX3_wholeSkin_5 : decode cX3_wholeSkin 5 = .ok (.bipush 12, 2) := by decide +kernel
theorem dX3_wholeSkin_7 : decode cX3_wholeSkin 7 = .ok (.if_icmp .ge 17, 3) := by decide +kernel
theorem dX3_wholeSkin_10 : decode cX3_wholeSkin 10 = .ok (.iload_n 1, 1) := by decide +kernel
theorem dX3_wholeSkin_11 : decode cX3_wholeSkin 11 = .ok (.aload_n 0, 1) := by decide +kernel
theorem dX3_wholeSkin_12 : decode cX3_wholeSkin 12 = .ok (.iload_n 2, 1) := by decide +kernel
theorem dX3_wholeSkin_13 : decode cX3_wholeSkin 13 = .ok (.invokevirtual 58, 3) := by decide +kernel
theorem dX3_wholeSkin_16 : decode cX3_wholeSkin 16 = .ok (.iadd, 1) := by decide +kernel
theorem dX3_wholeSkin_17 : decode cX3_wholeSkin 17 = .ok (.istore_n 1, 1) := by decide +kernel
theorem dX3_wholeSkin_18 : decode cX3_wholeSkin 18 = .ok (.iinc 2 1, 3) := by decide +kernel
theorem dX3_wholeSkin_21 : decode cX3_wholeSkin 21 = .ok (.goto (-17), 3) := by decide +kernel
theorem dX3_wholeSkin_24 : decode cX3_wholeSkin 24 = .ok (.iload_n 1, 1) := by decide +kernel
theorem dX3_wholeSkin_25 : decode cX3_wholeSkin 25 = .ok (.ireturn, 1) := by decide +kernel
theorem dX3_lived_0 : decode cX3_lived 0 = .ok (.iconst 0, 1) := by decide +kernel
theorem dX3_lived_1 : decode cX3_lived 1 = .ok (.istore_n 1, 1) := by decide +kernel
theorem dX3_lived_2 : decode cX3_lived 2 = .ok (.iconst 0, 1) := by decide +kernel
theorem dX3_lived_3 : decode cX3_lived 3 = .ok (.istore_n 2, 1) := by decide +kernel
theorem dX3_lived_4 : decode cX3_lived 4 = .ok (.iload_n 2, 1) := by decide +kernel
theorem dX3_lived_5 : decode cX3_lived 5 = .ok (.aload_n 0, 1) := by decide +kernel
theorem dX3_lived_6 : decode cX3_lived 6 = .ok (.getfield 18, 3) := by decide +kernel
theorem dX3_lived_9 : decode cX3_lived 9 = .ok (.if_icmp .ge 20, 3) := by decide +kernel
theorem dX3_lived_12 : decode cX3_lived 12 = .ok (.iload_n 1, 1) := by decide +kernel
theorem dX3_lived_13 : decode cX3_lived 13 = .ok (.iconst 1, 1) := by decide +kernel
theorem dX3_lived_14 : decode cX3_lived 14 = .ok (.aload_n 0, 1) := by decide +kernel
theorem dX3_lived_15 : decode cX3_lived 15 = .ok (.getfield 21, 3) := by decide +kernel
theorem dX3_lived_18 : decode cX3_lived 18 = .ok (.iload_n 2, 1) := by decide +kernel
theorem dX3_lived_19 : decode cX3_lived 19 = .ok (.iaload, 1) := by decide +kernel
theorem dX3_lived_20 : decode cX3_lived 20 = .ok (.ishl, 1) := by decide +kernel
theorem dX3_lived_21 : decode cX3_lived 21 = .ok (.ior, 1) := by decide +kernel
theorem dX3_lived_22 : decode cX3_lived 22 = .ok (.istore_n 1, 1) := by decide +kernel
theorem dX3_lived_23 : decode cX3_lived 23 = .ok (.iinc 2 1, 3) := by decide +kernel
theorem dX3_lived_26 : decode cX3_lived 26 = .ok (.goto (-22), 3) := by decide +kernel
theorem dX3_lived_29 : decode cX3_lived 29 = .ok (.iload_n 1, 1) := by decide +kernel
theorem dX3_lived_30 : decode cX3_lived 30 = .ok (.ireturn, 1) := by decide +kernel
theorem dX3_coatsOf_0 : decode cX3_coatsOf 0 = .ok (.iconst 0, 1) := by decide +kernel
theorem dX3_coatsOf_1 : decode cX3_coatsOf 1 = .ok (.istore_n 2, 1) := by decide +kernel
theorem dX3_coatsOf_2 : decode cX3_coatsOf 2 = .ok (.iconst 0, 1) := by decide +kernel
theorem dX3_coatsOf_3 : decode cX3_coatsOf 3 = .ok (.istore_n 3, 1) := by decide +kernel
theorem dX3_coatsOf_4 : decode cX3_coatsOf 4 = .ok (.iload_n 3, 1) := by decide +kernel
theorem dX3_coatsOf_5 : decode cX3_coatsOf 5 = .ok (.aload_n 0, 1) := by decide +kernel
theorem dX3_coatsOf_6 : decode cX3_coatsOf 6 = .ok (.getfield 18, 3) := by decide +kernel
theorem dX3_coatsOf_9 : decode cX3_coatsOf 9 = .ok (.if_icmp .ge 22, 3) := by decide +kernel
theorem dX3_coatsOf_12 : decode cX3_coatsOf 12 = .ok (.aload_n 0, 1) := by decide +kernel
theorem dX3_coatsOf_13 : decode cX3_coatsOf 13 = .ok (.getfield 21, 3) := by decide +kernel
theorem dX3_coatsOf_16 : decode cX3_coatsOf 16 = .ok (.iload_n 3, 1) := by decide +kernel
theorem dX3_coatsOf_17 : decode cX3_coatsOf 17 = .ok (.iaload, 1) := by decide +kernel
theorem dX3_coatsOf_18 : decode cX3_coatsOf 18 = .ok (.iload_n 1, 1) := by decide +kernel
theorem dX3_coatsOf_19 : decode cX3_coatsOf 19 = .ok (.if_icmp .ne 6, 3) := by decide +kernel
theorem dX3_coatsOf_22 : decode cX3_coatsOf 22 = .ok (.iinc 2 1, 3) := by decide +kernel
theorem dX3_coatsOf_25 : decode cX3_coatsOf 25 = .ok (.iinc 3 1, 3) := by decide +kernel
theorem dX3_coatsOf_28 : decode cX3_coatsOf 28 = .ok (.goto (-24), 3) := by decide +kernel
theorem dX3_coatsOf_31 : decode cX3_coatsOf 31 = .ok (.iload_n 2, 1) := by decide +kernel
theorem dX3_coatsOf_32 : decode cX3_coatsOf 32 = .ok (.ireturn, 1) := by decide +kernel
theorem dX3_wetness_0 : decode cX3_wetness 0 = .ok (.aload_n 0, 1) := by decide +kernel
theorem dX3_wetness_1 : decode cX3_wetness 1 = .ok (.getfield 40, 3) := by decide +kernel
theorem dX3_wetness_4 : decode cX3_wetness 4 = .ok (.aload_n 0, 1) := by decide +kernel
theorem dX3_wetness_5 : decode cX3_wetness 5 = .ok (.getfield 15, 3) := by decide +kernel
theorem dX3_wetness_8 : decode cX3_wetness 8 = .ok (.iload_n 1, 1) := by decide +kernel
theorem dX3_wetness_9 : decode cX3_wetness 9 = .ok (.iload_n 2, 1) := by decide +kernel
theorem dX3_wetness_10 : decode cX3_wetness 10 = .ok (.invokevirtual 67, 3) := by decide +kernel
theorem dX3_wetness_13 : decode cX3_wetness 13 = .ok (.ireturn, 1) := by decide +kernel
theorem dX3_hardness_0 : decode cX3_hardness 0 = .ok (.aload_n 0, 1) := by decide +kernel
theorem dX3_hardness_1 : decode cX3_hardness 1 = .ok (.getfield 40, 3) := by decide +kernel
theorem dX3_hardness_4 : decode cX3_hardness 4 = .ok (.aload_n 0, 1) := by decide +kernel
theorem dX3_hardness_5 : decode cX3_hardness 5 = .ok (.getfield 15, 3) := by decide +kernel
theorem dX3_hardness_8 : decode cX3_hardness 8 = .ok (.iload_n 1, 1) := by decide +kernel
theorem dX3_hardness_9 : decode cX3_hardness 9 = .ok (.iload_n 2, 1) := by decide +kernel
theorem dX3_hardness_10 : decode cX3_hardness 10 = .ok (.invokevirtual 73, 3) := by decide +kernel
theorem dX3_hardness_13 : decode cX3_hardness 13 = .ok (.ireturn, 1) := by decide +kernel
theorem dX3_wettestBut_0 : decode cX3_wettestBut 0 = .ok (.iconst 0, 1) := by decide +kernel
theorem dX3_wettestBut_1 : decode cX3_wettestBut 1 = .ok (.istore_n 3, 1) := by decide +kernel
theorem dX3_wettestBut_2 : decode cX3_wettestBut 2 = .ok (.iconst 0, 1) := by decide +kernel
theorem dX3_wettestBut_3 : decode cX3_wettestBut 3 = .ok (.istore 4, 2) := by decide +kernel
theorem dX3_wettestBut_5 : decode cX3_wettestBut 5 = .ok (.iload 4, 2) := by decide +kernel
theorem dX3_wettestBut_7 : decode cX3_wettestBut 7 = .ok (.bipush 12, 2) := by decide +kernel
theorem dX3_wettestBut_9 : decode cX3_wettestBut 9 = .ok (.if_icmp .ge 27, 3) := by decide +kernel
theorem dX3_wettestBut_12 : decode cX3_wettestBut 12 = .ok (.iload 4, 2) := by decide +kernel
theorem dX3_wettestBut_14 : decode cX3_wettestBut 14 = .ok (.iload_n 1, 1) := by decide +kernel
theorem dX3_wettestBut_15 : decode cX3_wettestBut 15 = .ok (.if_icmp .eq 15, 3) := by decide +kernel
theorem dX3_wettestBut_18 : decode cX3_wettestBut 18 = .ok (.iload_n 3, 1) := by decide +kernel
theorem dX3_wettestBut_19 : decode cX3_wettestBut 19 = .ok (.aload_n 0, 1) := by decide +kernel
theorem dX3_wettestBut_20 : decode cX3_wettestBut 20 = .ok (.iload 4, 2) := by decide +kernel
theorem dX3_wettestBut_22 : decode cX3_wettestBut 22 = .ok (.iload_n 2, 1) := by decide +kernel
theorem dX3_wettestBut_23 : decode cX3_wettestBut 23 = .ok (.invokevirtual 76, 3) := by decide +kernel
theorem dX3_wettestBut_26 : decode cX3_wettestBut 26 = .ok (.invokestatic 62, 3) := by decide +kernel
theorem dX3_wettestBut_29 : decode cX3_wettestBut 29 = .ok (.istore_n 3, 1) := by decide +kernel
theorem dX3_wettestBut_30 : decode cX3_wettestBut 30 = .ok (.iinc 4 1, 3) := by decide +kernel
theorem dX3_wettestBut_33 : decode cX3_wettestBut 33 = .ok (.goto (-28), 3) := by decide +kernel
theorem dX3_wettestBut_36 : decode cX3_wettestBut 36 = .ok (.iload_n 3, 1) := by decide +kernel
theorem dX3_wettestBut_37 : decode cX3_wettestBut 37 = .ok (.ireturn, 1) := by decide +kernel
theorem dX3_behindHail_0 : decode cX3_behindHail 0 = .ok (.aload_n 0, 1) := by decide +kernel
theorem dX3_behindHail_1 : decode cX3_behindHail 1 = .ok (.getfield 40, 3) := by decide +kernel
theorem dX3_behindHail_4 : decode cX3_behindHail 4 = .ok (.aload_n 0, 1) := by decide +kernel
theorem dX3_behindHail_5 : decode cX3_behindHail 5 = .ok (.getfield 15, 3) := by decide +kernel
theorem dX3_behindHail_8 : decode cX3_behindHail 8 = .ok (.iload_n 1, 1) := by decide +kernel
theorem dX3_behindHail_9 : decode cX3_behindHail 9 = .ok (.iload_n 2, 1) := by decide +kernel
theorem dX3_behindHail_10 : decode cX3_behindHail 10 = .ok (.invokevirtual 73, 3) := by decide +kernel
theorem dX3_behindHail_13 : decode cX3_behindHail 13 = .ok (.istore_n 3, 1) := by decide +kernel
theorem dX3_behindHail_14 : decode cX3_behindHail 14 = .ok (.aload_n 0, 1) := by decide +kernel
theorem dX3_behindHail_15 : decode cX3_behindHail 15 = .ok (.iload_n 1, 1) := by decide +kernel
theorem dX3_behindHail_16 : decode cX3_behindHail 16 = .ok (.invokevirtual 78, 3) := by decide +kernel
theorem dX3_behindHail_19 : decode cX3_behindHail 19 = .ok (.istore 4, 2) := by decide +kernel
theorem dX3_behindHail_21 : decode cX3_behindHail 21 = .ok (.aload_n 0, 1) := by decide +kernel
theorem dX3_behindHail_22 : decode cX3_behindHail 22 = .ok (.getfield 18, 3) := by decide +kernel
theorem dX3_behindHail_25 : decode cX3_behindHail 25 = .ok (.iconst 1, 1) := by decide +kernel
theorem dX3_behindHail_26 : decode cX3_behindHail 26 = .ok (.isub, 1) := by decide +kernel
theorem dX3_behindHail_27 : decode cX3_behindHail 27 = .ok (.istore 5, 2) := by decide +kernel
theorem dX3_behindHail_29 : decode cX3_behindHail 29 = .ok (.iload 5, 2) := by decide +kernel
theorem dX3_behindHail_31 : decode cX3_behindHail 31 = .ok (.ifCond .lt 54, 3) := by decide +kernel
theorem dX3_behindHail_34 : decode cX3_behindHail 34 = .ok (.iload 4, 2) := by decide +kernel
theorem dX3_behindHail_36 : decode cX3_behindHail 36 = .ok (.iload 5, 2) := by decide +kernel
theorem dX3_behindHail_38 : decode cX3_behindHail 38 = .ok (.ishr, 1) := by decide +kernel
theorem dX3_behindHail_39 : decode cX3_behindHail 39 = .ok (.iconst 1, 1) := by decide +kernel
theorem dX3_behindHail_40 : decode cX3_behindHail 40 = .ok (.iand, 1) := by decide +kernel
theorem dX3_behindHail_41 : decode cX3_behindHail 41 = .ok (.ifCond .eq 38, 3) := by decide +kernel
theorem dX3_behindHail_44 : decode cX3_behindHail 44 = .ok (.aload_n 0, 1) := by decide +kernel
theorem dX3_behindHail_45 : decode cX3_behindHail 45 = .ok (.getfield 28, 3) := by decide +kernel
theorem dX3_behindHail_48 : decode cX3_behindHail 48 = .ok (.iload 5, 2) := by decide +kernel
theorem dX3_behindHail_50 : decode cX3_behindHail 50 = .ok (.iaload, 1) := by decide +kernel
theorem dX3_behindHail_51 : decode cX3_behindHail 51 = .ok (.iload_n 3, 1) := by decide +kernel
theorem dX3_behindHail_52 : decode cX3_behindHail 52 = .ok (.if_icmp .le 6, 3) := by decide +kernel
theorem dX3_behindHail_55 : decode cX3_behindHail 55 = .ok (.iload 4, 2) := by decide +kernel
theorem dX3_behindHail_57 : decode cX3_behindHail 57 = .ok (.ireturn, 1) := by decide +kernel
theorem dX3_behindHail_58 : decode cX3_behindHail 58 = .ok (.iload_n 3, 1) := by decide +kernel
theorem dX3_behindHail_59 : decode cX3_behindHail 59 = .ok (.aload_n 0, 1) := by decide +kernel
theorem dX3_behindHail_60 : decode cX3_behindHail 60 = .ok (.getfield 28, 3) := by decide +kernel
theorem dX3_behindHail_63 : decode cX3_behindHail 63 = .ok (.iload 5, 2) := by decide +kernel
theorem dX3_behindHail_65 : decode cX3_behindHail 65 = .ok (.iaload, 1) := by decide +kernel
theorem dX3_behindHail_66 : decode cX3_behindHail 66 = .ok (.isub, 1) := by decide +kernel
theorem dX3_behindHail_67 : decode cX3_behindHail 67 = .ok (.istore_n 3, 1) := by decide +kernel
theorem dX3_behindHail_68 : decode cX3_behindHail 68 = .ok (.iload 4, 2) := by decide +kernel
theorem dX3_behindHail_70 : decode cX3_behindHail 70 = .ok (.iconst 1, 1) := by decide +kernel
theorem dX3_behindHail_71 : decode cX3_behindHail 71 = .ok (.iload 5, 2) := by decide +kernel
theorem dX3_behindHail_73 : decode cX3_behindHail 73 = .ok (.ishl, 1) := by decide +kernel
theorem dX3_behindHail_74 : decode cX3_behindHail 74 = .ok (.iconst (-1), 1) := by decide +kernel
theorem dX3_behindHail_75 : decode cX3_behindHail 75 = .ok (.ixor, 1) := by decide +kernel
theorem dX3_behindHail_76 : decode cX3_behindHail 76 = .ok (.iand, 1) := by decide +kernel
theorem dX3_behindHail_77 : decode cX3_behindHail 77 = .ok (.istore 4, 2) := by decide +kernel
theorem dX3_behindHail_79 : decode cX3_behindHail 79 = .ok (.iinc 5 (-1), 3) := by decide +kernel
theorem dX3_behindHail_82 : decode cX3_behindHail 82 = .ok (.goto (-53), 3) := by decide +kernel
theorem dX3_behindHail_85 : decode cX3_behindHail 85 = .ok (.iload 4, 2) := by decide +kernel
theorem dX3_behindHail_87 : decode cX3_behindHail 87 = .ok (.ireturn, 1) := by decide +kernel
theorem dX3_hailInTruth_0 : decode cX3_hailInTruth 0 = .ok (.aload_n 0, 1) := by decide +kernel
theorem dX3_hailInTruth_1 : decode cX3_hailInTruth 1 = .ok (.iload_n 1, 1) := by decide +kernel
theorem dX3_hailInTruth_2 : decode cX3_hailInTruth 2 = .ok (.invokevirtual 78, 3) := by decide +kernel
theorem dX3_hailInTruth_5 : decode cX3_hailInTruth 5 = .ok (.aload_n 0, 1) := by decide +kernel
theorem dX3_hailInTruth_6 : decode cX3_hailInTruth 6 = .ok (.iload_n 1, 1) := by decide +kernel
theorem dX3_hailInTruth_7 : decode cX3_hailInTruth 7 = .ok (.iload_n 2, 1) := by decide +kernel
theorem dX3_hailInTruth_8 : decode cX3_hailInTruth 8 = .ok (.invokevirtual 81, 3) := by decide +kernel
theorem dX3_hailInTruth_11 : decode cX3_hailInTruth 11 = .ok (.iconst (-1), 1) := by decide +kernel
theorem dX3_hailInTruth_12 : decode cX3_hailInTruth 12 = .ok (.ixor, 1) := by decide +kernel
theorem dX3_hailInTruth_13 : decode cX3_hailInTruth 13 = .ok (.iand, 1) := by decide +kernel
theorem dX3_hailInTruth_14 : decode cX3_hailInTruth 14 = .ok (.istore_n 3, 1) := by decide +kernel
theorem dX3_hailInTruth_15 : decode cX3_hailInTruth 15 = .ok (.aload_n 0, 1) := by decide +kernel
theorem dX3_hailInTruth_16 : decode cX3_hailInTruth 16 = .ok (.getfield 37, 3) := by decide +kernel
theorem dX3_hailInTruth_19 : decode cX3_hailInTruth 19 = .ok (.iload_n 1, 1) := by decide +kernel
theorem dX3_hailInTruth_20 : decode cX3_hailInTruth 20 = .ok (.dup2, 1) := by decide +kernel
theorem dX3_hailInTruth_21 : decode cX3_hailInTruth 21 = .ok (.iaload, 1) := by decide +kernel
theorem dX3_hailInTruth_22 : decode cX3_hailInTruth 22 = .ok (.iload_n 3, 1) := by decide +kernel
theorem dX3_hailInTruth_23 : decode cX3_hailInTruth 23 = .ok (.ior, 1) := by decide +kernel
theorem dX3_hailInTruth_24 : decode cX3_hailInTruth 24 = .ok (.iastore, 1) := by decide +kernel
theorem dX3_hailInTruth_25 : decode cX3_hailInTruth 25 = .ok (.iload_n 3, 1) := by decide +kernel
theorem dX3_hailInTruth_26 : decode cX3_hailInTruth 26 = .ok (.invokestatic 84, 3) := by decide +kernel
theorem dX3_hailInTruth_29 : decode cX3_hailInTruth 29 = .ok (.ireturn, 1) := by decide +kernel
theorem dX3_takeUppermost_0 : decode cX3_takeUppermost 0 = .ok (.aload_n 0, 1) := by decide +kernel
theorem dX3_takeUppermost_1 : decode cX3_takeUppermost 1 = .ok (.getfield 18, 3) := by decide +kernel
theorem dX3_takeUppermost_4 : decode cX3_takeUppermost 4 = .ok (.iconst 1, 1) := by decide +kernel
theorem dX3_takeUppermost_5 : decode cX3_takeUppermost 5 = .ok (.isub, 1) := by decide +kernel
theorem dX3_takeUppermost_6 : decode cX3_takeUppermost 6 = .ok (.istore_n 2, 1) := by decide +kernel
theorem dX3_takeUppermost_7 : decode cX3_takeUppermost 7 = .ok (.iload_n 2, 1) := by decide +kernel
theorem dX3_takeUppermost_8 : decode cX3_takeUppermost 8 = .ok (.ifCond .lt 32, 3) := by decide +kernel
theorem dX3_takeUppermost_11 : decode cX3_takeUppermost 11 = .ok (.aload_n 0, 1) := by decide +kernel
theorem dX3_takeUppermost_12 : decode cX3_takeUppermost 12 = .ok (.iload_n 2, 1) := by decide +kernel
theorem dX3_takeUppermost_13 : decode cX3_takeUppermost 13 = .ok (.iload_n 1, 1) := by decide +kernel
theorem dX3_takeUppermost_14 : decode cX3_takeUppermost 14 = .ok (.invokevirtual 50, 3) := by decide +kernel
theorem dX3_takeUppermost_17 : decode cX3_takeUppermost 17 = .ok (.ifCond .eq 17, 3) := by decide +kernel
theorem dX3_takeUppermost_20 : decode cX3_takeUppermost 20 = .ok (.aload_n 0, 1) := by decide +kernel
theorem dX3_takeUppermost_21 : decode cX3_takeUppermost 21 = .ok (.getfield 37, 3) := by decide +kernel
theorem dX3_takeUppermost_24 : decode cX3_takeUppermost 24 = .ok (.iload_n 1, 1) := by decide +kernel
theorem dX3_takeUppermost_25 : decode cX3_takeUppermost 25 = .ok (.dup2, 1) := by decide +kernel
theorem dX3_takeUppermost_26 : decode cX3_takeUppermost 26 = .ok (.iaload, 1) := by decide +kernel
theorem dX3_takeUppermost_27 : decode cX3_takeUppermost 27 = .ok (.iconst 1, 1) := by decide +kernel
theorem dX3_takeUppermost_28 : decode cX3_takeUppermost 28 = .ok (.iload_n 2, 1) := by decide +kernel
theorem dX3_takeUppermost_29 : decode cX3_takeUppermost 29 = .ok (.ishl, 1) := by decide +kernel
theorem dX3_takeUppermost_30 : decode cX3_takeUppermost 30 = .ok (.ior, 1) := by decide +kernel
theorem dX3_takeUppermost_31 : decode cX3_takeUppermost 31 = .ok (.iastore, 1) := by decide +kernel
theorem dX3_takeUppermost_32 : decode cX3_takeUppermost 32 = .ok (.iload_n 2, 1) := by decide +kernel
theorem dX3_takeUppermost_33 : decode cX3_takeUppermost 33 = .ok (.ireturn, 1) := by decide +kernel
theorem dX3_takeUppermost_34 : decode cX3_takeUppermost 34 = .ok (.iinc 2 (-1), 3) := by decide +kernel
theorem dX3_takeUppermost_37 : decode cX3_takeUppermost 37 = .ok (.goto (-30), 3) := by decide +kernel
theorem dX3_takeUppermost_40 : decode cX3_takeUppermost 40 = .ok (.iconst (-1), 1) := by decide +kernel
theorem dX3_takeUppermost_41 : decode cX3_takeUppermost 41 = .ok (.ireturn, 1) := by decide +kernel
theorem dX4_init_0 : decode cX4_init 0 = .ok (.aload_n 0, 1) := by decide +kernel
theorem dX4_init_1 : decode cX4_init 1 = .ok (.invokespecial 1, 3) := by decide +kernel
theorem dX4_init_4 : decode cX4_init 4 = .ok (.return_, 1) := by decide +kernel
theorem dX4_wetness_0 : decode cX4_wetness 0 = .ok (.iload_n 3, 1) := by decide +kernel
theorem dX4_wetness_1 : decode cX4_wetness 1 = .ok (.ireturn, 1) := by decide +kernel
theorem dX4_hardness_0 : decode cX4_hardness 0 = .ok (.iload_n 3, 1) := by decide +kernel
theorem dX4_hardness_1 : decode cX4_hardness 1 = .ok (.ireturn, 1) := by decide +kernel
theorem dX4_counted_0 : decode cX4_counted 0 = .ok (.iload_n 1, 1) := by decide +kernel
theorem dX4_counted_1 : decode cX4_counted 1 = .ok (.ireturn, 1) := by decide +kernel
theorem dX4_actPaints_0 : decode cX4_actPaints 0 = .ok (.aload_n 1, 1) := by decide +kernel
theorem dX4_actPaints_1 : decode cX4_actPaints 1 = .ok (.bipush 10, 2) := by decide +kernel
theorem dX4_actPaints_3 : decode cX4_actPaints 3 = .ok (.invokevirtual 7, 3) := by decide +kernel
theorem dX4_actPaints_6 : decode cX4_actPaints 6 = .ok (.iload_n 2, 1) := by decide +kernel
theorem dX4_actPaints_7 : decode cX4_actPaints 7 = .ok (.aload_n 1, 1) := by decide +kernel
theorem dX4_actPaints_8 : decode cX4_actPaints 8 = .ok (.getfield 13, 3) := by decide +kernel
theorem dX4_actPaints_11 : decode cX4_actPaints 11 = .ok (.iadd, 1) := by decide +kernel
theorem dX4_actPaints_12 : decode cX4_actPaints 12 = .ok (.ireturn, 1) := by decide +kernel
theorem dX4_actPeels_0 : decode cX4_actPeels 0 = .ok (.aload_n 1, 1) := by decide +kernel
theorem dX4_actPeels_1 : decode cX4_actPeels 1 = .ok (.bipush 11, 2) := by decide +kernel
theorem dX4_actPeels_3 : decode cX4_actPeels 3 = .ok (.invokevirtual 7, 3) := by decide +kernel
theorem dX4_actPeels_6 : decode cX4_actPeels 6 = .ok (.aload_n 0, 1) := by decide +kernel
theorem dX4_actPeels_7 : decode cX4_actPeels 7 = .ok (.aload_n 1, 1) := by decide +kernel
theorem dX4_actPeels_8 : decode cX4_actPeels 8 = .ok (.iload_n 2, 1) := by decide +kernel
theorem dX4_actPeels_9 : decode cX4_actPeels 9 = .ok (.invokevirtual 17, 3) := by decide +kernel
theorem dX4_actPeels_12 : decode cX4_actPeels 12 = .ok (.iconst 2, 1) := by decide +kernel
theorem dX4_actPeels_13 : decode cX4_actPeels 13 = .ok (.imul, 1) := by decide +kernel
theorem dX4_actPeels_14 : decode cX4_actPeels 14 = .ok (.ireturn, 1) := by decide +kernel
theorem dX4_actFalls_0 : decode cX4_actFalls 0 = .ok (.aload_n 1, 1) := by decide +kernel
theorem dX4_actFalls_1 : decode cX4_actFalls 1 = .ok (.bipush 12, 2) := by decide +kernel
theorem dX4_actFalls_3 : decode cX4_actFalls 3 = .ok (.invokevirtual 7, 3) := by decide +kernel
theorem dX4_actFalls_6 : decode cX4_actFalls 6 = .ok (.aload_n 0, 1) := by decide +kernel
theorem dX4_actFalls_7 : decode cX4_actFalls 7 = .ok (.aload_n 1, 1) := by decide +kernel
theorem dX4_actFalls_8 : decode cX4_actFalls 8 = .ok (.iload_n 2, 1) := by decide +kernel
theorem dX4_actFalls_9 : decode cX4_actFalls 9 = .ok (.invokevirtual 23, 3) := by decide +kernel
theorem dX4_actFalls_12 : decode cX4_actFalls 12 = .ok (.aload_n 0, 1) := by decide +kernel
theorem dX4_actFalls_13 : decode cX4_actFalls 13 = .ok (.aload_n 1, 1) := by decide +kernel
theorem dX4_actFalls_14 : decode cX4_actFalls 14 = .ok (.iload_n 2, 1) := by decide +kernel
theorem dX4_actFalls_15 : decode cX4_actFalls 15 = .ok (.aload_n 1, 1) := by decide +kernel
theorem dX4_actFalls_16 : decode cX4_actFalls 16 = .ok (.getfield 26, 3) := by decide +kernel
theorem dX4_actFalls_19 : decode cX4_actFalls 19 = .ok (.isub, 1) := by decide +kernel
theorem dX4_actFalls_20 : decode cX4_actFalls 20 = .ok (.invokevirtual 17, 3) := by decide +kernel
theorem dX4_actFalls_23 : decode cX4_actFalls 23 = .ok (.ixor, 1) := by decide +kernel
theorem dX4_actFalls_24 : decode cX4_actFalls 24 = .ok (.ireturn, 1) := by decide +kernel
theorem dX5_init_0 : decode cX5_init 0 = .ok (.aload_n 0, 1) := by decide +kernel
theorem dX5_init_1 : decode cX5_init 1 = .ok (.invokespecial 1, 3) := by decide +kernel
theorem dX5_init_4 : decode cX5_init 4 = .ok (.return_, 1) := by decide +kernel
theorem dX5_hardness_0 : decode cX5_hardness 0 = .ok (.iload_n 3, 1) := by decide +kernel
theorem dX5_hardness_1 : decode cX5_hardness 1 = .ok (.iload_n 1, 1) := by decide +kernel
theorem dX5_hardness_2 : decode cX5_hardness 2 = .ok (.if_icmp .le 9, 3) := by decide +kernel
theorem dX5_hardness_5 : decode cX5_hardness 5 = .ok (.iload_n 3, 1) := by decide +kernel
theorem dX5_hardness_6 : decode cX5_hardness 6 = .ok (.iload_n 1, 1) := by decide +kernel
theorem dX5_hardness_7 : decode cX5_hardness 7 = .ok (.isub, 1) := by decide +kernel
theorem dX5_hardness_8 : decode cX5_hardness 8 = .ok (.goto 4, 3) := by decide +kernel
theorem dX5_hardness_11 : decode cX5_hardness 11 = .ok (.iconst 0, 1) := by decide +kernel
theorem dX5_hardness_12 : decode cX5_hardness 12 = .ok (.ireturn, 1) := by decide +kernel
theorem dX5_actPeels_0 : decode cX5_actPeels 0 = .ok (.aload_n 1, 1) := by decide +kernel
theorem dX5_actPeels_1 : decode cX5_actPeels 1 = .ok (.bipush 30, 2) := by decide +kernel
theorem dX5_actPeels_3 : decode cX5_actPeels 3 = .ok (.invokevirtual 7, 3) := by decide +kernel
theorem dX5_actPeels_6 : decode cX5_actPeels 6 = .ok (.aload_n 0, 1) := by decide +kernel
theorem dX5_actPeels_7 : decode cX5_actPeels 7 = .ok (.aload_n 1, 1) := by decide +kernel
theorem dX5_actPeels_8 : decode cX5_actPeels 8 = .ok (.iload_n 2, 1) := by decide +kernel
theorem dX5_actPeels_9 : decode cX5_actPeels 9 = .ok (.invokespecial 13, 3) := by decide +kernel
theorem dX5_actPeels_12 : decode cX5_actPeels 12 = .ok (.iconst 3, 1) := by decide +kernel
theorem dX5_actPeels_13 : decode cX5_actPeels 13 = .ok (.imul, 1) := by decide +kernel
theorem dX5_actPeels_14 : decode cX5_actPeels 14 = .ok (.ireturn, 1) := by decide +kernel
theorem dX6_init_0 : decode cX6_init 0 = .ok (.aload_n 0, 1) := by decide +kernel
theorem dX6_init_1 : decode cX6_init 1 = .ok (.invokespecial 3, 3) := by decide +kernel
theorem dX6_init_4 : decode cX6_init 4 = .ok (.aload_n 0, 1) := by decide +kernel
theorem dX6_init_5 : decode cX6_init 5 = .ok (.iconst 0, 1) := by decide +kernel
theorem dX6_init_6 : decode cX6_init 6 = .ok (.putfield 9, 3) := by decide +kernel
theorem dX6_init_9 : decode cX6_init 9 = .ok (.aload_n 0, 1) := by decide +kernel
theorem dX6_init_10 : decode cX6_init 10 = .ok (.iconst 0, 1) := by decide +kernel
theorem dX6_init_11 : decode cX6_init 11 = .ok (.putfield 15, 3) := by decide +kernel
theorem dX6_init_14 : decode cX6_init 14 = .ok (.aload_n 0, 1) := by decide +kernel
theorem dX6_init_15 : decode cX6_init 15 = .ok (.iconst 0, 1) := by decide +kernel
theorem dX6_init_16 : decode cX6_init 16 = .ok (.putfield 18, 3) := by decide +kernel
theorem dX6_init_19 : decode cX6_init 19 = .ok (.aload_n 0, 1) := by decide +kernel
theorem dX6_init_20 : decode cX6_init 20 = .ok (.iconst (-1), 1) := by decide +kernel
theorem dX6_init_21 : decode cX6_init 21 = .ok (.putfield 21, 3) := by decide +kernel
theorem dX6_init_24 : decode cX6_init 24 = .ok (.return_, 1) := by decide +kernel
theorem dX6_readAll_0 : decode cX6_readAll 0 = .ok (.aload_n 0, 1) := by decide +kernel
theorem dX6_readAll_1 : decode cX6_readAll 1 = .ok (.aload_n 1, 1) := by decide +kernel
theorem dX6_readAll_2 : decode cX6_readAll 2 = .ok (.putfield 24, 3) := by decide +kernel
theorem dX6_readAll_5 : decode cX6_readAll 5 = .ok (.aload_n 0, 1) := by decide +kernel
theorem dX6_readAll_6 : decode cX6_readAll 6 = .ok (.aload_n 2, 1) := by decide +kernel
theorem dX6_readAll_7 : decode cX6_readAll 7 = .ok (.putfield 28, 3) := by decide +kernel
theorem dX6_readAll_10 : decode cX6_readAll 10 = .ok (.aload_n 0, 1) := by decide +kernel
theorem dX6_readAll_11 : decode cX6_readAll 11 = .ok (.iload_n 3, 1) := by decide +kernel
theorem dX6_readAll_12 : decode cX6_readAll 12 = .ok (.putfield 9, 3) := by decide +kernel
theorem dX6_readAll_15 : decode cX6_readAll 15 = .ok (.aload_n 0, 1) := by decide +kernel
theorem dX6_readAll_16 : decode cX6_readAll 16 = .ok (.iconst 0, 1) := by decide +kernel
theorem dX6_readAll_17 : decode cX6_readAll 17 = .ok (.putfield 15, 3) := by decide +kernel
theorem dX6_readAll_20 : decode cX6_readAll 20 = .ok (.aload_n 0, 1) := by decide +kernel
theorem dX6_readAll_21 : decode cX6_readAll 21 = .ok (.iconst (-1), 1) := by decide +kernel
theorem dX6_readAll_22 : decode cX6_readAll 22 = .ok (.putfield 21, 3) := by decide +kernel
theorem dX6_readAll_25 : decode cX6_readAll 25 = .ok (.iconst 0, 1) := by decide +kernel
theorem dX6_readAll_26 : decode cX6_readAll 26 = .ok (.istore 4, 2) := by decide +kernel
theorem dX6_readAll_28 : decode cX6_readAll 28 = .ok (.iconst 1, 1) := by decide +kernel
theorem dX6_readAll_29 : decode cX6_readAll 29 = .ok (.istore 5, 2) := by decide +kernel
theorem dX6_readAll_31 : decode cX6_readAll 31 = .ok (.iload 5, 2) := by decide +kernel
theorem dX6_readAll_33 : decode cX6_readAll 33 = .ok (.ifCond .eq 57, 3) := by decide +kernel
theorem dX6_readAll_36 : decode cX6_readAll 36 = .ok (.iload 4, 2) := by decide +kernel
theorem dX6_readAll_38 : decode cX6_readAll 38 = .ok (.aload_n 0, 1) := by decide +kernel
theorem dX6_readAll_39 : decode cX6_readAll 39 = .ok (.getfield 9, 3) := by decide +kernel
theorem dX6_readAll_42 : decode cX6_readAll 42 = .ok (.if_icmp .gt 48, 3) := by decide +kernel
theorem dX6_readAll_45 : decode cX6_readAll 45 = .ok (.aload_n 0, 1) := by decide +kernel
theorem dX6_readAll_46 : decode cX6_readAll 46 = .ok (.invokevirtual 32, 3) := by decide +kernel
theorem dX6_readAll_49 : decode cX6_readAll 49 = .ok (.iinc 4 1, 3) := by decide +kernel
theorem dX6_readAll_52 : decode cX6_readAll 52 = .ok (.aload_n 0, 1) := by decide +kernel
theorem dX6_readAll_53 : decode cX6_readAll 53 = .ok (.getfield 21, 3) := by decide +kernel
theorem dX6_readAll_56 : decode cX6_readAll 56 = .ok (.iconst (-1), 1) := by decide +kernel
theorem dX6_readAll_57 : decode cX6_readAll 57 = .ok (.if_icmp .ne 27, 3) := by decide +kernel
theorem dX6_readAll_60 : decode cX6_readAll 60 = .ok (.aload_n 0, 1) := by decide +kernel
theorem dX6_readAll_61 : decode cX6_readAll 61 = .ok (.getfield 15, 3) := by decide +kernel
theorem dX6_readAll_64 : decode cX6_readAll 64 = .ok (.aload_n 0, 1) := by decide +kernel
theorem dX6_readAll_65 : decode cX6_readAll 65 = .ok (.getfield 9, 3) := by decide +kernel
theorem dX6_readAll_68 : decode cX6_readAll 68 = .ok (.if_icmp .ge 16, 3) := by decide +kernel
theorem dX6_readAll_71 : decode cX6_readAll 71 = .ok (.aload_n 0, 1) := by decide +kernel
theorem dX6_readAll_72 : decode cX6_readAll 72 = .ok (.bipush 59, 2) := by decide +kernel
theorem dX6_readAll_74 : decode cX6_readAll 74 = .ok (.invokevirtual 35, 3) := by decide +kernel
theorem dX6_readAll_77 : decode cX6_readAll 77 = .ok (.ifCond .eq 7, 3) := by decide +kernel
theorem dX6_readAll_80 : decode cX6_readAll 80 = .ok (.iconst 1, 1) := by decide +kernel
theorem dX6_readAll_81 : decode cX6_readAll 81 = .ok (.goto 4, 3) := by decide +kernel
theorem dX6_readAll_84 : decode cX6_readAll 84 = .ok (.iconst 0, 1) := by decide +kernel
theorem dX6_readAll_85 : decode cX6_readAll 85 = .ok (.istore 5, 2) := by decide +kernel
theorem dX6_readAll_87 : decode cX6_readAll 87 = .ok (.goto (-56), 3) := by decide +kernel
theorem dX6_readAll_90 : decode cX6_readAll 90 = .ok (.iload 4, 2) := by decide +kernel
theorem dX6_readAll_92 : decode cX6_readAll 92 = .ok (.ireturn, 1) := by decide +kernel
theorem dX6_readItem_0 : decode cX6_readItem 0 = .ok (.aload_n 0, 1) := by decide +kernel
theorem dX6_readItem_1 : decode cX6_readItem 1 = .ok (.getfield 15, 3) := by decide +kernel
theorem dX6_readItem_4 : decode cX6_readItem 4 = .ok (.istore_n 1, 1) := by decide +kernel
theorem dX6_readItem_5 : decode cX6_readItem 5 = .ok (.aload_n 0, 1) := by decide +kernel
theorem dX6_readItem_6 : decode cX6_readItem 6 = .ok (.invokevirtual 39, 3) := by decide +kernel
theorem dX6_readItem_9 : decode cX6_readItem 9 = .ok (.tableswitch 121 0 5 #[39, 47, 54, 70, 86, 114], 39) := by decide +kernel
theorem dX6_readItem_48 : decode cX6_readItem 48 = .ok (.aload_n 0, 1) := by decide +kernel
theorem dX6_readItem_49 : decode cX6_readItem 49 = .ok (.iload_n 1, 1) := by decide +kernel
theorem dX6_readItem_50 : decode cX6_readItem 50 = .ok (.invokevirtual 43, 3) := by decide +kernel
theorem dX6_readItem_53 : decode cX6_readItem 53 = .ok (.goto 77, 3) := by decide +kernel
theorem dX6_readItem_56 : decode cX6_readItem 56 = .ok (.aload_n 0, 1) := by decide +kernel
theorem dX6_readItem_57 : decode cX6_readItem 57 = .ok (.invokevirtual 47, 3) := by decide +kernel
theorem dX6_readItem_60 : decode cX6_readItem 60 = .ok (.goto 70, 3) := by decide +kernel
theorem dX6_readItem_63 : decode cX6_readItem 63 = .ok (.aload_n 0, 1) := by decide +kernel
theorem dX6_readItem_64 : decode cX6_readItem 64 = .ok (.aload_n 0, 1) := by decide +kernel
theorem dX6_readItem_65 : decode cX6_readItem 65 = .ok (.getfield 24, 3) := by decide +kernel
theorem dX6_readItem_68 : decode cX6_readItem 68 = .ok (.getfield 50, 3) := by decide +kernel
theorem dX6_readItem_71 : decode cX6_readItem 71 = .ok (.bipush 9, 2) := by decide +kernel
theorem dX6_readItem_73 : decode cX6_readItem 73 = .ok (.invokevirtual 56, 3) := by decide +kernel
theorem dX6_readItem_76 : decode cX6_readItem 76 = .ok (.goto 54, 3) := by decide +kernel
theorem dX6_readItem_79 : decode cX6_readItem 79 = .ok (.aload_n 0, 1) := by decide +kernel
theorem dX6_readItem_80 : decode cX6_readItem 80 = .ok (.aload_n 0, 1) := by decide +kernel
theorem dX6_readItem_81 : decode cX6_readItem 81 = .ok (.getfield 24, 3) := by decide +kernel
theorem dX6_readItem_84 : decode cX6_readItem 84 = .ok (.getfield 60, 3) := by decide +kernel
theorem dX6_readItem_87 : decode cX6_readItem 87 = .ok (.bipush 99, 2) := by decide +kernel
theorem dX6_readItem_89 : decode cX6_readItem 89 = .ok (.invokevirtual 56, 3) := by decide +kernel
theorem dX6_readItem_92 : decode cX6_readItem 92 = .ok (.goto 38, 3) := by decide +kernel
theorem dX6_readItem_95 : decode cX6_readItem 95 = .ok (.aload_n 0, 1) := by decide +kernel
theorem dX6_readItem_96 : decode cX6_readItem 96 = .ok (.iconst 0, 1) := by decide +kernel
theorem dX6_readItem_97 : decode cX6_readItem 97 = .ok (.bipush 99, 2) := by decide +kernel
theorem dX6_readItem_99 : decode cX6_readItem 99 = .ok (.invokevirtual 63, 3) := by decide +kernel
theorem dX6_readItem_102 : decode cX6_readItem 102 = .ok (.istore_n 2, 1) := by decide +kernel
theorem dX6_readItem_103 : decode cX6_readItem 103 = .ok (.aload_n 0, 1) := by decide +kernel
theorem dX6_readItem_104 : decode cX6_readItem 104 = .ok (.getfield 21, 3) := by decide +kernel
theorem dX6_readItem_107 : decode cX6_readItem 107 = .ok (.iconst (-1), 1) := by decide +kernel
theorem dX6_readItem_108 : decode cX6_readItem 108 = .ok (.if_icmp .ne 22, 3) := by decide +kernel
theorem dX6_readItem_111 : decode cX6_readItem 111 = .ok (.aload_n 0, 1) := by decide +kernel
theorem dX6_readItem_112 : decode cX6_readItem 112 = .ok (.getfield 24, 3) := by decide +kernel
theorem dX6_readItem_115 : decode cX6_readItem 115 = .ok (.iload_n 2, 1) := by decide +kernel
theorem dX6_readItem_116 : decode cX6_readItem 116 = .ok (.invokevirtual 67, 3) := by decide +kernel
theorem dX6_readItem_119 : decode cX6_readItem 119 = .ok (.pop, 1) := by decide +kernel
theorem dX6_readItem_120 : decode cX6_readItem 120 = .ok (.goto 10, 3) := by decide +kernel
theorem dX6_readItem_123 : decode cX6_readItem 123 = .ok (.aload_n 0, 1) := by decide +kernel
theorem dX6_readItem_124 : decode cX6_readItem 124 = .ok (.invokevirtual 71, 3) := by decide +kernel
theorem dX6_readItem_127 : decode cX6_readItem 127 = .ok (.goto 3, 3) := by decide +kernel
theorem dX6_readItem_130 : decode cX6_readItem 130 = .ok (.return_, 1) := by decide +kernel
theorem dX6_word_0 : decode cX6_word 0 = .ok (.iload_n 0, 1) := by decide +kernel
theorem dX6_word_1 : decode cX6_word 1 = .ok (.tableswitch 50 0 4 #[35, 38, 41, 44, 47], 35) := by decide +kernel
theorem dX6_word_36 : decode cX6_word 36 = .ok (.ldc 74, 2) := by decide +kernel
theorem dX6_word_38 : decode cX6_word 38 = .ok (.areturn, 1) := by decide +kernel
theorem dX6_word_39 : decode cX6_word 39 = .ok (.ldc 76, 2) := by decide +kernel
theorem dX6_word_41 : decode cX6_word 41 = .ok (.areturn, 1) := by decide +kernel
theorem dX6_word_42 : decode cX6_word 42 = .ok (.ldc 78, 2) := by decide +kernel
theorem dX6_word_44 : decode cX6_word 44 = .ok (.areturn, 1) := by decide +kernel
theorem dX6_word_45 : decode cX6_word 45 = .ok (.ldc 79, 2) := by decide +kernel
theorem dX6_word_47 : decode cX6_word 47 = .ok (.areturn, 1) := by decide +kernel
theorem dX6_word_48 : decode cX6_word 48 = .ok (.ldc 80, 2) := by decide +kernel
theorem dX6_word_50 : decode cX6_word 50 = .ok (.areturn, 1) := by decide +kernel
theorem dX6_word_51 : decode cX6_word 51 = .ok (.ldc 82, 2) := by decide +kernel
theorem dX6_word_53 : decode cX6_word 53 = .ok (.areturn, 1) := by decide +kernel
theorem dX6_readWord_0 : decode cX6_readWord 0 = .ok (.iconst 0, 1) := by decide +kernel
theorem dX6_readWord_1 : decode cX6_readWord 1 = .ok (.istore_n 1, 1) := by decide +kernel
theorem dX6_readWord_2 : decode cX6_readWord 2 = .ok (.iconst 0, 1) := by decide +kernel
theorem dX6_readWord_3 : decode cX6_readWord 3 = .ok (.istore_n 2, 1) := by decide +kernel
theorem dX6_readWord_4 : decode cX6_readWord 4 = .ok (.iload_n 2, 1) := by decide +kernel
theorem dX6_readWord_5 : decode cX6_readWord 5 = .ok (.bipush 6, 2) := by decide +kernel
theorem dX6_readWord_7 : decode cX6_readWord 7 = .ok (.if_icmp .ge 47, 3) := by decide +kernel
theorem dX6_readWord_10 : decode cX6_readWord 10 = .ok (.aload_n 0, 1) := by decide +kernel
theorem dX6_readWord_11 : decode cX6_readWord 11 = .ok (.iload_n 2, 1) := by decide +kernel
theorem dX6_readWord_12 : decode cX6_readWord 12 = .ok (.invokestatic 84, 3) := by decide +kernel
theorem dX6_readWord_15 : decode cX6_readWord 15 = .ok (.invokevirtual 88, 3) := by decide +kernel
theorem dX6_readWord_18 : decode cX6_readWord 18 = .ok (.istore_n 3, 1) := by decide +kernel
theorem dX6_readWord_19 : decode cX6_readWord 19 = .ok (.iload_n 3, 1) := by decide +kernel
theorem dX6_readWord_20 : decode cX6_readWord 20 = .ok (.iload_n 2, 1) := by decide +kernel
theorem dX6_readWord_21 : decode cX6_readWord 21 = .ok (.invokestatic 84, 3) := by decide +kernel
theorem dX6_readWord_24 : decode cX6_readWord 24 = .ok (.invokevirtual 92, 3) := by decide +kernel
theorem dX6_readWord_27 : decode cX6_readWord 27 = .ok (.if_icmp .ne 15, 3) := by decide +kernel
theorem dX6_readWord_30 : decode cX6_readWord 30 = .ok (.aload_n 0, 1) := by decide +kernel
theorem dX6_readWord_31 : decode cX6_readWord 31 = .ok (.dup, 1) := by decide +kernel
theorem dX6_readWord_32 : decode cX6_readWord 32 = .ok (.getfield 15, 3) := by decide +kernel
theorem dX6_readWord_35 : decode cX6_readWord 35 = .ok (.iload_n 3, 1) := by decide +kernel
theorem dX6_readWord_36 : decode cX6_readWord 36 = .ok (.iadd, 1) := by decide +kernel
theorem dX6_readWord_37 : decode cX6_readWord 37 = .ok (.putfield 15, 3) := by decide +kernel
theorem dX6_readWord_40 : decode cX6_readWord 40 = .ok (.iload_n 2, 1) := by decide +kernel
theorem dX6_readWord_41 : decode cX6_readWord 41 = .ok (.ireturn, 1) := by decide +kernel
theorem dX6_readWord_42 : decode cX6_readWord 42 = .ok (.iload_n 1, 1) := by decide +kernel
theorem dX6_readWord_43 : decode cX6_readWord 43 = .ok (.iload_n 3, 1) := by decide +kernel
theorem dX6_readWord_44 : decode cX6_readWord 44 = .ok (.invokestatic 97, 3) := by decide +kernel
theorem dX6_readWord_47 : decode cX6_readWord 47 = .ok (.istore_n 1, 1) := by decide +kernel
theorem dX6_readWord_48 : decode cX6_readWord 48 = .ok (.iinc 2 1, 3) := by decide +kernel
theorem dX6_readWord_51 : decode cX6_readWord 51 = .ok (.goto (-47), 3) := by decide +kernel
theorem dX6_readWord_54 : decode cX6_readWord 54 = .ok (.aload_n 0, 1) := by decide +kernel
theorem dX6_readWord_55 : decode cX6_readWord 55 = .ok (.aload_n 0, 1) := by decide +kernel
theorem dX6_readWord_56 : decode cX6_readWord 56 = .ok (.getfield 15, 3) := by decide +kernel
theorem dX6_readWord_59 : decode cX6_readWord 59 = .ok (.iload_n 1, 1) := by decide +kernel
theorem dX6_readWord_60 : decode cX6_readWord 60 = .ok (.iadd, 1) := by decide +kernel
theorem dX6_readWord_61 : decode cX6_readWord 61 = .ok (.putfield 21, 3) := by decide +kernel
theorem dX6_readWord_64 : decode cX6_readWord 64 = .ok (.iconst (-1), 1) := by decide +kernel
theorem dX6_readWord_65 : decode cX6_readWord 65 = .ok (.ireturn, 1) := by decide +kernel
theorem dX6_sameLetters_0 : decode cX6_sameLetters 0 = .ok (.iconst 0, 1) := by decide +kernel
theorem dX6_sameLetters_1 : decode cX6_sameLetters 1 = .ok (.istore_n 2, 1) := by decide +kernel
theorem dX6_sameLetters_2 : decode cX6_sameLetters 2 = .ok (.iload_n 2, 1) := by decide +kernel
theorem dX6_sameLetters_3 : decode cX6_sameLetters 3 = .ok (.aload_n 1, 1) := by decide +kernel
theorem dX6_sameLetters_4 : decode cX6_sameLetters 4 = .ok (.invokevirtual 92, 3) := by decide +kernel
theorem dX6_sameLetters_7 : decode cX6_sameLetters 7 = .ok (.if_icmp .ge 29, 3) := by decide +kernel
theorem dX6_sameLetters_10 : decode cX6_sameLetters 10 = .ok (.aload_n 0, 1) := by decide +kernel
theorem dX6_sameLetters_11 : decode cX6_sameLetters 11 = .ok (.aload_n 0, 1) := by decide +kernel
theorem dX6_sameLetters_12 : decode cX6_sameLetters 12 = .ok (.getfield 15, 3) := by decide +kernel
theorem dX6_sameLetters_15 : decode cX6_sameLetters 15 = .ok (.iload_n 2, 1) := by decide +kernel
theorem dX6_sameLetters_16 : decode cX6_sameLetters 16 = .ok (.iadd, 1) := by decide +kernel
theorem dX6_sameLetters_17 : decode cX6_sameLetters 17 = .ok (.invokevirtual 102, 3) := by decide +kernel
theorem dX6_sameLetters_20 : decode cX6_sameLetters 20 = .ok (.aload_n 1, 1) := by decide +kernel
theorem dX6_sameLetters_21 : decode cX6_sameLetters 21 = .ok (.iload_n 2, 1) := by decide +kernel
theorem dX6_sameLetters_22 : decode cX6_sameLetters 22 = .ok (.invokevirtual 105, 3) := by decide +kernel
theorem dX6_sameLetters_25 : decode cX6_sameLetters 25 = .ok (.if_icmp .eq 5, 3) := by decide +kernel
theorem dX6_sameLetters_28 : decode cX6_sameLetters 28 = .ok (.iload_n 2, 1) := by decide +kernel
theorem dX6_sameLetters_29 : decode cX6_sameLetters 29 = .ok (.ireturn, 1) := by decide +kernel
theorem dX6_sameLetters_30 : decode cX6_sameLetters 30 = .ok (.iinc 2 1, 3) := by decide +kernel
theorem dX6_sameLetters_33 : decode cX6_sameLetters 33 = .ok (.goto (-31), 3) := by decide +kernel
theorem dX6_sameLetters_36 : decode cX6_sameLetters 36 = .ok (.aload_n 1, 1) := by decide +kernel
theorem dX6_sameLetters_37 : decode cX6_sameLetters 37 = .ok (.invokevirtual 92, 3) := by decide +kernel
theorem dX6_sameLetters_40 : decode cX6_sameLetters 40 = .ok (.ireturn, 1) := by decide +kernel
theorem dX6_readHouse_0 : decode cX6_readHouse 0 = .ok (.aload_n 0, 1) := by decide +kernel
theorem dX6_readHouse_1 : decode cX6_readHouse 1 = .ok (.getfield 24, 3) := by decide +kernel
theorem dX6_readHouse_4 : decode cX6_readHouse 4 = .ok (.getfield 109, 3) := by decide +kernel
theorem dX6_readHouse_7 : decode cX6_readHouse 7 = .ok (.bipush 6, 2) := by decide +kernel
theorem dX6_readHouse_9 : decode cX6_readHouse 9 = .ok (.if_icmp .lt 8, 3) := by decide +kernel
theorem dX6_readHouse_12 : decode cX6_readHouse 12 = .ok (.aload_n 0, 1) := by decide +kernel
theorem dX6_readHouse_13 : decode cX6_readHouse 13 = .ok (.iload_n 1, 1) := by decide +kernel
theorem dX6_readHouse_14 : decode cX6_readHouse 14 = .ok (.putfield 21, 3) := by decide +kernel
theorem dX6_readHouse_17 : decode cX6_readHouse 17 = .ok (.aload_n 0, 1) := by decide +kernel
theorem dX6_readHouse_18 : decode cX6_readHouse 18 = .ok (.iconst 0, 1) := by decide +kernel
theorem dX6_readHouse_19 : decode cX6_readHouse 19 = .ok (.bipush 6, 2) := by decide +kernel
theorem dX6_readHouse_21 : decode cX6_readHouse 21 = .ok (.invokevirtual 63, 3) := by decide +kernel
theorem dX6_readHouse_24 : decode cX6_readHouse 24 = .ok (.istore_n 2, 1) := by decide +kernel
theorem dX6_readHouse_25 : decode cX6_readHouse 25 = .ok (.aload_n 0, 1) := by decide +kernel
theorem dX6_readHouse_26 : decode cX6_readHouse 26 = .ok (.iconst 0, 1) := by decide +kernel
theorem dX6_readHouse_27 : decode cX6_readHouse 27 = .ok (.bipush 9, 2) := by decide +kernel
theorem dX6_readHouse_29 : decode cX6_readHouse 29 = .ok (.invokevirtual 63, 3) := by decide +kernel
theorem dX6_readHouse_32 : decode cX6_readHouse 32 = .ok (.istore_n 3, 1) := by decide +kernel
theorem dX6_readHouse_33 : decode cX6_readHouse 33 = .ok (.aload_n 0, 1) := by decide +kernel
theorem dX6_readHouse_34 : decode cX6_readHouse 34 = .ok (.getfield 21, 3) := by decide +kernel
theorem dX6_readHouse_37 : decode cX6_readHouse 37 = .ok (.iconst (-1), 1) := by decide +kernel
theorem dX6_readHouse_38 : decode cX6_readHouse 38 = .ok (.if_icmp .ne 13, 3) := by decide +kernel
theorem dX6_readHouse_41 : decode cX6_readHouse 41 = .ok (.aload_n 0, 1) := by decide +kernel
theorem dX6_readHouse_42 : decode cX6_readHouse 42 = .ok (.getfield 24, 3) := by decide +kernel
theorem dX6_readHouse_45 : decode cX6_readHouse 45 = .ok (.iload_n 2, 1) := by decide +kernel
theorem dX6_readHouse_46 : decode cX6_readHouse 46 = .ok (.iload_n 3, 1) := by decide +kernel
theorem dX6_readHouse_47 : decode cX6_readHouse 47 = .ok (.invokevirtual 112, 3) := by decide +kernel
theorem dX6_readHouse_50 : decode cX6_readHouse 50 = .ok (.pop, 1) := by decide +kernel
theorem dX6_readHouse_51 : decode cX6_readHouse 51 = .ok (.return_, 1) := by decide +kernel
theorem dX6_readCoat_0 : decode cX6_readCoat 0 = .ok (.aload_n 0, 1) := by decide +kernel
theorem dX6_readCoat_1 : decode cX6_readCoat 1 = .ok (.iconst 0, 1) := by decide +kernel
theorem dX6_readCoat_2 : decode cX6_readCoat 2 = .ok (.aload_n 0, 1) := by decide +kernel
theorem dX6_readCoat_3 : decode cX6_readCoat 3 = .ok (.getfield 24, 3) := by decide +kernel
theorem dX6_readCoat_6 : decode cX6_readCoat 6 = .ok (.getfield 109, 3) := by decide +kernel
theorem dX6_readCoat_9 : decode cX6_readCoat 9 = .ok (.iconst 1, 1) := by decide +kernel
theorem dX6_readCoat_10 : decode cX6_readCoat 10 = .ok (.isub, 1) := by decide +kernel
theorem dX6_readCoat_11 : decode cX6_readCoat 11 = .ok (.invokevirtual 63, 3) := by decide +kernel
theorem dX6_readCoat_14 : decode cX6_readCoat 14 = .ok (.istore_n 1, 1) := by decide +kernel
theorem dX6_readCoat_15 : decode cX6_readCoat 15 = .ok (.aload_n 0, 1) := by decide +kernel
theorem dX6_readCoat_16 : decode cX6_readCoat 16 = .ok (.getfield 21, 3) := by decide +kernel
theorem dX6_readCoat_19 : decode cX6_readCoat 19 = .ok (.iconst (-1), 1) := by decide +kernel
theorem dX6_readCoat_20 : decode cX6_readCoat 20 = .ok (.if_icmp .ne 28, 3) := by decide +kernel
theorem dX6_readCoat_23 : decode cX6_readCoat 23 = .ok (.aload_n 0, 1) := by decide +kernel
theorem dX6_readCoat_24 : decode cX6_readCoat 24 = .ok (.getfield 24, 3) := by decide +kernel
theorem dX6_readCoat_27 : decode cX6_readCoat 27 = .ok (.getfield 115, 3) := by decide +kernel
theorem dX6_readCoat_30 : decode cX6_readCoat 30 = .ok (.iload_n 1, 1) := by decide +kernel
theorem dX6_readCoat_31 : decode cX6_readCoat 31 = .ok (.aaload, 1) := by decide +kernel
theorem dX6_readCoat_32 : decode cX6_readCoat 32 = .ok (.getfield 119, 3) := by decide +kernel
theorem dX6_readCoat_35 : decode cX6_readCoat 35 = .ok (.bipush 8, 2) := by decide +kernel
theorem dX6_readCoat_37 : decode cX6_readCoat 37 = .ok (.if_icmp .lt 11, 3) := by decide +kernel
theorem dX6_readCoat_40 : decode cX6_readCoat 40 = .ok (.aload_n 0, 1) := by decide +kernel
theorem dX6_readCoat_41 : decode cX6_readCoat 41 = .ok (.aload_n 0, 1) := by decide +kernel
theorem dX6_readCoat_42 : decode cX6_readCoat 42 = .ok (.getfield 18, 3) := by decide +kernel
theorem dX6_readCoat_45 : decode cX6_readCoat 45 = .ok (.putfield 21, 3) := by decide +kernel
theorem dX6_readCoat_48 : decode cX6_readCoat 48 = .ok (.aload_n 0, 1) := by decide +kernel
theorem dX6_readCoat_49 : decode cX6_readCoat 49 = .ok (.iconst 0, 1) := by decide +kernel
theorem dX6_readCoat_50 : decode cX6_readCoat 50 = .ok (.bipush 7, 2) := by decide +kernel
theorem dX6_readCoat_52 : decode cX6_readCoat 52 = .ok (.invokevirtual 63, 3) := by decide +kernel
theorem dX6_readCoat_55 : decode cX6_readCoat 55 = .ok (.istore_n 2, 1) := by decide +kernel
theorem dX6_readCoat_56 : decode cX6_readCoat 56 = .ok (.aload_n 0, 1) := by decide +kernel
theorem dX6_readCoat_57 : decode cX6_readCoat 57 = .ok (.iconst 0, 1) := by decide +kernel
theorem dX6_readCoat_58 : decode cX6_readCoat 58 = .ok (.iconst 5, 1) := by decide +kernel
theorem dX6_readCoat_59 : decode cX6_readCoat 59 = .ok (.invokevirtual 63, 3) := by decide +kernel
theorem dX6_readCoat_62 : decode cX6_readCoat 62 = .ok (.istore_n 3, 1) := by decide +kernel
theorem dX6_readCoat_63 : decode cX6_readCoat 63 = .ok (.aload_n 0, 1) := by decide +kernel
theorem dX6_readCoat_64 : decode cX6_readCoat 64 = .ok (.iconst 1, 1) := by decide +kernel
theorem dX6_readCoat_65 : decode cX6_readCoat 65 = .ok (.bipush 9, 2) := by decide +kernel
theorem dX6_readCoat_67 : decode cX6_readCoat 67 = .ok (.invokevirtual 63, 3) := by decide +kernel
theorem dX6_readCoat_70 : decode cX6_readCoat 70 = .ok (.istore 4, 2) := by decide +kernel
theorem dX6_readCoat_72 : decode cX6_readCoat 72 = .ok (.aload_n 0, 1) := by decide +kernel
theorem dX6_readCoat_73 : decode cX6_readCoat 73 = .ok (.iconst 0, 1) := by decide +kernel
theorem dX6_readCoat_74 : decode cX6_readCoat 74 = .ok (.bipush 11, 2) := by decide +kernel
theorem dX6_readCoat_76 : decode cX6_readCoat 76 = .ok (.invokevirtual 63, 3) := by decide +kernel
theorem dX6_readCoat_79 : decode cX6_readCoat 79 = .ok (.istore 5, 2) := by decide +kernel
theorem dX6_readCoat_81 : decode cX6_readCoat 81 = .ok (.aload_n 0, 1) := by decide +kernel
theorem dX6_readCoat_82 : decode cX6_readCoat 82 = .ok (.getfield 21, 3) := by decide +kernel
theorem dX6_readCoat_85 : decode cX6_readCoat 85 = .ok (.iconst (-1), 1) := by decide +kernel
theorem dX6_readCoat_86 : decode cX6_readCoat 86 = .ok (.if_icmp .ne 29, 3) := by decide +kernel
theorem dX6_readCoat_89 : decode cX6_readCoat 89 = .ok (.aload_n 0, 1) := by decide +kernel
theorem dX6_readCoat_90 : decode cX6_readCoat 90 = .ok (.getfield 24, 3) := by decide +kernel
theorem dX6_readCoat_93 : decode cX6_readCoat 93 = .ok (.getfield 115, 3) := by decide +kernel
theorem dX6_readCoat_96 : decode cX6_readCoat 96 = .ok (.iload_n 1, 1) := by decide +kernel
theorem dX6_readCoat_97 : decode cX6_readCoat 97 = .ok (.aaload, 1) := by decide +kernel
theorem dX6_readCoat_98 : decode cX6_readCoat 98 = .ok (.iload_n 2, 1) := by decide +kernel
theorem dX6_readCoat_99 : decode cX6_readCoat 99 = .ok (.iload_n 3, 1) := by decide +kernel
theorem dX6_readCoat_100 : decode cX6_readCoat 100 = .ok (.iload 4, 2) := by decide +kernel
theorem dX6_readCoat_102 : decode cX6_readCoat 102 = .ok (.iload 5, 2) := by decide +kernel
theorem dX6_readCoat_104 : decode cX6_readCoat 104 = .ok (.aload_n 0, 1) := by decide +kernel
theorem dX6_readCoat_105 : decode cX6_readCoat 105 = .ok (.getfield 24, 3) := by decide +kernel
theorem dX6_readCoat_108 : decode cX6_readCoat 108 = .ok (.getfield 124, 3) := by decide +kernel
theorem dX6_readCoat_111 : decode cX6_readCoat 111 = .ok (.invokevirtual 127, 3) := by decide +kernel
theorem dX6_readCoat_114 : decode cX6_readCoat 114 = .ok (.pop, 1) := by decide +kernel
theorem dX6_readCoat_115 : decode cX6_readCoat 115 = .ok (.return_, 1) := by decide +kernel
theorem dX6_readColour_0 : decode cX6_readColour 0 = .ok (.aload_n 0, 1) := by decide +kernel
theorem dX6_readColour_1 : decode cX6_readColour 1 = .ok (.iconst 0, 1) := by decide +kernel
theorem dX6_readColour_2 : decode cX6_readColour 2 = .ok (.iconst 5, 1) := by decide +kernel
theorem dX6_readColour_3 : decode cX6_readColour 3 = .ok (.invokevirtual 63, 3) := by decide +kernel
theorem dX6_readColour_6 : decode cX6_readColour 6 = .ok (.istore_n 3, 1) := by decide +kernel
theorem dX6_readColour_7 : decode cX6_readColour 7 = .ok (.aload_n 0, 1) := by decide +kernel
theorem dX6_readColour_8 : decode cX6_readColour 8 = .ok (.iconst 0, 1) := by decide +kernel
theorem dX6_readColour_9 : decode cX6_readColour 9 = .ok (.iload_n 2, 1) := by decide +kernel
theorem dX6_readColour_10 : decode cX6_readColour 10 = .ok (.invokevirtual 63, 3) := by decide +kernel
theorem dX6_readColour_13 : decode cX6_readColour 13 = .ok (.istore 4, 2) := by decide +kernel
theorem dX6_readColour_15 : decode cX6_readColour 15 = .ok (.aload_n 0, 1) := by decide +kernel
theorem dX6_readColour_16 : decode cX6_readColour 16 = .ok (.getfield 21, 3) := by decide +kernel
theorem dX6_readColour_19 : decode cX6_readColour 19 = .ok (.iconst (-1), 1) := by decide +kernel
theorem dX6_readColour_20 : decode cX6_readColour 20 = .ok (.if_icmp .ne 8, 3) := by decide +kernel
theorem dX6_readColour_23 : decode cX6_readColour 23 = .ok (.aload_n 1, 1) := by decide +kernel
theorem dX6_readColour_24 : decode cX6_readColour 24 = .ok (.iload_n 3, 1) := by decide +kernel
theorem dX6_readColour_25 : decode cX6_readColour 25 = .ok (.iload 4, 2) := by decide +kernel
theorem dX6_readColour_27 : decode cX6_readColour 27 = .ok (.iastore, 1) := by decide +kernel
theorem dX6_readColour_28 : decode cX6_readColour 28 = .ok (.return_, 1) := by decide +kernel
theorem dX6_readScratch_0 : decode cX6_readScratch 0 = .ok (.aload_n 0, 1) := by decide +kernel
theorem dX6_readScratch_1 : decode cX6_readScratch 1 = .ok (.iconst 0, 1) := by decide +kernel
theorem dX6_readScratch_2 : decode cX6_readScratch 2 = .ok (.aload_n 0, 1) := by decide +kernel
theorem dX6_readScratch_3 : decode cX6_readScratch 3 = .ok (.getfield 24, 3) := by decide +kernel
theorem dX6_readScratch_6 : decode cX6_readScratch 6 = .ok (.getfield 109, 3) := by decide +kernel
theorem dX6_readScratch_9 : decode cX6_readScratch 9 = .ok (.iconst 1, 1) := by decide +kernel
theorem dX6_readScratch_10 : decode cX6_readScratch 10 = .ok (.isub, 1) := by decide +kernel
theorem dX6_readScratch_11 : decode cX6_readScratch 11 = .ok (.invokevirtual 63, 3) := by decide +kernel
theorem dX6_readScratch_14 : decode cX6_readScratch 14 = .ok (.istore_n 1, 1) := by decide +kernel
theorem dX6_readScratch_15 : decode cX6_readScratch 15 = .ok (.aload_n 0, 1) := by decide +kernel
theorem dX6_readScratch_16 : decode cX6_readScratch 16 = .ok (.iconst 0, 1) := by decide +kernel
theorem dX6_readScratch_17 : decode cX6_readScratch 17 = .ok (.bipush 11, 2) := by decide +kernel
theorem dX6_readScratch_19 : decode cX6_readScratch 19 = .ok (.invokevirtual 63, 3) := by decide +kernel
theorem dX6_readScratch_22 : decode cX6_readScratch 22 = .ok (.istore_n 2, 1) := by decide +kernel
theorem dX6_readScratch_23 : decode cX6_readScratch 23 = .ok (.aload_n 0, 1) := by decide +kernel
theorem dX6_readScratch_24 : decode cX6_readScratch 24 = .ok (.getfield 21, 3) := by decide +kernel
theorem dX6_readScratch_27 : decode cX6_readScratch 27 = .ok (.iconst (-1), 1) := by decide +kernel
theorem dX6_readScratch_28 : decode cX6_readScratch 28 = .ok (.if_icmp .ne 28, 3) := by decide +kernel
theorem dX6_readScratch_31 : decode cX6_readScratch 31 = .ok (.aload_n 0, 1) := by decide +kernel
theorem dX6_readScratch_32 : decode cX6_readScratch 32 = .ok (.getfield 24, 3) := by decide +kernel
theorem dX6_readScratch_35 : decode cX6_readScratch 35 = .ok (.getfield 115, 3) := by decide +kernel
theorem dX6_readScratch_38 : decode cX6_readScratch 38 = .ok (.iload_n 1, 1) := by decide +kernel
theorem dX6_readScratch_39 : decode cX6_readScratch 39 = .ok (.aaload, 1) := by decide +kernel
theorem dX6_readScratch_40 : decode cX6_readScratch 40 = .ok (.iload_n 2, 1) := by decide +kernel
theorem dX6_readScratch_41 : decode cX6_readScratch 41 = .ok (.invokevirtual 131, 3) := by decide +kernel
theorem dX6_readScratch_44 : decode cX6_readScratch 44 = .ok (.iconst (-1), 1) := by decide +kernel
theorem dX6_readScratch_45 : decode cX6_readScratch 45 = .ok (.if_icmp .ne 11, 3) := by decide +kernel
theorem dX6_readScratch_48 : decode cX6_readScratch 48 = .ok (.aload_n 0, 1) := by decide +kernel
theorem dX6_readScratch_49 : decode cX6_readScratch 49 = .ok (.aload_n 0, 1) := by decide +kernel
theorem dX6_readScratch_50 : decode cX6_readScratch 50 = .ok (.getfield 18, 3) := by decide +kernel
theorem dX6_readScratch_53 : decode cX6_readScratch 53 = .ok (.putfield 21, 3) := by decide +kernel
theorem dX6_readScratch_56 : decode cX6_readScratch 56 = .ok (.return_, 1) := by decide +kernel
theorem dX6_readNumber_0 : decode cX6_readNumber 0 = .ok (.aload_n 0, 1) := by decide +kernel
theorem dX6_readNumber_1 : decode cX6_readNumber 1 = .ok (.bipush 32, 2) := by decide +kernel
theorem dX6_readNumber_3 : decode cX6_readNumber 3 = .ok (.invokevirtual 35, 3) := by decide +kernel
theorem dX6_readNumber_6 : decode cX6_readNumber 6 = .ok (.ifCond .ne 5, 3) := by decide +kernel
theorem dX6_readNumber_9 : decode cX6_readNumber 9 = .ok (.iconst (-1), 1) := by decide +kernel
theorem dX6_readNumber_10 : decode cX6_readNumber 10 = .ok (.ireturn, 1) := by decide +kernel
theorem dX6_readNumber_11 : decode cX6_readNumber 11 = .ok (.aload_n 0, 1) := by decide +kernel
theorem dX6_readNumber_12 : decode cX6_readNumber 12 = .ok (.aload_n 0, 1) := by decide +kernel
theorem dX6_readNumber_13 : decode cX6_readNumber 13 = .ok (.getfield 15, 3) := by decide +kernel
theorem dX6_readNumber_16 : decode cX6_readNumber 16 = .ok (.putfield 18, 3) := by decide +kernel
theorem dX6_readNumber_19 : decode cX6_readNumber 19 = .ok (.aload_n 0, 1) := by decide +kernel
theorem dX6_readNumber_20 : decode cX6_readNumber 20 = .ok (.aload_n 0, 1) := by decide +kernel
theorem dX6_readNumber_21 : decode cX6_readNumber 21 = .ok (.getfield 15, 3) := by decide +kernel
theorem dX6_readNumber_24 : decode cX6_readNumber 24 = .ok (.invokevirtual 134, 3) := by decide +kernel
theorem dX6_readNumber_27 : decode cX6_readNumber 27 = .ok (.ifCond .ne 13, 3) := by decide +kernel
theorem dX6_readNumber_30 : decode cX6_readNumber 30 = .ok (.aload_n 0, 1) := by decide +kernel
theorem dX6_readNumber_31 : decode cX6_readNumber 31 = .ok (.aload_n 0, 1) := by decide +kernel
theorem dX6_readNumber_32 : decode cX6_readNumber 32 = .ok (.getfield 15, 3) := by decide +kernel
theorem dX6_readNumber_35 : decode cX6_readNumber 35 = .ok (.putfield 21, 3) := by decide +kernel
theorem dX6_readNumber_38 : decode cX6_readNumber 38 = .ok (.iconst (-1), 1) := by decide +kernel
theorem dX6_readNumber_39 : decode cX6_readNumber 39 = .ok (.ireturn, 1) := by decide +kernel
theorem dX6_readNumber_40 : decode cX6_readNumber 40 = .ok (.aload_n 0, 1) := by decide +kernel
theorem dX6_readNumber_41 : decode cX6_readNumber 41 = .ok (.aload_n 0, 1) := by decide +kernel
theorem dX6_readNumber_42 : decode cX6_readNumber 42 = .ok (.getfield 15, 3) := by decide +kernel
theorem dX6_readNumber_45 : decode cX6_readNumber 45 = .ok (.invokevirtual 102, 3) := by decide +kernel
theorem dX6_readNumber_48 : decode cX6_readNumber 48 = .ok (.bipush 48, 2) := by decide +kernel
theorem dX6_readNumber_50 : decode cX6_readNumber 50 = .ok (.isub, 1) := by decide +kernel
theorem dX6_readNumber_51 : decode cX6_readNumber 51 = .ok (.istore_n 3, 1) := by decide +kernel
theorem dX6_readNumber_52 : decode cX6_readNumber 52 = .ok (.aload_n 0, 1) := by decide +kernel
theorem dX6_readNumber_53 : decode cX6_readNumber 53 = .ok (.dup, 1) := by decide +kernel
theorem dX6_readNumber_54 : decode cX6_readNumber 54 = .ok (.getfield 15, 3) := by decide +kernel
theorem dX6_readNumber_57 : decode cX6_readNumber 57 = .ok (.iconst 1, 1) := by decide +kernel
theorem dX6_readNumber_58 : decode cX6_readNumber 58 = .ok (.iadd, 1) := by decide +kernel
theorem dX6_readNumber_59 : decode cX6_readNumber 59 = .ok (.putfield 15, 3) := by decide +kernel
theorem dX6_readNumber_62 : decode cX6_readNumber 62 = .ok (.aload_n 0, 1) := by decide +kernel
theorem dX6_readNumber_63 : decode cX6_readNumber 63 = .ok (.aload_n 0, 1) := by decide +kernel
theorem dX6_readNumber_64 : decode cX6_readNumber 64 = .ok (.getfield 15, 3) := by decide +kernel
theorem dX6_readNumber_67 : decode cX6_readNumber 67 = .ok (.invokevirtual 134, 3) := by decide +kernel
theorem dX6_readNumber_70 : decode cX6_readNumber 70 = .ok (.ifCond .eq 30, 3) := by decide +kernel
theorem dX6_readNumber_73 : decode cX6_readNumber 73 = .ok (.bipush 10, 2) := by decide +kernel
theorem dX6_readNumber_75 : decode cX6_readNumber 75 = .ok (.iload_n 3, 1) := by decide +kernel
theorem dX6_readNumber_76 : decode cX6_readNumber 76 = .ok (.imul, 1) := by decide +kernel
theorem dX6_readNumber_77 : decode cX6_readNumber 77 = .ok (.aload_n 0, 1) := by decide +kernel
theorem dX6_readNumber_78 : decode cX6_readNumber 78 = .ok (.aload_n 0, 1) := by decide +kernel
theorem dX6_readNumber_79 : decode cX6_readNumber 79 = .ok (.getfield 15, 3) := by decide +kernel
theorem dX6_readNumber_82 : decode cX6_readNumber 82 = .ok (.invokevirtual 102, 3) := by decide +kernel
theorem dX6_readNumber_85 : decode cX6_readNumber 85 = .ok (.iadd, 1) := by decide +kernel
theorem dX6_readNumber_86 : decode cX6_readNumber 86 = .ok (.bipush 48, 2) := by decide +kernel
theorem dX6_readNumber_88 : decode cX6_readNumber 88 = .ok (.isub, 1) := by decide +kernel
theorem dX6_readNumber_89 : decode cX6_readNumber 89 = .ok (.istore_n 3, 1) := by decide +kernel
theorem dX6_readNumber_90 : decode cX6_readNumber 90 = .ok (.aload_n 0, 1) := by decide +kernel
theorem dX6_readNumber_91 : decode cX6_readNumber 91 = .ok (.dup, 1) := by decide +kernel
theorem dX6_readNumber_92 : decode cX6_readNumber 92 = .ok (.getfield 15, 3) := by decide +kernel
theorem dX6_readNumber_95 : decode cX6_readNumber 95 = .ok (.iconst 1, 1) := by decide +kernel
theorem dX6_readNumber_96 : decode cX6_readNumber 96 = .ok (.iadd, 1) := by decide +kernel
theorem dX6_readNumber_97 : decode cX6_readNumber 97 = .ok (.putfield 15, 3) := by decide +kernel
theorem dX6_readNumber_100 : decode cX6_readNumber 100 = .ok (.iload_n 3, 1) := by decide +kernel
theorem dX6_readNumber_101 : decode cX6_readNumber 101 = .ok (.iload_n 1, 1) := by decide +kernel
theorem dX6_readNumber_102 : decode cX6_readNumber 102 = .ok (.if_icmp .lt 8, 3) := by decide +kernel
theorem dX6_readNumber_105 : decode cX6_readNumber 105 = .ok (.iload_n 3, 1) := by decide +kernel
theorem dX6_readNumber_106 : decode cX6_readNumber 106 = .ok (.iload_n 2, 1) := by decide +kernel
theorem dX6_readNumber_107 : decode cX6_readNumber 107 = .ok (.if_icmp .le 13, 3) := by decide +kernel
theorem dX6_readNumber_110 : decode cX6_readNumber 110 = .ok (.aload_n 0, 1) := by decide +kernel
theorem dX6_readNumber_111 : decode cX6_readNumber 111 = .ok (.aload_n 0, 1) := by decide +kernel
theorem dX6_readNumber_112 : decode cX6_readNumber 112 = .ok (.getfield 18, 3) := by decide +kernel
theorem dX6_readNumber_115 : decode cX6_readNumber 115 = .ok (.putfield 21, 3) := by decide +kernel
theorem dX6_readNumber_118 : decode cX6_readNumber 118 = .ok (.iconst (-1), 1) := by decide +kernel
theorem dX6_readNumber_119 : decode cX6_readNumber 119 = .ok (.ireturn, 1) := by decide +kernel
theorem dX6_readNumber_120 : decode cX6_readNumber 120 = .ok (.iload_n 3, 1) := by decide +kernel
theorem dX6_readNumber_121 : decode cX6_readNumber 121 = .ok (.ireturn, 1) := by decide +kernel
theorem dX6_stands_0 : decode cX6_stands 0 = .ok (.aload_n 0, 1) := by decide +kernel
theorem dX6_stands_1 : decode cX6_stands 1 = .ok (.getfield 21, 3) := by decide +kernel
theorem dX6_stands_4 : decode cX6_stands 4 = .ok (.iconst (-1), 1) := by decide +kernel
theorem dX6_stands_5 : decode cX6_stands 5 = .ok (.if_icmp .eq 5, 3) := by decide +kernel
theorem dX6_stands_8 : decode cX6_stands 8 = .ok (.iconst 0, 1) := by decide +kernel
theorem dX6_stands_9 : decode cX6_stands 9 = .ok (.ireturn, 1) := by decide +kernel
theorem dX6_stands_10 : decode cX6_stands 10 = .ok (.aload_n 0, 1) := by decide +kernel
theorem dX6_stands_11 : decode cX6_stands 11 = .ok (.aload_n 0, 1) := by decide +kernel
theorem dX6_stands_12 : decode cX6_stands 12 = .ok (.getfield 15, 3) := by decide +kernel
theorem dX6_stands_15 : decode cX6_stands 15 = .ok (.invokevirtual 102, 3) := by decide +kernel
theorem dX6_stands_18 : decode cX6_stands 18 = .ok (.iload_n 1, 1) := by decide +kernel
theorem dX6_stands_19 : decode cX6_stands 19 = .ok (.if_icmp .eq 13, 3) := by decide +kernel
theorem dX6_stands_22 : decode cX6_stands 22 = .ok (.aload_n 0, 1) := by decide +kernel
theorem dX6_stands_23 : decode cX6_stands 23 = .ok (.aload_n 0, 1) := by decide +kernel
theorem dX6_stands_24 : decode cX6_stands 24 = .ok (.getfield 15, 3) := by decide +kernel
theorem dX6_stands_27 : decode cX6_stands 27 = .ok (.putfield 21, 3) := by decide +kernel
theorem dX6_stands_30 : decode cX6_stands 30 = .ok (.iconst 0, 1) := by decide +kernel
theorem dX6_stands_31 : decode cX6_stands 31 = .ok (.ireturn, 1) := by decide +kernel
theorem dX6_stands_32 : decode cX6_stands 32 = .ok (.aload_n 0, 1) := by decide +kernel
theorem dX6_stands_33 : decode cX6_stands 33 = .ok (.dup, 1) := by decide +kernel
theorem dX6_stands_34 : decode cX6_stands 34 = .ok (.getfield 15, 3) := by decide +kernel
theorem dX6_stands_37 : decode cX6_stands 37 = .ok (.iconst 1, 1) := by decide +kernel
theorem dX6_stands_38 : decode cX6_stands 38 = .ok (.iadd, 1) := by decide +kernel
theorem dX6_stands_39 : decode cX6_stands 39 = .ok (.putfield 15, 3) := by decide +kernel
theorem dX6_stands_42 : decode cX6_stands 42 = .ok (.iconst 1, 1) := by decide +kernel
theorem dX6_stands_43 : decode cX6_stands 43 = .ok (.ireturn, 1) := by decide +kernel
theorem dX6_isDigit_0 : decode cX6_isDigit 0 = .ok (.aload_n 0, 1) := by decide +kernel
theorem dX6_isDigit_1 : decode cX6_isDigit 1 = .ok (.iload_n 1, 1) := by decide +kernel
theorem dX6_isDigit_2 : decode cX6_isDigit 2 = .ok (.invokevirtual 102, 3) := by decide +kernel
theorem dX6_isDigit_5 : decode cX6_isDigit 5 = .ok (.istore_n 2, 1) := by decide +kernel
theorem dX6_isDigit_6 : decode cX6_isDigit 6 = .ok (.iload_n 2, 1) := by decide +kernel
theorem dX6_isDigit_7 : decode cX6_isDigit 7 = .ok (.bipush 48, 2) := by decide +kernel
theorem dX6_isDigit_9 : decode cX6_isDigit 9 = .ok (.if_icmp .lt 13, 3) := by decide +kernel
theorem dX6_isDigit_12 : decode cX6_isDigit 12 = .ok (.iload_n 2, 1) := by decide +kernel
theorem dX6_isDigit_13 : decode cX6_isDigit 13 = .ok (.bipush 57, 2) := by decide +kernel
theorem dX6_isDigit_15 : decode cX6_isDigit 15 = .ok (.if_icmp .gt 7, 3) := by decide +kernel
theorem dX6_isDigit_18 : decode cX6_isDigit 18 = .ok (.iconst 1, 1) := by decide +kernel
theorem dX6_isDigit_19 : decode cX6_isDigit 19 = .ok (.goto 4, 3) := by decide +kernel
theorem dX6_isDigit_22 : decode cX6_isDigit 22 = .ok (.iconst 0, 1) := by decide +kernel
theorem dX6_isDigit_23 : decode cX6_isDigit 23 = .ok (.ireturn, 1) := by decide +kernel
theorem dX6_elementAt_0 : decode cX6_elementAt 0 = .ok (.iload_n 1, 1) := by decide +kernel
theorem dX6_elementAt_1 : decode cX6_elementAt 1 = .ok (.ifCond .lt 21, 3) := by decide +kernel
theorem dX6_elementAt_4 : decode cX6_elementAt 4 = .ok (.iload_n 1, 1) := by decide +kernel
theorem dX6_elementAt_5 : decode cX6_elementAt 5 = .ok (.aload_n 0, 1) := by decide +kernel
theorem dX6_elementAt_6 : decode cX6_elementAt 6 = .ok (.getfield 9, 3) := by decide +kernel
theorem dX6_elementAt_9 : decode cX6_elementAt 9 = .ok (.if_icmp .ge 13, 3) := by decide +kernel
theorem dX6_elementAt_12 : decode cX6_elementAt 12 = .ok (.aload_n 0, 1) := by decide +kernel
theorem dX6_elementAt_13 : decode cX6_elementAt 13 = .ok (.getfield 28, 3) := by decide +kernel
theorem dX6_elementAt_16 : decode cX6_elementAt 16 = .ok (.iload_n 1, 1) := by decide +kernel
theorem dX6_elementAt_17 : decode cX6_elementAt 17 = .ok (.laload, 1) := by decide +kernel
theorem dX6_elementAt_18 : decode cX6_elementAt 18 = .ok (.l2i, 1) := by decide +kernel
theorem dX6_elementAt_19 : decode cX6_elementAt 19 = .ok (.goto 4, 3) := by decide +kernel
theorem dX6_elementAt_22 : decode cX6_elementAt 22 = .ok (.iconst (-1), 1) := by decide +kernel
theorem dX6_elementAt_23 : decode cX6_elementAt 23 = .ok (.ireturn, 1) := by decide +kernel
theorem dX7_init_0 : decode cX7_init 0 = .ok (.aload_n 0, 1) := by decide +kernel
theorem dX7_init_1 : decode cX7_init 1 = .ok (.invokespecial 1, 3) := by decide +kernel
theorem dX7_init_4 : decode cX7_init 4 = .ok (.return_, 1) := by decide +kernel
theorem dX7_counted_0 : decode cX7_counted 0 = .ok (.iload_n 1, 1) := by decide +kernel
theorem dX7_counted_1 : decode cX7_counted 1 = .ok (.ifCond .le 9, 3) := by decide +kernel
theorem dX7_counted_4 : decode cX7_counted 4 = .ok (.iload_n 1, 1) := by decide +kernel
theorem dX7_counted_5 : decode cX7_counted 5 = .ok (.iconst 1, 1) := by decide +kernel
theorem dX7_counted_6 : decode cX7_counted 6 = .ok (.isub, 1) := by decide +kernel
theorem dX7_counted_7 : decode cX7_counted 7 = .ok (.goto 4, 3) := by decide +kernel
theorem dX7_counted_10 : decode cX7_counted 10 = .ok (.iconst 0, 1) := by decide +kernel
theorem dX7_counted_11 : decode cX7_counted 11 = .ok (.ireturn, 1) := by decide +kernel
theorem dX7_actFalls_0 : decode cX7_actFalls 0 = .ok (.aload_n 1, 1) := by decide +kernel
theorem dX7_actFalls_1 : decode cX7_actFalls 1 = .ok (.bipush 50, 2) := by decide +kernel
theorem dX7_actFalls_3 : decode cX7_actFalls 3 = .ok (.invokevirtual 7, 3) := by decide +kernel
theorem dX7_actFalls_6 : decode cX7_actFalls 6 = .ok (.aload_n 0, 1) := by decide +kernel
theorem dX7_actFalls_7 : decode cX7_actFalls 7 = .ok (.aload_n 1, 1) := by decide +kernel
theorem dX7_actFalls_8 : decode cX7_actFalls 8 = .ok (.iload_n 2, 1) := by decide +kernel
theorem dX7_actFalls_9 : decode cX7_actFalls 9 = .ok (.invokespecial 13, 3) := by decide +kernel
theorem dX7_actFalls_12 : decode cX7_actFalls 12 = .ok (.ineg, 1) := by decide +kernel
theorem dX7_actFalls_13 : decode cX7_actFalls 13 = .ok (.ireturn, 1) := by decide +kernel
theorem dX7_actPaints_0 : decode cX7_actPaints 0 = .ok (.aload_n 1, 1) := by decide +kernel
theorem dX7_actPaints_1 : decode cX7_actPaints 1 = .ok (.bipush 51, 2) := by decide +kernel
theorem dX7_actPaints_3 : decode cX7_actPaints 3 = .ok (.invokevirtual 7, 3) := by decide +kernel
theorem dX7_actPaints_6 : decode cX7_actPaints 6 = .ok (.aload_n 0, 1) := by decide +kernel
theorem dX7_actPaints_7 : decode cX7_actPaints 7 = .ok (.aload_n 1, 1) := by decide +kernel
theorem dX7_actPaints_8 : decode cX7_actPaints 8 = .ok (.iload_n 2, 1) := by decide +kernel
theorem dX7_actPaints_9 : decode cX7_actPaints 9 = .ok (.invokespecial 17, 3) := by decide +kernel
theorem dX7_actPaints_12 : decode cX7_actPaints 12 = .ok (.aload_n 1, 1) := by decide +kernel
theorem dX7_actPaints_13 : decode cX7_actPaints 13 = .ok (.getfield 20, 3) := by decide +kernel
theorem dX7_actPaints_16 : decode cX7_actPaints 16 = .ok (.isub, 1) := by decide +kernel
theorem dX7_actPaints_17 : decode cX7_actPaints 17 = .ok (.ireturn, 1) := by decide +kernel
theorem dX8_init_0 : decode cX8_init 0 = .ok (.aload_n 0, 1) := by decide +kernel
theorem dX8_init_1 : decode cX8_init 1 = .ok (.invokespecial 3, 3) := by decide +kernel
theorem dX8_init_4 : decode cX8_init 4 = .ok (.return_, 1) := by decide +kernel
theorem dX8_hardness_0 : decode cX8_hardness 0 = .ok (.iload_n 2, 1) := by decide +kernel
theorem dX8_hardness_1 : decode cX8_hardness 1 = .ok (.iconst 4, 1) := by decide +kernel
theorem dX8_hardness_2 : decode cX8_hardness 2 = .ok (.idiv, 1) := by decide +kernel
theorem dX8_hardness_3 : decode cX8_hardness 3 = .ok (.ifCond .ne 7, 3) := by decide +kernel
theorem dX8_hardness_6 : decode cX8_hardness 6 = .ok (.iconst 0, 1) := by decide +kernel
theorem dX8_hardness_7 : decode cX8_hardness 7 = .ok (.goto 10, 3) := by decide +kernel
theorem dX8_hardness_10 : decode cX8_hardness 10 = .ok (.aload_n 0, 1) := by decide +kernel
theorem dX8_hardness_11 : decode cX8_hardness 11 = .ok (.iload_n 1, 1) := by decide +kernel
theorem dX8_hardness_12 : decode cX8_hardness 12 = .ok (.iload_n 2, 1) := by decide +kernel
theorem dX8_hardness_13 : decode cX8_hardness 13 = .ok (.iload_n 3, 1) := by decide +kernel
theorem dX8_hardness_14 : decode cX8_hardness 14 = .ok (.invokespecial 9, 3) := by decide +kernel
theorem dX8_hardness_17 : decode cX8_hardness 17 = .ok (.ireturn, 1) := by decide +kernel
theorem dX8_actFalls_0 : decode cX8_actFalls 0 = .ok (.aload_n 1, 1) := by decide +kernel
theorem dX8_actFalls_1 : decode cX8_actFalls 1 = .ok (.bipush 60, 2) := by decide +kernel
theorem dX8_actFalls_3 : decode cX8_actFalls 3 = .ok (.invokevirtual 13, 3) := by decide +kernel
theorem dX8_actFalls_6 : decode cX8_actFalls 6 = .ok (.aload_n 0, 1) := by decide +kernel
theorem dX8_actFalls_7 : decode cX8_actFalls 7 = .ok (.aload_n 1, 1) := by decide +kernel
theorem dX8_actFalls_8 : decode cX8_actFalls 8 = .ok (.iload_n 2, 1) := by decide +kernel
theorem dX8_actFalls_9 : decode cX8_actFalls 9 = .ok (.invokespecial 19, 3) := by decide +kernel
theorem dX8_actFalls_12 : decode cX8_actFalls 12 = .ok (.iconst 5, 1) := by decide +kernel
theorem dX8_actFalls_13 : decode cX8_actFalls 13 = .ok (.ixor, 1) := by decide +kernel
theorem dX8_actFalls_14 : decode cX8_actFalls 14 = .ok (.ireturn, 1) := by decide +kernel
theorem dX9_init_0 : decode cX9_init 0 = .ok (.aload_n 0, 1) := by decide +kernel
theorem dX9_init_1 : decode cX9_init 1 = .ok (.invokespecial 3, 3) := by decide +kernel
theorem dX9_init_4 : decode cX9_init 4 = .ok (.aload_n 0, 1) := by decide +kernel
theorem dX9_init_5 : decode cX9_init 5 = .ok (.bipush 6, 2) := by decide +kernel
theorem dX9_init_7 : decode cX9_init 7 = .ok (.anewarray 9, 3) := by decide +kernel
theorem dX9_init_10 : decode cX9_init 10 = .ok (.putfield 11, 3) := by decide +kernel
theorem dX9_init_13 : decode cX9_init 13 = .ok (.aload_n 0, 1) := by decide +kernel
theorem dX9_init_14 : decode cX9_init 14 = .ok (.iconst 0, 1) := by decide +kernel
theorem dX9_init_15 : decode cX9_init 15 = .ok (.putfield 17, 3) := by decide +kernel
theorem dX9_init_18 : decode cX9_init 18 = .ok (.aload_n 0, 1) := by decide +kernel
theorem dX9_init_19 : decode cX9_init 19 = .ok (.bipush 6, 2) := by decide +kernel
theorem dX9_init_21 : decode cX9_init 21 = .ok (.newarray .int, 2) := by decide +kernel
theorem dX9_init_23 : decode cX9_init 23 = .ok (.putfield 21, 3) := by decide +kernel
theorem dX9_init_26 : decode cX9_init 26 = .ok (.aload_n 0, 1) := by decide +kernel
theorem dX9_init_27 : decode cX9_init 27 = .ok (.bipush 6, 2) := by decide +kernel
theorem dX9_init_29 : decode cX9_init 29 = .ok (.newarray .int, 2) := by decide +kernel
theorem dX9_init_31 : decode cX9_init 31 = .ok (.putfield 25, 3) := by decide +kernel
theorem dX9_init_34 : decode cX9_init 34 = .ok (.aload_n 0, 1) := by decide +kernel
theorem dX9_init_35 : decode cX9_init 35 = .ok (.sipush 300, 3) := by decide +kernel
theorem dX9_init_38 : decode cX9_init 38 = .ok (.putfield 28, 3) := by decide +kernel
theorem dX9_init_41 : decode cX9_init 41 = .ok (.aload_n 0, 1) := by decide +kernel
theorem dX9_init_42 : decode cX9_init 42 = .ok (.bipush 40, 2) := by decide +kernel
theorem dX9_init_44 : decode cX9_init 44 = .ok (.putfield 31, 3) := by decide +kernel
theorem dX9_init_47 : decode cX9_init 47 = .ok (.aload_n 0, 1) := by decide +kernel
theorem dX9_init_48 : decode cX9_init 48 = .ok (.iconst 0, 1) := by decide +kernel
theorem dX9_init_49 : decode cX9_init 49 = .ok (.putfield 34, 3) := by decide +kernel
theorem dX9_init_52 : decode cX9_init 52 = .ok (.aload_n 0, 1) := by decide +kernel
theorem dX9_init_53 : decode cX9_init 53 = .ok (.iconst 0, 1) := by decide +kernel
theorem dX9_init_54 : decode cX9_init 54 = .ok (.putfield 37, 3) := by decide +kernel
theorem dX9_init_57 : decode cX9_init 57 = .ok (.aload_n 0, 1) := by decide +kernel
theorem dX9_init_58 : decode cX9_init 58 = .ok (.iconst 1, 1) := by decide +kernel
theorem dX9_init_59 : decode cX9_init 59 = .ok (.putfield 40, 3) := by decide +kernel
theorem dX9_init_62 : decode cX9_init 62 = .ok (.aload_n 0, 1) := by decide +kernel
theorem dX9_init_63 : decode cX9_init 63 = .ok (.aload_n 1, 1) := by decide +kernel
theorem dX9_init_64 : decode cX9_init 64 = .ok (.putfield 43, 3) := by decide +kernel
theorem dX9_init_67 : decode cX9_init 67 = .ok (.iconst 0, 1) := by decide +kernel
theorem dX9_init_68 : decode cX9_init 68 = .ok (.istore_n 2, 1) := by decide +kernel
theorem dX9_init_69 : decode cX9_init 69 = .ok (.iload_n 2, 1) := by decide +kernel
theorem dX9_init_70 : decode cX9_init 70 = .ok (.bipush 6, 2) := by decide +kernel
theorem dX9_init_72 : decode cX9_init 72 = .ok (.if_icmp .ge 25, 3) := by decide +kernel
theorem dX9_init_75 : decode cX9_init 75 = .ok (.aload_n 0, 1) := by decide +kernel
theorem dX9_init_76 : decode cX9_init 76 = .ok (.getfield 11, 3) := by decide +kernel
theorem dX9_init_79 : decode cX9_init 79 = .ok (.iload_n 2, 1) := by decide +kernel
theorem dX9_init_80 : decode cX9_init 80 = .ok (.new 9, 3) := by decide +kernel
theorem dX9_init_83 : decode cX9_init 83 = .ok (.dup, 1) := by decide +kernel
theorem dX9_init_84 : decode cX9_init 84 = .ok (.aload_n 1, 1) := by decide +kernel
theorem dX9_init_85 : decode cX9_init 85 = .ok (.iconst 0, 1) := by decide +kernel
theorem dX9_init_86 : decode cX9_init 86 = .ok (.aaload, 1) := by decide +kernel
theorem dX9_init_87 : decode cX9_init 87 = .ok (.invokespecial 47, 3) := by decide +kernel
theorem dX9_init_90 : decode cX9_init 90 = .ok (.aastore, 1) := by decide +kernel
theorem dX9_init_91 : decode cX9_init 91 = .ok (.iinc 2 1, 3) := by decide +kernel
theorem dX9_init_94 : decode cX9_init 94 = .ok (.goto (-25), 3) := by decide +kernel
theorem dX9_init_97 : decode cX9_init 97 = .ok (.iconst 0, 1) := by decide +kernel
theorem dX9_init_98 : decode cX9_init 98 = .ok (.istore_n 2, 1) := by decide +kernel
theorem dX9_init_99 : decode cX9_init 99 = .ok (.iload_n 2, 1) := by decide +kernel
theorem dX9_init_100 : decode cX9_init 100 = .ok (.bipush 6, 2) := by decide +kernel
theorem dX9_init_102 : decode cX9_init 102 = .ok (.if_icmp .ge 23, 3) := by decide +kernel
theorem dX9_init_105 : decode cX9_init 105 = .ok (.aload_n 0, 1) := by decide +kernel
theorem dX9_init_106 : decode cX9_init 106 = .ok (.getfield 21, 3) := by decide +kernel
theorem dX9_init_109 : decode cX9_init 109 = .ok (.iload_n 2, 1) := by decide +kernel
theorem dX9_init_110 : decode cX9_init 110 = .ok (.iconst 3, 1) := by decide +kernel
theorem dX9_init_111 : decode cX9_init 111 = .ok (.iastore, 1) := by decide +kernel
theorem dX9_init_112 : decode cX9_init 112 = .ok (.aload_n 0, 1) := by decide +kernel
theorem dX9_init_113 : decode cX9_init 113 = .ok (.getfield 25, 3) := by decide +kernel
theorem dX9_init_116 : decode cX9_init 116 = .ok (.iload_n 2, 1) := by decide +kernel
theorem dX9_init_117 : decode cX9_init 117 = .ok (.iconst 1, 1) := by decide +kernel
theorem dX9_init_118 : decode cX9_init 118 = .ok (.iastore, 1) := by decide +kernel
theorem dX9_init_119 : decode cX9_init 119 = .ok (.iinc 2 1, 3) := by decide +kernel
theorem dX9_init_122 : decode cX9_init 122 = .ok (.goto (-23), 3) := by decide +kernel
theorem dX9_init_125 : decode cX9_init 125 = .ok (.return_, 1) := by decide +kernel
theorem dX9_become_0 : decode cX9_become 0 = .ok (.aload_n 0, 1) := by decide +kernel
theorem dX9_become_1 : decode cX9_become 1 = .ok (.aload_n 1, 1) := by decide +kernel
theorem dX9_become_2 : decode cX9_become 2 = .ok (.getfield 17, 3) := by decide +kernel
theorem dX9_become_5 : decode cX9_become 5 = .ok (.putfield 17, 3) := by decide +kernel
theorem dX9_become_8 : decode cX9_become 8 = .ok (.iconst 0, 1) := by decide +kernel
theorem dX9_become_9 : decode cX9_become 9 = .ok (.istore_n 2, 1) := by decide +kernel
theorem dX9_become_10 : decode cX9_become 10 = .ok (.iload_n 2, 1) := by decide +kernel
theorem dX9_become_11 : decode cX9_become 11 = .ok (.aload_n 0, 1) := by decide +kernel
theorem dX9_become_12 : decode cX9_become 12 = .ok (.getfield 17, 3) := by decide +kernel
theorem dX9_become_15 : decode cX9_become 15 = .ok (.if_icmp .ge 24, 3) := by decide +kernel
theorem dX9_become_18 : decode cX9_become 18 = .ok (.aload_n 0, 1) := by decide +kernel
theorem dX9_become_19 : decode cX9_become 19 = .ok (.getfield 11, 3) := by decide +kernel
theorem dX9_become_22 : decode cX9_become 22 = .ok (.iload_n 2, 1) := by decide +kernel
theorem dX9_become_23 : decode cX9_become 23 = .ok (.aaload, 1) := by decide +kernel
theorem dX9_become_24 : decode cX9_become 24 = .ok (.aload_n 1, 1) := by decide +kernel
theorem dX9_become_25 : decode cX9_become 25 = .ok (.getfield 11, 3) := by decide +kernel
theorem dX9_become_28 : decode cX9_become 28 = .ok (.iload_n 2, 1) := by decide +kernel
theorem dX9_become_29 : decode cX9_become 29 = .ok (.aaload, 1) := by decide +kernel
theorem dX9_become_30 : decode cX9_become 30 = .ok (.invokevirtual 50, 3) := by decide +kernel
theorem dX9_become_33 : decode cX9_become 33 = .ok (.iinc 2 1, 3) := by decide +kernel
theorem dX9_become_36 : decode cX9_become 36 = .ok (.goto (-26), 3) := by decide +kernel
theorem dX9_become_39 : decode cX9_become 39 = .ok (.aload_n 1, 1) := by decide +kernel
theorem dX9_become_40 : decode cX9_become 40 = .ok (.getfield 21, 3) := by decide +kernel
theorem dX9_become_43 : decode cX9_become 43 = .ok (.iconst 0, 1) := by decide +kernel
theorem dX9_become_44 : decode cX9_become 44 = .ok (.aload_n 0, 1) := by decide +kernel
theorem dX9_become_45 : decode cX9_become 45 = .ok (.getfield 21, 3) := by decide +kernel
theorem dX9_become_48 : decode cX9_become 48 = .ok (.iconst 0, 1) := by decide +kernel
theorem dX9_become_49 : decode cX9_become 49 = .ok (.bipush 6, 2) := by decide +kernel
theorem dX9_become_51 : decode cX9_become 51 = .ok (.invokestatic 54, 3) := by decide +kernel
theorem dX9_become_54 : decode cX9_become 54 = .ok (.aload_n 1, 1) := by decide +kernel
theorem dX9_become_55 : decode cX9_become 55 = .ok (.getfield 25, 3) := by decide +kernel
theorem dX9_become_58 : decode cX9_become 58 = .ok (.iconst 0, 1) := by decide +kernel
theorem dX9_become_59 : decode cX9_become 59 = .ok (.aload_n 0, 1) := by decide +kernel
theorem dX9_become_60 : decode cX9_become 60 = .ok (.getfield 25, 3) := by decide +kernel
theorem dX9_become_63 : decode cX9_become 63 = .ok (.iconst 0, 1) := by decide +kernel
theorem dX9_become_64 : decode cX9_become 64 = .ok (.bipush 6, 2) := by decide +kernel
theorem dX9_become_66 : decode cX9_become 66 = .ok (.invokestatic 54, 3) := by decide +kernel
theorem dX9_become_69 : decode cX9_become 69 = .ok (.aload_n 0, 1) := by decide +kernel
theorem dX9_become_70 : decode cX9_become 70 = .ok (.aload_n 1, 1) := by decide +kernel
theorem dX9_become_71 : decode cX9_become 71 = .ok (.getfield 28, 3) := by decide +kernel
theorem dX9_become_74 : decode cX9_become 74 = .ok (.putfield 28, 3) := by decide +kernel
theorem dX9_become_77 : decode cX9_become 77 = .ok (.aload_n 0, 1) := by decide +kernel
theorem dX9_become_78 : decode cX9_become 78 = .ok (.aload_n 1, 1) := by decide +kernel
theorem dX9_become_79 : decode cX9_become 79 = .ok (.getfield 31, 3) := by decide +kernel
theorem dX9_become_82 : decode cX9_become 82 = .ok (.putfield 31, 3) := by decide +kernel
theorem dX9_become_85 : decode cX9_become 85 = .ok (.aload_n 0, 1) := by decide +kernel
theorem dX9_become_86 : decode cX9_become 86 = .ok (.aload_n 1, 1) := by decide +kernel
theorem dX9_become_87 : decode cX9_become 87 = .ok (.getfield 34, 3) := by decide +kernel
theorem dX9_become_90 : decode cX9_become 90 = .ok (.putfield 34, 3) := by decide +kernel
theorem dX9_become_93 : decode cX9_become 93 = .ok (.aload_n 0, 1) := by decide +kernel
theorem dX9_become_94 : decode cX9_become 94 = .ok (.aload_n 1, 1) := by decide +kernel
theorem dX9_become_95 : decode cX9_become 95 = .ok (.getfield 37, 3) := by decide +kernel
theorem dX9_become_98 : decode cX9_become 98 = .ok (.putfield 37, 3) := by decide +kernel
theorem dX9_become_101 : decode cX9_become 101 = .ok (.aload_n 0, 1) := by decide +kernel
theorem dX9_become_102 : decode cX9_become 102 = .ok (.aload_n 1, 1) := by decide +kernel
theorem dX9_become_103 : decode cX9_become 103 = .ok (.getfield 40, 3) := by decide +kernel
theorem dX9_become_106 : decode cX9_become 106 = .ok (.putfield 40, 3) := by decide +kernel
theorem dX9_become_109 : decode cX9_become 109 = .ok (.return_, 1) := by decide +kernel
theorem dX9_build_0 : decode cX9_build 0 = .ok (.aload_n 0, 1) := by decide +kernel
theorem dX9_build_1 : decode cX9_build 1 = .ok (.getfield 17, 3) := by decide +kernel
theorem dX9_build_4 : decode cX9_build 4 = .ok (.bipush 6, 2) := by decide +kernel
theorem dX9_build_6 : decode cX9_build 6 = .ok (.if_icmp .ge 12, 3) := by decide +kernel
theorem dX9_build_9 : decode cX9_build 9 = .ok (.iload_n 1, 1) := by decide +kernel
theorem dX9_build_10 : decode cX9_build 10 = .ok (.bipush 7, 2) := by decide +kernel
theorem dX9_build_12 : decode cX9_build 12 = .ok (.invokestatic 60, 3) := by decide +kernel
theorem dX9_build_15 : decode cX9_build 15 = .ok (.ifCond .eq 5, 3) := by decide +kernel
theorem dX9_build_18 : decode cX9_build 18 = .ok (.iconst (-1), 1) := by decide +kernel
theorem dX9_build_19 : decode cX9_build 19 = .ok (.ireturn, 1) := by decide +kernel
theorem dX9_build_20 : decode cX9_build 20 = .ok (.aload_n 0, 1) := by decide +kernel
theorem dX9_build_21 : decode cX9_build 21 = .ok (.getfield 11, 3) := by decide +kernel
theorem dX9_build_24 : decode cX9_build 24 = .ok (.aload_n 0, 1) := by decide +kernel
theorem dX9_build_25 : decode cX9_build 25 = .ok (.getfield 17, 3) := by decide +kernel
theorem dX9_build_28 : decode cX9_build 28 = .ok (.aaload, 1) := by decide +kernel
theorem dX9_build_29 : decode cX9_build 29 = .ok (.astore_n 3, 1) := by decide +kernel
theorem dX9_build_30 : decode cX9_build 30 = .ok (.aload_n 3, 1) := by decide +kernel
theorem dX9_build_31 : decode cX9_build 31 = .ok (.invokevirtual 64, 3) := by decide +kernel
theorem dX9_build_34 : decode cX9_build 34 = .ok (.aload_n 3, 1) := by decide +kernel
theorem dX9_build_35 : decode cX9_build 35 = .ok (.aload_n 0, 1) := by decide +kernel
theorem dX9_build_36 : decode cX9_build 36 = .ok (.getfield 43, 3) := by decide +kernel
theorem dX9_build_39 : decode cX9_build 39 = .ok (.iload_n 1, 1) := by decide +kernel
theorem dX9_build_40 : decode cX9_build 40 = .ok (.aaload, 1) := by decide +kernel
theorem dX9_build_41 : decode cX9_build 41 = .ok (.putfield 67, 3) := by decide +kernel
theorem dX9_build_44 : decode cX9_build 44 = .ok (.aload_n 3, 1) := by decide +kernel
theorem dX9_build_45 : decode cX9_build 45 = .ok (.iload_n 1, 1) := by decide +kernel
theorem dX9_build_46 : decode cX9_build 46 = .ok (.putfield 71, 3) := by decide +kernel
theorem dX9_build_49 : decode cX9_build 49 = .ok (.aload_n 3, 1) := by decide +kernel
theorem dX9_build_50 : decode cX9_build 50 = .ok (.iload_n 2, 1) := by decide +kernel
theorem dX9_build_51 : decode cX9_build 51 = .ok (.putfield 74, 3) := by decide +kernel
theorem dX9_build_54 : decode cX9_build 54 = .ok (.aload_n 0, 1) := by decide +kernel
theorem dX9_build_55 : decode cX9_build 55 = .ok (.dup, 1) := by decide +kernel
theorem dX9_build_56 : decode cX9_build 56 = .ok (.getfield 17, 3) := by decide +kernel
theorem dX9_build_59 : decode cX9_build 59 = .ok (.iconst 1, 1) := by decide +kernel
theorem dX9_build_60 : decode cX9_build 60 = .ok (.iadd, 1) := by decide +kernel
theorem dX9_build_61 : decode cX9_build 61 = .ok (.putfield 17, 3) := by decide +kernel
theorem dX9_build_64 : decode cX9_build 64 = .ok (.aload_n 0, 1) := by decide +kernel
theorem dX9_build_65 : decode cX9_build 65 = .ok (.getfield 17, 3) := by decide +kernel
theorem dX9_build_68 : decode cX9_build 68 = .ok (.iconst 1, 1) := by decide +kernel
theorem dX9_build_69 : decode cX9_build 69 = .ok (.isub, 1) := by decide +kernel
theorem dX9_build_70 : decode cX9_build 70 = .ok (.ireturn, 1) := by decide +kernel
theorem dX9_coatsInAll_0 : decode cX9_coatsInAll 0 = .ok (.iconst 0, 1) := by decide +kernel
theorem dX9_coatsInAll_1 : decode cX9_coatsInAll 1 = .ok (.istore_n 1, 1) := by decide +kernel
theorem dX9_coatsInAll_2 : decode cX9_coatsInAll 2 = .ok (.iconst 0, 1) := by decide +kernel
theorem dX9_coatsInAll_3 : decode cX9_coatsInAll 3 = .ok (.istore_n 2, 1) := by decide +kernel
theorem dX9_coatsInAll_4 : decode cX9_coatsInAll 4 = .ok (.iload_n 2, 1) := by decide +kernel
theorem dX9_coatsInAll_5 : decode cX9_coatsInAll 5 = .ok (.aload_n 0, 1) := by decide +kernel
theorem dX9_coatsInAll_6 : decode cX9_coatsInAll 6 = .ok (.getfield 17, 3) := by decide +kernel
theorem dX9_coatsInAll_9 : decode cX9_coatsInAll 9 = .ok (.if_icmp .ge 21, 3) := by decide +kernel
theorem dX9_coatsInAll_12 : decode cX9_coatsInAll 12 = .ok (.iload_n 1, 1) := by decide +kernel
theorem dX9_coatsInAll_13 : decode cX9_coatsInAll 13 = .ok (.aload_n 0, 1) := by decide +kernel
theorem dX9_coatsInAll_14 : decode cX9_coatsInAll 14 = .ok (.getfield 11, 3) := by decide +kernel
theorem dX9_coatsInAll_17 : decode cX9_coatsInAll 17 = .ok (.iload_n 2, 1) := by decide +kernel
theorem dX9_coatsInAll_18 : decode cX9_coatsInAll 18 = .ok (.aaload, 1) := by decide +kernel
theorem dX9_coatsInAll_19 : decode cX9_coatsInAll 19 = .ok (.getfield 77, 3) := by decide +kernel
theorem dX9_coatsInAll_22 : decode cX9_coatsInAll 22 = .ok (.iadd, 1) := by decide +kernel
theorem dX9_coatsInAll_23 : decode cX9_coatsInAll 23 = .ok (.istore_n 1, 1) := by decide +kernel
theorem dX9_coatsInAll_24 : decode cX9_coatsInAll 24 = .ok (.iinc 2 1, 3) := by decide +kernel
theorem dX9_coatsInAll_27 : decode cX9_coatsInAll 27 = .ok (.goto (-23), 3) := by decide +kernel
theorem dX9_coatsInAll_30 : decode cX9_coatsInAll 30 = .ok (.iload_n 1, 1) := by decide +kernel
theorem dX9_coatsInAll_31 : decode cX9_coatsInAll 31 = .ok (.ireturn, 1) := by decide +kernel
theorem dX9_strength_0 : decode cX9_strength 0 = .ok (.aload_n 1, 1) := by decide +kernel
theorem dX9_strength_1 : decode cX9_strength 1 = .ok (.getfield 67, 3) := by decide +kernel
theorem dX9_strength_4 : decode cX9_strength 4 = .ok (.aload_n 0, 1) := by decide +kernel
theorem dX9_strength_5 : decode cX9_strength 5 = .ok (.getfield 21, 3) := by decide +kernel
theorem dX9_strength_8 : decode cX9_strength 8 = .ok (.iload_n 2, 1) := by decide +kernel
theorem dX9_strength_9 : decode cX9_strength 9 = .ok (.iaload, 1) := by decide +kernel
theorem dX9_strength_10 : decode cX9_strength 10 = .ok (.invokevirtual 80, 3) := by decide +kernel
theorem dX9_strength_13 : decode cX9_strength 13 = .ok (.iload_n 3, 1) := by decide +kernel
theorem dX9_strength_14 : decode cX9_strength 14 = .ok (.imul, 1) := by decide +kernel
theorem dX9_strength_15 : decode cX9_strength 15 = .ok (.ireturn, 1) := by decide +kernel
theorem dX9_seenAmong_0 : decode cX9_seenAmong 0 = .ok (.aload_n 1, 1) := by decide +kernel
theorem dX9_seenAmong_1 : decode cX9_seenAmong 1 = .ok (.iload_n 3, 1) := by decide +kernel
theorem dX9_seenAmong_2 : decode cX9_seenAmong 2 = .ok (.iload 4, 2) := by decide +kernel
theorem dX9_seenAmong_4 : decode cX9_seenAmong 4 = .ok (.invokevirtual 86, 3) := by decide +kernel
theorem dX9_seenAmong_7 : decode cX9_seenAmong 7 = .ok (.istore 5, 2) := by decide +kernel
theorem dX9_seenAmong_9 : decode cX9_seenAmong 9 = .ok (.aload_n 1, 1) := by decide +kernel
theorem dX9_seenAmong_10 : decode cX9_seenAmong 10 = .ok (.getfield 77, 3) := by decide +kernel
theorem dX9_seenAmong_13 : decode cX9_seenAmong 13 = .ok (.iconst 1, 1) := by decide +kernel
theorem dX9_seenAmong_14 : decode cX9_seenAmong 14 = .ok (.isub, 1) := by decide +kernel
theorem dX9_seenAmong_15 : decode cX9_seenAmong 15 = .ok (.istore 6, 2) := by decide +kernel
theorem dX9_seenAmong_17 : decode cX9_seenAmong 17 = .ok (.iload 6, 2) := by decide +kernel
theorem dX9_seenAmong_19 : decode cX9_seenAmong 19 = .ok (.ifCond .lt 57, 3) := by decide +kernel
theorem dX9_seenAmong_22 : decode cX9_seenAmong 22 = .ok (.iload_n 2, 1) := by decide +kernel
theorem dX9_seenAmong_23 : decode cX9_seenAmong 23 = .ok (.iload 6, 2) := by decide +kernel
theorem dX9_seenAmong_25 : decode cX9_seenAmong 25 = .ok (.ishr, 1) := by decide +kernel
theorem dX9_seenAmong_26 : decode cX9_seenAmong 26 = .ok (.iconst 1, 1) := by decide +kernel
theorem dX9_seenAmong_27 : decode cX9_seenAmong 27 = .ok (.iand, 1) := by decide +kernel
theorem dX9_seenAmong_28 : decode cX9_seenAmong 28 = .ok (.ifCond .eq 7, 3) := by decide +kernel
theorem dX9_seenAmong_31 : decode cX9_seenAmong 31 = .ok (.iconst 1, 1) := by decide +kernel
theorem dX9_seenAmong_32 : decode cX9_seenAmong 32 = .ok (.goto 4, 3) := by decide +kernel
theorem dX9_seenAmong_35 : decode cX9_seenAmong 35 = .ok (.iconst 0, 1) := by decide +kernel
theorem dX9_seenAmong_36 : decode cX9_seenAmong 36 = .ok (.istore 7, 2) := by decide +kernel
theorem dX9_seenAmong_38 : decode cX9_seenAmong 38 = .ok (.iload 7, 2) := by decide +kernel
theorem dX9_seenAmong_40 : decode cX9_seenAmong 40 = .ok (.ifCond .eq 30, 3) := by decide +kernel
theorem dX9_seenAmong_43 : decode cX9_seenAmong 43 = .ok (.aload_n 0, 1) := by decide +kernel
theorem dX9_seenAmong_44 : decode cX9_seenAmong 44 = .ok (.aload_n 1, 1) := by decide +kernel
theorem dX9_seenAmong_45 : decode cX9_seenAmong 45 = .ok (.aload_n 1, 1) := by decide +kernel
theorem dX9_seenAmong_46 : decode cX9_seenAmong 46 = .ok (.getfield 90, 3) := by decide +kernel
theorem dX9_seenAmong_49 : decode cX9_seenAmong 49 = .ok (.iload 6, 2) := by decide +kernel
theorem dX9_seenAmong_51 : decode cX9_seenAmong 51 = .ok (.iaload, 1) := by decide +kernel
theorem dX9_seenAmong_52 : decode cX9_seenAmong 52 = .ok (.aload_n 1, 1) := by decide +kernel
theorem dX9_seenAmong_53 : decode cX9_seenAmong 53 = .ok (.getfield 93, 3) := by decide +kernel
theorem dX9_seenAmong_56 : decode cX9_seenAmong 56 = .ok (.iload 6, 2) := by decide +kernel
theorem dX9_seenAmong_58 : decode cX9_seenAmong 58 = .ok (.iaload, 1) := by decide +kernel
theorem dX9_seenAmong_59 : decode cX9_seenAmong 59 = .ok (.invokevirtual 96, 3) := by decide +kernel
theorem dX9_seenAmong_62 : decode cX9_seenAmong 62 = .ok (.iload 5, 2) := by decide +kernel
theorem dX9_seenAmong_64 : decode cX9_seenAmong 64 = .ok (.if_icmp .lt 6, 3) := by decide +kernel
theorem dX9_seenAmong_67 : decode cX9_seenAmong 67 = .ok (.iload 6, 2) := by decide +kernel
theorem dX9_seenAmong_69 : decode cX9_seenAmong 69 = .ok (.ireturn, 1) := by decide +kernel
theorem dX9_seenAmong_70 : decode cX9_seenAmong 70 = .ok (.iinc 6 (-1), 3) := by decide +kernel
theorem dX9_seenAmong_73 : decode cX9_seenAmong 73 = .ok (.goto (-56), 3) := by decide +kernel
theorem dX9_seenAmong_76 : decode cX9_seenAmong 76 = .ok (.iconst (-1), 1) := by decide +kernel
theorem dX9_seenAmong_77 : decode cX9_seenAmong 77 = .ok (.ireturn, 1) := by decide +kernel
theorem dX9_seenSomewhere_0 : decode cX9_seenSomewhere 0 = .ok (.iconst 0, 1) := by decide +kernel
theorem dX9_seenSomewhere_1 : decode cX9_seenSomewhere 1 = .ok (.istore_n 3, 1) := by decide +kernel
theorem dX9_seenSomewhere_2 : decode cX9_seenSomewhere 2 = .ok (.iconst 0, 1) := by decide +kernel
theorem dX9_seenSomewhere_3 : decode cX9_seenSomewhere 3 = .ok (.istore 4, 2) := by decide +kernel
theorem dX9_seenSomewhere_5 : decode cX9_seenSomewhere 5 = .ok (.iload 4, 2) := by decide +kernel
theorem dX9_seenSomewhere_7 : decode cX9_seenSomewhere 7 = .ok (.bipush 12, 2) := by decide +kernel
theorem dX9_seenSomewhere_9 : decode cX9_seenSomewhere 9 = .ok (.if_icmp .ge 38, 3) := by decide +kernel
theorem dX9_seenSomewhere_12 : decode cX9_seenSomewhere 12 = .ok (.aload_n 0, 1) := by decide +kernel
theorem dX9_seenSomewhere_13 : decode cX9_seenSomewhere 13 = .ok (.aload_n 1, 1) := by decide +kernel
theorem dX9_seenSomewhere_14 : decode cX9_seenSomewhere 14 = .ok (.aload_n 1, 1) := by decide +kernel
theorem dX9_seenSomewhere_15 : decode cX9_seenSomewhere 15 = .ok (.iload 4, 2) := by decide +kernel
theorem dX9_seenSomewhere_17 : decode cX9_seenSomewhere 17 = .ok (.invokevirtual 100, 3) := by decide +kernel
theorem dX9_seenSomewhere_20 : decode cX9_seenSomewhere 20 = .ok (.iload 4, 2) := by decide +kernel
theorem dX9_seenSomewhere_22 : decode cX9_seenSomewhere 22 = .ok (.iload_n 2, 1) := by decide +kernel
theorem dX9_seenSomewhere_23 : decode cX9_seenSomewhere 23 = .ok (.invokevirtual 103, 3) := by decide +kernel
theorem dX9_seenSomewhere_26 : decode cX9_seenSomewhere 26 = .ok (.istore 5, 2) := by decide +kernel
theorem dX9_seenSomewhere_28 : decode cX9_seenSomewhere 28 = .ok (.iload 5, 2) := by decide +kernel
theorem dX9_seenSomewhere_30 : decode cX9_seenSomewhere 30 = .ok (.iconst (-1), 1) := by decide +kernel
theorem dX9_seenSomewhere_31 : decode cX9_seenSomewhere 31 = .ok (.if_icmp .eq 10, 3) := by decide +kernel
theorem dX9_seenSomewhere_34 : decode cX9_seenSomewhere 34 = .ok (.iload_n 3, 1) := by decide +kernel
theorem dX9_seenSomewhere_35 : decode cX9_seenSomewhere 35 = .ok (.iconst 1, 1) := by decide +kernel
theorem dX9_seenSomewhere_36 : decode cX9_seenSomewhere 36 = .ok (.iload 5, 2) := by decide +kernel
theorem dX9_seenSomewhere_38 : decode cX9_seenSomewhere 38 = .ok (.ishl, 1) := by decide +kernel
theorem dX9_seenSomewhere_39 : decode cX9_seenSomewhere 39 = .ok (.ior, 1) := by decide +kernel
theorem dX9_seenSomewhere_40 : decode cX9_seenSomewhere 40 = .ok (.istore_n 3, 1) := by decide +kernel
theorem dX9_seenSomewhere_41 : decode cX9_seenSomewhere 41 = .ok (.iinc 4 1, 3) := by decide +kernel
theorem dX9_seenSomewhere_44 : decode cX9_seenSomewhere 44 = .ok (.goto (-39), 3) := by decide +kernel
theorem dX9_seenSomewhere_47 : decode cX9_seenSomewhere 47 = .ok (.iload_n 3, 1) := by decide +kernel
theorem dX9_seenSomewhere_48 : decode cX9_seenSomewhere 48 = .ok (.ireturn, 1) := by decide +kernel
theorem dX9_hailOnAll_0 : decode cX9_hailOnAll 0 = .ok (.iconst 0, 1) := by decide +kernel
theorem dX9_hailOnAll_1 : decode cX9_hailOnAll 1 = .ok (.istore_n 2, 1) := by decide +kernel
theorem dX9_hailOnAll_2 : decode cX9_hailOnAll 2 = .ok (.iconst 0, 1) := by decide +kernel
theorem dX9_hailOnAll_3 : decode cX9_hailOnAll 3 = .ok (.istore_n 3, 1) := by decide +kernel
theorem dX9_hailOnAll_4 : decode cX9_hailOnAll 4 = .ok (.iload_n 3, 1) := by decide +kernel
theorem dX9_hailOnAll_5 : decode cX9_hailOnAll 5 = .ok (.aload_n 0, 1) := by decide +kernel
theorem dX9_hailOnAll_6 : decode cX9_hailOnAll 6 = .ok (.getfield 17, 3) := by decide +kernel
theorem dX9_hailOnAll_9 : decode cX9_hailOnAll 9 = .ok (.if_icmp .ge 40, 3) := by decide +kernel
theorem dX9_hailOnAll_12 : decode cX9_hailOnAll 12 = .ok (.iconst 0, 1) := by decide +kernel
theorem dX9_hailOnAll_13 : decode cX9_hailOnAll 13 = .ok (.istore 4, 2) := by decide +kernel
theorem dX9_hailOnAll_15 : decode cX9_hailOnAll 15 = .ok (.iload 4, 2) := by decide +kernel
theorem dX9_hailOnAll_17 : decode cX9_hailOnAll 17 = .ok (.bipush 12, 2) := by decide +kernel
theorem dX9_hailOnAll_19 : decode cX9_hailOnAll 19 = .ok (.if_icmp .ge 24, 3) := by decide +kernel
theorem dX9_hailOnAll_22 : decode cX9_hailOnAll 22 = .ok (.iload_n 2, 1) := by decide +kernel
theorem dX9_hailOnAll_23 : decode cX9_hailOnAll 23 = .ok (.aload_n 0, 1) := by decide +kernel
theorem dX9_hailOnAll_24 : decode cX9_hailOnAll 24 = .ok (.getfield 11, 3) := by decide +kernel
theorem dX9_hailOnAll_27 : decode cX9_hailOnAll 27 = .ok (.iload_n 3, 1) := by decide +kernel
theorem dX9_hailOnAll_28 : decode cX9_hailOnAll 28 = .ok (.aaload, 1) := by decide +kernel
theorem dX9_hailOnAll_29 : decode cX9_hailOnAll 29 = .ok (.iload 4, 2) := by decide +kernel
theorem dX9_hailOnAll_31 : decode cX9_hailOnAll 31 = .ok (.iload_n 1, 1) := by decide +kernel
theorem dX9_hailOnAll_32 : decode cX9_hailOnAll 32 = .ok (.invokevirtual 107, 3) := by decide +kernel
theorem dX9_hailOnAll_35 : decode cX9_hailOnAll 35 = .ok (.iadd, 1) := by decide +kernel
theorem dX9_hailOnAll_36 : decode cX9_hailOnAll 36 = .ok (.istore_n 2, 1) := by decide +kernel
theorem dX9_hailOnAll_37 : decode cX9_hailOnAll 37 = .ok (.iinc 4 1, 3) := by decide +kernel
theorem dX9_hailOnAll_40 : decode cX9_hailOnAll 40 = .ok (.goto (-25), 3) := by decide +kernel
theorem dX9_hailOnAll_43 : decode cX9_hailOnAll 43 = .ok (.iinc 3 1, 3) := by decide +kernel
theorem dX9_hailOnAll_46 : decode cX9_hailOnAll 46 = .ok (.goto (-42), 3) := by decide +kernel
theorem dX9_hailOnAll_49 : decode cX9_hailOnAll 49 = .ok (.iload_n 2, 1) := by decide +kernel
theorem dX9_hailOnAll_50 : decode cX9_hailOnAll 50 = .ok (.ireturn, 1) := by decide +kernel
theorem dX9_letFall_0 : decode cX9_letFall 0 = .ok (.iconst 0, 1) := by decide +kernel
theorem dX9_letFall_1 : decode cX9_letFall 1 = .ok (.istore_n 1, 1) := by decide +kernel
theorem dX9_letFall_2 : decode cX9_letFall 2 = .ok (.iconst 0, 1) := by decide +kernel
theorem dX9_letFall_3 : decode cX9_letFall 3 = .ok (.istore_n 2, 1) := by decide +kernel
theorem dX9_letFall_4 : decode cX9_letFall 4 = .ok (.iload_n 2, 1) := by decide +kernel
theorem dX9_letFall_5 : decode cX9_letFall 5 = .ok (.aload_n 0, 1) := by decide +kernel
theorem dX9_letFall_6 : decode cX9_letFall 6 = .ok (.getfield 17, 3) := by decide +kernel
theorem dX9_letFall_9 : decode cX9_letFall 9 = .ok (.if_icmp .ge 50, 3) := by decide +kernel
theorem dX9_letFall_12 : decode cX9_letFall 12 = .ok (.aload_n 0, 1) := by decide +kernel
theorem dX9_letFall_13 : decode cX9_letFall 13 = .ok (.getfield 11, 3) := by decide +kernel
theorem dX9_letFall_16 : decode cX9_letFall 16 = .ok (.iload_n 2, 1) := by decide +kernel
theorem dX9_letFall_17 : decode cX9_letFall 17 = .ok (.aaload, 1) := by decide +kernel
theorem dX9_letFall_18 : decode cX9_letFall 18 = .ok (.invokevirtual 110, 3) := by decide +kernel
theorem dX9_letFall_21 : decode cX9_letFall 21 = .ok (.aload_n 0, 1) := by decide +kernel
theorem dX9_letFall_22 : decode cX9_letFall 22 = .ok (.getfield 28, 3) := by decide +kernel
theorem dX9_letFall_25 : decode cX9_letFall 25 = .ok (.if_icmp .le 28, 3) := by decide +kernel
theorem dX9_letFall_28 : decode cX9_letFall 28 = .ok (.aload_n 0, 1) := by decide +kernel
theorem dX9_letFall_29 : decode cX9_letFall 29 = .ok (.getfield 11, 3) := by decide +kernel
theorem dX9_letFall_32 : decode cX9_letFall 32 = .ok (.iload_n 2, 1) := by decide +kernel
theorem dX9_letFall_33 : decode cX9_letFall 33 = .ok (.aaload, 1) := by decide +kernel
theorem dX9_letFall_34 : decode cX9_letFall 34 = .ok (.invokevirtual 64, 3) := by decide +kernel
theorem dX9_letFall_37 : decode cX9_letFall 37 = .ok (.iload_n 1, 1) := by decide +kernel
theorem dX9_letFall_38 : decode cX9_letFall 38 = .ok (.iconst 1, 1) := by decide +kernel
theorem dX9_letFall_39 : decode cX9_letFall 39 = .ok (.iload_n 2, 1) := by decide +kernel
theorem dX9_letFall_40 : decode cX9_letFall 40 = .ok (.ishl, 1) := by decide +kernel
theorem dX9_letFall_41 : decode cX9_letFall 41 = .ok (.ior, 1) := by decide +kernel
theorem dX9_letFall_42 : decode cX9_letFall 42 = .ok (.istore_n 1, 1) := by decide +kernel
theorem dX9_letFall_43 : decode cX9_letFall 43 = .ok (.aload_n 0, 1) := by decide +kernel
theorem dX9_letFall_44 : decode cX9_letFall 44 = .ok (.dup, 1) := by decide +kernel
theorem dX9_letFall_45 : decode cX9_letFall 45 = .ok (.getfield 37, 3) := by decide +kernel
theorem dX9_letFall_48 : decode cX9_letFall 48 = .ok (.iconst 1, 1) := by decide +kernel
theorem dX9_letFall_49 : decode cX9_letFall 49 = .ok (.iadd, 1) := by decide +kernel
theorem dX9_letFall_50 : decode cX9_letFall 50 = .ok (.putfield 37, 3) := by decide +kernel
theorem dX9_letFall_53 : decode cX9_letFall 53 = .ok (.iinc 2 1, 3) := by decide +kernel
theorem dX9_letFall_56 : decode cX9_letFall 56 = .ok (.goto (-52), 3) := by decide +kernel
theorem dX9_letFall_59 : decode cX9_letFall 59 = .ok (.iload_n 1, 1) := by decide +kernel
theorem dX9_letFall_60 : decode cX9_letFall 60 = .ok (.ireturn, 1) := by decide +kernel
theorem dX9_draw_0 : decode cX9_draw 0 = .ok (.aload_n 0, 1) := by decide +kernel
theorem dX9_draw_1 : decode cX9_draw 1 = .ok (.aload_n 0, 1) := by decide +kernel
theorem dX9_draw_2 : decode cX9_draw 2 = .ok (.getfield 40, 3) := by decide +kernel
theorem dX9_draw_5 : decode cX9_draw 5 = .ok (.ldc 114, 2) := by decide +kernel
theorem dX9_draw_7 : decode cX9_draw 7 = .ok (.imul, 1) := by decide +kernel
theorem dX9_draw_8 : decode cX9_draw 8 = .ok (.sipush 12345, 3) := by decide +kernel
theorem dX9_draw_11 : decode cX9_draw 11 = .ok (.iadd, 1) := by decide +kernel
theorem dX9_draw_12 : decode cX9_draw 12 = .ok (.putfield 40, 3) := by decide +kernel
theorem dX9_draw_15 : decode cX9_draw 15 = .ok (.iload_n 1, 1) := by decide +kernel
theorem dX9_draw_16 : decode cX9_draw 16 = .ok (.ifCond .le 15, 3) := by decide +kernel
theorem dX9_draw_19 : decode cX9_draw 19 = .ok (.aload_n 0, 1) := by decide +kernel
theorem dX9_draw_20 : decode cX9_draw 20 = .ok (.getfield 40, 3) := by decide +kernel
theorem dX9_draw_23 : decode cX9_draw 23 = .ok (.bipush 16, 2) := by decide +kernel
theorem dX9_draw_25 : decode cX9_draw 25 = .ok (.iushr, 1) := by decide +kernel
theorem dX9_draw_26 : decode cX9_draw 26 = .ok (.iload_n 1, 1) := by decide +kernel
theorem dX9_draw_27 : decode cX9_draw 27 = .ok (.irem, 1) := by decide +kernel
theorem dX9_draw_28 : decode cX9_draw 28 = .ok (.goto 4, 3) := by decide +kernel
theorem dX9_draw_31 : decode cX9_draw 31 = .ok (.iconst 0, 1) := by decide +kernel
theorem dX9_draw_32 : decode cX9_draw 32 = .ok (.ireturn, 1) := by decide +kernel
theorem dX9_passYear_0 : decode cX9_passYear 0 = .ok (.aload_n 0, 1) := by decide +kernel
theorem dX9_passYear_1 : decode cX9_passYear 1 = .ok (.aload_n 0, 1) := by decide +kernel
theorem dX9_passYear_2 : decode cX9_passYear 2 = .ok (.getfield 17, 3) := by decide +kernel
theorem dX9_passYear_5 : decode cX9_passYear 5 = .ok (.invokevirtual 115, 3) := by decide +kernel
theorem dX9_passYear_8 : decode cX9_passYear 8 = .ok (.istore_n 1, 1) := by decide +kernel
theorem dX9_passYear_9 : decode cX9_passYear 9 = .ok (.aload_n 0, 1) := by decide +kernel
theorem dX9_passYear_10 : decode cX9_passYear 10 = .ok (.bipush 8, 2) := by decide +kernel
theorem dX9_passYear_12 : decode cX9_passYear 12 = .ok (.invokevirtual 115, 3) := by decide +kernel
theorem dX9_passYear_15 : decode cX9_passYear 15 = .ok (.istore_n 2, 1) := by decide +kernel
theorem dX9_passYear_16 : decode cX9_passYear 16 = .ok (.aload_n 0, 1) := by decide +kernel
theorem dX9_passYear_17 : decode cX9_passYear 17 = .ok (.bipush 6, 2) := by decide +kernel
theorem dX9_passYear_19 : decode cX9_passYear 19 = .ok (.invokevirtual 115, 3) := by decide +kernel
theorem dX9_passYear_22 : decode cX9_passYear 22 = .ok (.istore_n 3, 1) := by decide +kernel
theorem dX9_passYear_23 : decode cX9_passYear 23 = .ok (.aload_n 0, 1) := by decide +kernel
theorem dX9_passYear_24 : decode cX9_passYear 24 = .ok (.bipush 9, 2) := by decide +kernel
theorem dX9_passYear_26 : decode cX9_passYear 26 = .ok (.invokevirtual 115, 3) := by decide +kernel
theorem dX9_passYear_29 : decode cX9_passYear 29 = .ok (.iconst 1, 1) := by decide +kernel
theorem dX9_passYear_30 : decode cX9_passYear 30 = .ok (.iadd, 1) := by decide +kernel
theorem dX9_passYear_31 : decode cX9_passYear 31 = .ok (.istore 4, 2) := by decide +kernel
theorem dX9_passYear_33 : decode cX9_passYear 33 = .ok (.aload_n 0, 1) := by decide +kernel
theorem dX9_passYear_34 : decode cX9_passYear 34 = .ok (.bipush 12, 2) := by decide +kernel
theorem dX9_passYear_36 : decode cX9_passYear 36 = .ok (.invokevirtual 115, 3) := by decide +kernel
theorem dX9_passYear_39 : decode cX9_passYear 39 = .ok (.istore 5, 2) := by decide +kernel
theorem dX9_passYear_41 : decode cX9_passYear 41 = .ok (.iload_n 1, 1) := by decide +kernel
theorem dX9_passYear_42 : decode cX9_passYear 42 = .ok (.aload_n 0, 1) := by decide +kernel
theorem dX9_passYear_43 : decode cX9_passYear 43 = .ok (.getfield 17, 3) := by decide +kernel
theorem dX9_passYear_46 : decode cX9_passYear 46 = .ok (.if_icmp .ge 23, 3) := by decide +kernel
theorem dX9_passYear_49 : decode cX9_passYear 49 = .ok (.aload_n 0, 1) := by decide +kernel
theorem dX9_passYear_50 : decode cX9_passYear 50 = .ok (.getfield 11, 3) := by decide +kernel
theorem dX9_passYear_53 : decode cX9_passYear 53 = .ok (.iload_n 1, 1) := by decide +kernel
theorem dX9_passYear_54 : decode cX9_passYear 54 = .ok (.aaload, 1) := by decide +kernel
theorem dX9_passYear_55 : decode cX9_passYear 55 = .ok (.iload_n 2, 1) := by decide +kernel
theorem dX9_passYear_56 : decode cX9_passYear 56 = .ok (.iload_n 3, 1) := by decide +kernel
theorem dX9_passYear_57 : decode cX9_passYear 57 = .ok (.iload 4, 2) := by decide +kernel
theorem dX9_passYear_59 : decode cX9_passYear 59 = .ok (.iload 5, 2) := by decide +kernel
theorem dX9_passYear_61 : decode cX9_passYear 61 = .ok (.aload_n 0, 1) := by decide +kernel
theorem dX9_passYear_62 : decode cX9_passYear 62 = .ok (.getfield 34, 3) := by decide +kernel
theorem dX9_passYear_65 : decode cX9_passYear 65 = .ok (.invokevirtual 118, 3) := by decide +kernel
theorem dX9_passYear_68 : decode cX9_passYear 68 = .ok (.pop, 1) := by decide +kernel
theorem dX9_passYear_69 : decode cX9_passYear 69 = .ok (.aload_n 0, 1) := by decide +kernel
theorem dX9_passYear_70 : decode cX9_passYear 70 = .ok (.aload_n 0, 1) := by decide +kernel
theorem dX9_passYear_71 : decode cX9_passYear 71 = .ok (.bipush 8, 2) := by decide +kernel
theorem dX9_passYear_73 : decode cX9_passYear 73 = .ok (.invokevirtual 115, 3) := by decide +kernel
theorem dX9_passYear_76 : decode cX9_passYear 76 = .ok (.invokevirtual 122, 3) := by decide +kernel
theorem dX9_passYear_79 : decode cX9_passYear 79 = .ok (.pop, 1) := by decide +kernel
theorem dX9_passYear_80 : decode cX9_passYear 80 = .ok (.aload_n 0, 1) := by decide +kernel
theorem dX9_passYear_81 : decode cX9_passYear 81 = .ok (.invokevirtual 125, 3) := by decide +kernel
theorem dX9_passYear_84 : decode cX9_passYear 84 = .ok (.pop, 1) := by decide +kernel
theorem dX9_passYear_85 : decode cX9_passYear 85 = .ok (.aload_n 0, 1) := by decide +kernel
theorem dX9_passYear_86 : decode cX9_passYear 86 = .ok (.dup, 1) := by decide +kernel
theorem dX9_passYear_87 : decode cX9_passYear 87 = .ok (.getfield 34, 3) := by decide +kernel
theorem dX9_passYear_90 : decode cX9_passYear 90 = .ok (.iconst 1, 1) := by decide +kernel
theorem dX9_passYear_91 : decode cX9_passYear 91 = .ok (.iadd, 1) := by decide +kernel
theorem dX9_passYear_92 : decode cX9_passYear 92 = .ok (.putfield 34, 3) := by decide +kernel
theorem dX9_passYear_95 : decode cX9_passYear 95 = .ok (.return_, 1) := by decide +kernel
theorem dX10_init_0 : decode cX10_init 0 = .ok (.aload_n 0, 1) := by decide +kernel
theorem dX10_init_1 : decode cX10_init 1 = .ok (.invokespecial 3, 3) := by decide +kernel
theorem dX10_init_4 : decode cX10_init 4 = .ok (.aload_n 0, 1) := by decide +kernel
theorem dX10_init_5 : decode cX10_init 5 = .ok (.iconst 0, 1) := by decide +kernel
theorem dX10_init_6 : decode cX10_init 6 = .ok (.putfield 9, 3) := by decide +kernel
theorem dX10_init_9 : decode cX10_init 9 = .ok (.aload_n 0, 1) := by decide +kernel
theorem dX10_init_10 : decode cX10_init 10 = .ok (.iconst 0, 1) := by decide +kernel
theorem dX10_init_11 : decode cX10_init 11 = .ok (.putfield 15, 3) := by decide +kernel
theorem dX10_init_14 : decode cX10_init 14 = .ok (.aload_n 0, 1) := by decide +kernel
theorem dX10_init_15 : decode cX10_init 15 = .ok (.iconst 0, 1) := by decide +kernel
theorem dX10_init_16 : decode cX10_init 16 = .ok (.putfield 18, 3) := by decide +kernel
theorem dX10_init_19 : decode cX10_init 19 = .ok (.aload_n 0, 1) := by decide +kernel
theorem dX10_init_20 : decode cX10_init 20 = .ok (.bipush 20, 2) := by decide +kernel
theorem dX10_init_22 : decode cX10_init 22 = .ok (.newarray .int, 2) := by decide +kernel
theorem dX10_init_24 : decode cX10_init 24 = .ok (.putfield 21, 3) := by decide +kernel
theorem dX10_init_27 : decode cX10_init 27 = .ok (.return_, 1) := by decide +kernel
theorem dX10_begin_0 : decode cX10_begin 0 = .ok (.aload_n 0, 1) := by decide +kernel
theorem dX10_begin_1 : decode cX10_begin 1 = .ok (.getfield 18, 3) := by decide +kernel
theorem dX10_begin_4 : decode cX10_begin 4 = .ok (.bipush 20, 2) := by decide +kernel
theorem dX10_begin_6 : decode cX10_begin 6 = .ok (.if_icmp .ge 13, 3) := by decide +kernel
theorem dX10_begin_9 : decode cX10_begin 9 = .ok (.aload_n 0, 1) := by decide +kernel
theorem dX10_begin_10 : decode cX10_begin 10 = .ok (.getfield 21, 3) := by decide +kernel
theorem dX10_begin_13 : decode cX10_begin 13 = .ok (.aload_n 0, 1) := by decide +kernel
theorem dX10_begin_14 : decode cX10_begin 14 = .ok (.getfield 18, 3) := by decide +kernel
theorem dX10_begin_17 : decode cX10_begin 17 = .ok (.iload_n 1, 1) := by decide +kernel
theorem dX10_begin_18 : decode cX10_begin 18 = .ok (.iastore, 1) := by decide +kernel
theorem dX10_begin_19 : decode cX10_begin 19 = .ok (.aload_n 0, 1) := by decide +kernel
theorem dX10_begin_20 : decode cX10_begin 20 = .ok (.dup, 1) := by decide +kernel
theorem dX10_begin_21 : decode cX10_begin 21 = .ok (.getfield 18, 3) := by decide +kernel
theorem dX10_begin_24 : decode cX10_begin 24 = .ok (.iconst 1, 1) := by decide +kernel
theorem dX10_begin_25 : decode cX10_begin 25 = .ok (.iadd, 1) := by decide +kernel
theorem dX10_begin_26 : decode cX10_begin 26 = .ok (.putfield 18, 3) := by decide +kernel
theorem dX10_begin_29 : decode cX10_begin 29 = .ok (.return_, 1) := by decide +kernel
theorem dX11_init_0 : decode cX11_init 0 = .ok (.aload_n 0, 1) := by decide +kernel
theorem dX11_init_1 : decode cX11_init 1 = .ok (.invokespecial 1, 3) := by decide +kernel
theorem dX11_init_4 : decode cX11_init 4 = .ok (.aload_n 0, 1) := by decide +kernel
theorem dX11_init_5 : decode cX11_init 5 = .ok (.bipush 8, 2) := by decide +kernel
theorem dX11_init_7 : decode cX11_init 7 = .ok (.newarray .int, 2) := by decide +kernel
theorem dX11_init_9 : decode cX11_init 9 = .ok (.putfield 9, 3) := by decide +kernel
theorem dX11_init_12 : decode cX11_init 12 = .ok (.aload_n 0, 1) := by decide +kernel
theorem dX11_init_13 : decode cX11_init 13 = .ok (.bipush 8, 2) := by decide +kernel
theorem dX11_init_15 : decode cX11_init 15 = .ok (.newarray .int, 2) := by decide +kernel
theorem dX11_init_17 : decode cX11_init 17 = .ok (.putfield 13, 3) := by decide +kernel
theorem dX11_init_20 : decode cX11_init 20 = .ok (.aload_n 0, 1) := by decide +kernel
theorem dX11_init_21 : decode cX11_init 21 = .ok (.bipush 8, 2) := by decide +kernel
theorem dX11_init_23 : decode cX11_init 23 = .ok (.sipush 160, 3) := by decide +kernel
theorem dX11_init_26 : decode cX11_init 26 = .ok (.multianewarray 16 2, 4) := by decide +kernel
theorem dX11_init_30 : decode cX11_init 30 = .ok (.putfield 18, 3) := by decide +kernel
theorem dX11_init_33 : decode cX11_init 33 = .ok (.aload_n 0, 1) := by decide +kernel
theorem dX11_init_34 : decode cX11_init 34 = .ok (.bipush 8, 2) := by decide +kernel
theorem dX11_init_36 : decode cX11_init 36 = .ok (.newarray .int, 2) := by decide +kernel
theorem dX11_init_38 : decode cX11_init 38 = .ok (.putfield 21, 3) := by decide +kernel
theorem dX11_init_41 : decode cX11_init 41 = .ok (.aload_n 0, 1) := by decide +kernel
theorem dX11_init_42 : decode cX11_init 42 = .ok (.iconst 0, 1) := by decide +kernel
theorem dX11_init_43 : decode cX11_init 43 = .ok (.putfield 24, 3) := by decide +kernel
theorem dX11_init_46 : decode cX11_init 46 = .ok (.aload_n 0, 1) := by decide +kernel
theorem dX11_init_47 : decode cX11_init 47 = .ok (.bipush 8, 2) := by decide +kernel
theorem dX11_init_49 : decode cX11_init 49 = .ok (.newarray .int, 2) := by decide +kernel
theorem dX11_init_51 : decode cX11_init 51 = .ok (.putfield 28, 3) := by decide +kernel
theorem dX11_init_54 : decode cX11_init 54 = .ok (.aload_n 0, 1) := by decide +kernel
theorem dX11_init_55 : decode cX11_init 55 = .ok (.sipush 256, 3) := by decide +kernel
theorem dX11_init_58 : decode cX11_init 58 = .ok (.newarray .int, 2) := by decide +kernel
theorem dX11_init_60 : decode cX11_init 60 = .ok (.putfield 31, 3) := by decide +kernel
theorem dX11_init_63 : decode cX11_init 63 = .ok (.aload_n 0, 1) := by decide +kernel
theorem dX11_init_64 : decode cX11_init 64 = .ok (.iconst 0, 1) := by decide +kernel
theorem dX11_init_65 : decode cX11_init 65 = .ok (.putfield 34, 3) := by decide +kernel
theorem dX11_init_68 : decode cX11_init 68 = .ok (.aload_n 0, 1) := by decide +kernel
theorem dX11_init_69 : decode cX11_init 69 = .ok (.new 38, 3) := by decide +kernel
theorem dX11_init_72 : decode cX11_init 72 = .ok (.dup, 1) := by decide +kernel
theorem dX11_init_73 : decode cX11_init 73 = .ok (.invokespecial 40, 3) := by decide +kernel
theorem dX11_init_76 : decode cX11_init 76 = .ok (.putfield 41, 3) := by decide +kernel
theorem dX11_init_79 : decode cX11_init 79 = .ok (.aload_n 0, 1) := by decide +kernel
theorem dX11_init_80 : decode cX11_init 80 = .ok (.iconst (-1), 1) := by decide +kernel
theorem dX11_init_81 : decode cX11_init 81 = .ok (.putfield 45, 3) := by decide +kernel
theorem dX11_init_84 : decode cX11_init 84 = .ok (.aload_n 0, 1) := by decide +kernel
theorem dX11_init_85 : decode cX11_init 85 = .ok (.new 48, 3) := by decide +kernel
theorem dX11_init_88 : decode cX11_init 88 = .ok (.dup, 1) := by decide +kernel
theorem dX11_init_89 : decode cX11_init 89 = .ok (.invokespecial 50, 3) := by decide +kernel
theorem dX11_init_92 : decode cX11_init 92 = .ok (.putfield 51, 3) := by decide +kernel
theorem dX11_init_95 : decode cX11_init 95 = .ok (.iconst 0, 1) := by decide +kernel
theorem dX11_init_96 : decode cX11_init 96 = .ok (.istore_n 1, 1) := by decide +kernel
theorem dX11_init_97 : decode cX11_init 97 = .ok (.iload_n 1, 1) := by decide +kernel
theorem dX11_init_98 : decode cX11_init 98 = .ok (.bipush 8, 2) := by decide +kernel
theorem dX11_init_100 : decode cX11_init 100 = .ok (.if_icmp .ge 16, 3) := by decide +kernel
theorem dX11_init_103 : decode cX11_init 103 = .ok (.aload_n 0, 1) := by decide +kernel
theorem dX11_init_104 : decode cX11_init 104 = .ok (.getfield 9, 3) := by decide +kernel
theorem dX11_init_107 : decode cX11_init 107 = .ok (.iload_n 1, 1) := by decide +kernel
theorem dX11_init_108 : decode cX11_init 108 = .ok (.iconst (-1), 1) := by decide +kernel
theorem dX11_init_109 : decode cX11_init 109 = .ok (.iastore, 1) := by decide +kernel
theorem dX11_init_110 : decode cX11_init 110 = .ok (.iinc 1 1, 3) := by decide +kernel
theorem dX11_init_113 : decode cX11_init 113 = .ok (.goto (-16), 3) := by decide +kernel
theorem dX11_init_116 : decode cX11_init 116 = .ok (.bipush 7, 2) := by decide +kernel
theorem dX11_init_118 : decode cX11_init 118 = .ok (.anewarray 55, 3) := by decide +kernel
theorem dX11_init_121 : decode cX11_init 121 = .ok (.astore_n 1, 1) := by decide +kernel
theorem dX11_init_122 : decode cX11_init 122 = .ok (.aload_n 1, 1) := by decide +kernel
theorem dX11_init_123 : decode cX11_init 123 = .ok (.iconst 0, 1) := by decide +kernel
theorem dX11_init_124 : decode cX11_init 124 = .ok (.new 55, 3) := by decide +kernel
theorem dX11_init_127 : decode cX11_init 127 = .ok (.dup, 1) := by decide +kernel
theorem dX11_init_128 : decode cX11_init 128 = .ok (.invokespecial 57, 3) := by decide +kernel
theorem dX11_init_131 : decode cX11_init 131 = .ok (.aastore, 1) := by decide +kernel
theorem dX11_init_132 : decode cX11_init 132 = .ok (.aload_n 1, 1) := by decide +kernel
theorem dX11_init_133 : decode cX11_init 133 = .ok (.iconst 1, 1) := by decide +kernel
theorem dX11_init_134 : decode cX11_init 134 = .ok (.new 58, 3) := by decide +kernel
theorem dX11_init_137 : decode cX11_init 137 = .ok (.dup, 1) := by decide +kernel
theorem dX11_init_138 : decode cX11_init 138 = .ok (.invokespecial 60, 3) := by decide +kernel
theorem dX11_init_141 : decode cX11_init 141 = .ok (.aastore, 1) := by decide +kernel
theorem dX11_init_142 : decode cX11_init 142 = .ok (.aload_n 1, 1) := by decide +kernel
theorem dX11_init_143 : decode cX11_init 143 = .ok (.iconst 2, 1) := by decide +kernel
theorem dX11_init_144 : decode cX11_init 144 = .ok (.new 61, 3) := by decide +kernel
theorem dX11_init_147 : decode cX11_init 147 = .ok (.dup, 1) := by decide +kernel
theorem dX11_init_148 : decode cX11_init 148 = .ok (.invokespecial 63, 3) := by decide +kernel
theorem dX11_init_151 : decode cX11_init 151 = .ok (.aastore, 1) := by decide +kernel
theorem dX11_init_152 : decode cX11_init 152 = .ok (.aload_n 1, 1) := by decide +kernel
theorem dX11_init_153 : decode cX11_init 153 = .ok (.iconst 3, 1) := by decide +kernel
theorem dX11_init_154 : decode cX11_init 154 = .ok (.new 64, 3) := by decide +kernel
theorem dX11_init_157 : decode cX11_init 157 = .ok (.dup, 1) := by decide +kernel
theorem dX11_init_158 : decode cX11_init 158 = .ok (.invokespecial 66, 3) := by decide +kernel
theorem dX11_init_161 : decode cX11_init 161 = .ok (.aastore, 1) := by decide +kernel
theorem dX11_init_162 : decode cX11_init 162 = .ok (.aload_n 1, 1) := by decide +kernel
theorem dX11_init_163 : decode cX11_init 163 = .ok (.iconst 4, 1) := by decide +kernel
theorem dX11_init_164 : decode cX11_init 164 = .ok (.new 67, 3) := by decide +kernel
theorem dX11_init_167 : decode cX11_init 167 = .ok (.dup, 1) := by decide +kernel
theorem dX11_init_168 : decode cX11_init 168 = .ok (.invokespecial 69, 3) := by decide +kernel
theorem dX11_init_171 : decode cX11_init 171 = .ok (.aastore, 1) := by decide +kernel
theorem dX11_init_172 : decode cX11_init 172 = .ok (.aload_n 1, 1) := by decide +kernel
theorem dX11_init_173 : decode cX11_init 173 = .ok (.iconst 5, 1) := by decide +kernel
theorem dX11_init_174 : decode cX11_init 174 = .ok (.new 70, 3) := by decide +kernel
theorem dX11_init_177 : decode cX11_init 177 = .ok (.dup, 1) := by decide +kernel
theorem dX11_init_178 : decode cX11_init 178 = .ok (.invokespecial 72, 3) := by decide +kernel
theorem dX11_init_181 : decode cX11_init 181 = .ok (.aastore, 1) := by decide +kernel
theorem dX11_init_182 : decode cX11_init 182 = .ok (.aload_n 1, 1) := by decide +kernel
theorem dX11_init_183 : decode cX11_init 183 = .ok (.bipush 6, 2) := by decide +kernel
theorem dX11_init_185 : decode cX11_init 185 = .ok (.new 73, 3) := by decide +kernel
theorem dX11_init_188 : decode cX11_init 188 = .ok (.dup, 1) := by decide +kernel
theorem dX11_init_189 : decode cX11_init 189 = .ok (.invokespecial 75, 3) := by decide +kernel
theorem dX11_init_192 : decode cX11_init 192 = .ok (.aastore, 1) := by decide +kernel
theorem dX11_init_193 : decode cX11_init 193 = .ok (.aload_n 0, 1) := by decide +kernel
theorem dX11_init_194 : decode cX11_init 194 = .ok (.new 76, 3) := by decide +kernel
theorem dX11_init_197 : decode cX11_init 197 = .ok (.dup, 1) := by decide +kernel
theorem dX11_init_198 : decode cX11_init 198 = .ok (.aload_n 1, 1) := by decide +kernel
theorem dX11_init_199 : decode cX11_init 199 = .ok (.invokespecial 78, 3) := by decide +kernel
theorem dX11_init_202 : decode cX11_init 202 = .ok (.putfield 81, 3) := by decide +kernel
theorem dX11_init_205 : decode cX11_init 205 = .ok (.aload_n 0, 1) := by decide +kernel
theorem dX11_init_206 : decode cX11_init 206 = .ok (.new 76, 3) := by decide +kernel
theorem dX11_init_209 : decode cX11_init 209 = .ok (.dup, 1) := by decide +kernel
theorem dX11_init_210 : decode cX11_init 210 = .ok (.aload_n 1, 1) := by decide +kernel
theorem dX11_init_211 : decode cX11_init 211 = .ok (.invokespecial 78, 3) := by decide +kernel
theorem dX11_init_214 : decode cX11_init 214 = .ok (.putfield 85, 3) := by decide +kernel
theorem dX11_init_217 : decode cX11_init 217 = .ok (.aload_n 0, 1) := by decide +kernel
theorem dX11_init_218 : decode cX11_init 218 = .ok (.new 76, 3) := by decide +kernel
theorem dX11_init_221 : decode cX11_init 221 = .ok (.dup, 1) := by decide +kernel
theorem dX11_init_222 : decode cX11_init 222 = .ok (.aload_n 1, 1) := by decide +kernel
theorem dX11_init_223 : decode cX11_init 223 = .ok (.invokespecial 78, 3) := by decide +kernel
theorem dX11_init_226 : decode cX11_init 226 = .ok (.putfield 88, 3) := by decide +kernel
theorem dX11_init_229 : decode cX11_init 229 = .ok (.return_, 1) := by decide +kernel
theorem dX11_row_0 : decode cX11_row 0 = .ok (.iload_n 1, 1) := by decide +kernel
theorem dX11_row_1 : decode cX11_row 1 = .ok (.bipush 8, 2) := by decide +kernel
theorem dX11_row_3 : decode cX11_row 3 = .ok (.invokestatic 91, 3) := by decide +kernel
theorem dX11_row_6 : decode cX11_row 6 = .ok (.ifCond .eq 9, 3) := by decide +kernel
theorem dX11_row_9 : decode cX11_row 9 = .ok (.aload_n 0, 1) := by decide +kernel
theorem dX11_row_10 : decode cX11_row 10 = .ok (.iconst 1, 1) := by decide +kernel
theorem dX11_row_11 : decode cX11_row 11 = .ok (.invokevirtual 95, 3) := by decide +kernel
theorem dX11_row_14 : decode cX11_row 14 = .ok (.ireturn, 1) := by decide +kernel
theorem dX11_row_15 : decode cX11_row 15 = .ok (.iload_n 3, 1) := by decide +kernel
theorem dX11_row_16 : decode cX11_row 16 = .ok (.ifCond .ge 9, 3) := by decide +kernel
theorem dX11_row_19 : decode cX11_row 19 = .ok (.aload_n 0, 1) := by decide +kernel
theorem dX11_row_20 : decode cX11_row 20 = .ok (.iconst 4, 1) := by decide +kernel
theorem dX11_row_21 : decode cX11_row 21 = .ok (.invokevirtual 95, 3) := by decide +kernel
theorem dX11_row_24 : decode cX11_row 24 = .ok (.ireturn, 1) := by decide +kernel
theorem dX11_row_25 : decode cX11_row 25 = .ok (.iload_n 2, 1) := by decide +kernel
theorem dX11_row_26 : decode cX11_row 26 = .ok (.iconst 4, 1) := by decide +kernel
theorem dX11_row_27 : decode cX11_row 27 = .ok (.invokestatic 91, 3) := by decide +kernel
theorem dX11_row_30 : decode cX11_row 30 = .ok (.ifCond .eq 10, 3) := by decide +kernel
theorem dX11_row_33 : decode cX11_row 33 = .ok (.aload_n 0, 1) := by decide +kernel
theorem dX11_row_34 : decode cX11_row 34 = .ok (.bipush 6, 2) := by decide +kernel
theorem dX11_row_36 : decode cX11_row 36 = .ok (.invokevirtual 95, 3) := by decide +kernel
theorem dX11_row_39 : decode cX11_row 39 = .ok (.ireturn, 1) := by decide +kernel
theorem dX11_row_40 : decode cX11_row 40 = .ok (.iload_n 3, 1) := by decide +kernel
theorem dX11_row_41 : decode cX11_row 41 = .ok (.sipush 160, 3) := by decide +kernel
theorem dX11_row_44 : decode cX11_row 44 = .ok (.if_icmp .le 10, 3) := by decide +kernel
theorem dX11_row_47 : decode cX11_row 47 = .ok (.aload_n 0, 1) := by decide +kernel
theorem dX11_row_48 : decode cX11_row 48 = .ok (.bipush 7, 2) := by decide +kernel
theorem dX11_row_50 : decode cX11_row 50 = .ok (.invokevirtual 95, 3) := by decide +kernel
theorem dX11_row_53 : decode cX11_row 53 = .ok (.ireturn, 1) := by decide +kernel
theorem dX11_row_54 : decode cX11_row 54 = .ok (.aload_n 0, 1) := by decide +kernel
theorem dX11_row_55 : decode cX11_row 55 = .ok (.getfield 9, 3) := by decide +kernel
theorem dX11_row_58 : decode cX11_row 58 = .ok (.iload_n 1, 1) := by decide +kernel
theorem dX11_row_59 : decode cX11_row 59 = .ok (.bipush 100, 2) := by decide +kernel
theorem dX11_row_61 : decode cX11_row 61 = .ok (.iload_n 2, 1) := by decide +kernel
theorem dX11_row_62 : decode cX11_row 62 = .ok (.iadd, 1) := by decide +kernel
theorem dX11_row_63 : decode cX11_row 63 = .ok (.iastore, 1) := by decide +kernel
theorem dX11_row_64 : decode cX11_row 64 = .ok (.aload_n 0, 1) := by decide +kernel
theorem dX11_row_65 : decode cX11_row 65 = .ok (.getfield 13, 3) := by decide +kernel
theorem dX11_row_68 : decode cX11_row 68 = .ok (.iload_n 1, 1) := by decide +kernel
theorem dX11_row_69 : decode cX11_row 69 = .ok (.iload_n 3, 1) := by decide +kernel
theorem dX11_row_70 : decode cX11_row 70 = .ok (.iastore, 1) := by decide +kernel
theorem dX11_row_71 : decode cX11_row 71 = .ok (.iconst 0, 1) := by decide +kernel
theorem dX11_row_72 : decode cX11_row 72 = .ok (.istore 4, 2) := by decide +kernel
theorem dX11_row_74 : decode cX11_row 74 = .ok (.iload 4, 2) := by decide +kernel
theorem dX11_row_76 : decode cX11_row 76 = .ok (.iload_n 3, 1) := by decide +kernel
theorem dX11_row_77 : decode cX11_row 77 = .ok (.if_icmp .ge 19, 3) := by decide +kernel
theorem dX11_row_80 : decode cX11_row 80 = .ok (.aload_n 0, 1) := by decide +kernel
theorem dX11_row_81 : decode cX11_row 81 = .ok (.getfield 18, 3) := by decide +kernel
theorem dX11_row_84 : decode cX11_row 84 = .ok (.iload_n 1, 1) := by decide +kernel
theorem dX11_row_85 : decode cX11_row 85 = .ok (.aaload, 1) := by decide +kernel
theorem dX11_row_86 : decode cX11_row 86 = .ok (.iload 4, 2) := by decide +kernel
theorem dX11_row_88 : decode cX11_row 88 = .ok (.lconst 0, 1) := by decide +kernel
theorem dX11_row_89 : decode cX11_row 89 = .ok (.lastore, 1) := by decide +kernel
theorem dX11_row_90 : decode cX11_row 90 = .ok (.iinc 4 1, 3) := by decide +kernel
theorem dX11_row_93 : decode cX11_row 93 = .ok (.goto (-19), 3) := by decide +kernel
theorem dX11_row_96 : decode cX11_row 96 = .ok (.iconst 1, 1) := by decide +kernel
theorem dX11_row_97 : decode cX11_row 97 = .ok (.ireturn, 1) := by decide +kernel
theorem dX11_set_0 : decode cX11_set 0 = .ok (.aload_n 0, 1) := by decide +kernel
theorem dX11_set_1 : decode cX11_set 1 = .ok (.iload_n 1, 1) := by decide +kernel
theorem dX11_set_2 : decode cX11_set 2 = .ok (.invokevirtual 99, 3) := by decide +kernel
theorem dX11_set_5 : decode cX11_set 5 = .ok (.istore 5, 2) := by decide +kernel
theorem dX11_set_7 : decode cX11_set 7 = .ok (.iload 5, 2) := by decide +kernel
theorem dX11_set_9 : decode cX11_set 9 = .ok (.ifCond .eq 10, 3) := by decide +kernel
theorem dX11_set_12 : decode cX11_set 12 = .ok (.aload_n 0, 1) := by decide +kernel
theorem dX11_set_13 : decode cX11_set 13 = .ok (.iload 5, 2) := by decide +kernel
theorem dX11_set_15 : decode cX11_set 15 = .ok (.invokevirtual 95, 3) := by decide +kernel
theorem dX11_set_18 : decode cX11_set 18 = .ok (.ireturn, 1) := by decide +kernel
theorem dX11_set_19 : decode cX11_set 19 = .ok (.iload_n 2, 1) := by decide +kernel
theorem dX11_set_20 : decode cX11_set 20 = .ok (.aload_n 0, 1) := by decide +kernel
theorem dX11_set_21 : decode cX11_set 21 = .ok (.getfield 13, 3) := by decide +kernel
theorem dX11_set_24 : decode cX11_set 24 = .ok (.iload_n 1, 1) := by decide +kernel
theorem dX11_set_25 : decode cX11_set 25 = .ok (.iaload, 1) := by decide +kernel
theorem dX11_set_26 : decode cX11_set 26 = .ok (.invokestatic 91, 3) := by decide +kernel
theorem dX11_set_29 : decode cX11_set 29 = .ok (.ifCond .eq 9, 3) := by decide +kernel
theorem dX11_set_32 : decode cX11_set 32 = .ok (.aload_n 0, 1) := by decide +kernel
theorem dX11_set_33 : decode cX11_set 33 = .ok (.iconst 5, 1) := by decide +kernel
theorem dX11_set_34 : decode cX11_set 34 = .ok (.invokevirtual 95, 3) := by decide +kernel
theorem dX11_set_37 : decode cX11_set 37 = .ok (.ireturn, 1) := by decide +kernel
theorem dX11_set_38 : decode cX11_set 38 = .ok (.aload_n 0, 1) := by decide +kernel
theorem dX11_set_39 : decode cX11_set 39 = .ok (.getfield 18, 3) := by decide +kernel
theorem dX11_set_42 : decode cX11_set 42 = .ok (.iload_n 1, 1) := by decide +kernel
theorem dX11_set_43 : decode cX11_set 43 = .ok (.aaload, 1) := by decide +kernel
theorem dX11_set_44 : decode cX11_set 44 = .ok (.iload_n 2, 1) := by decide +kernel
theorem dX11_set_45 : decode cX11_set 45 = .ok (.aload_n 0, 1) := by decide +kernel
theorem dX11_set_46 : decode cX11_set 46 = .ok (.getfield 9, 3) := by decide +kernel
theorem dX11_set_49 : decode cX11_set 49 = .ok (.iload_n 1, 1) := by decide +kernel
theorem dX11_set_50 : decode cX11_set 50 = .ok (.iaload, 1) := by decide +kernel
theorem dX11_set_51 : decode cX11_set 51 = .ok (.bipush 100, 2) := by decide +kernel
theorem dX11_set_53 : decode cX11_set 53 = .ok (.isub, 1) := by decide +kernel
theorem dX11_set_54 : decode cX11_set 54 = .ok (.lload_n 3, 1) := by decide +kernel
theorem dX11_set_55 : decode cX11_set 55 = .ok (.invokestatic 102, 3) := by decide +kernel
theorem dX11_set_58 : decode cX11_set 58 = .ok (.lastore, 1) := by decide +kernel
theorem dX11_set_59 : decode cX11_set 59 = .ok (.iconst 1, 1) := by decide +kernel
theorem dX11_set_60 : decode cX11_set 60 = .ok (.ireturn, 1) := by decide +kernel
theorem dX11_copy_0 : decode cX11_copy 0 = .ok (.iload_n 1, 1) := by decide +kernel
theorem dX11_copy_1 : decode cX11_copy 1 = .ok (.bipush 8, 2) := by decide +kernel
theorem dX11_copy_3 : decode cX11_copy 3 = .ok (.invokestatic 91, 3) := by decide +kernel
theorem dX11_copy_6 : decode cX11_copy 6 = .ok (.ifCond .ne 12, 3) := by decide +kernel
theorem dX11_copy_9 : decode cX11_copy 9 = .ok (.iload_n 2, 1) := by decide +kernel
theorem dX11_copy_10 : decode cX11_copy 10 = .ok (.bipush 8, 2) := by decide +kernel
theorem dX11_copy_12 : decode cX11_copy 12 = .ok (.invokestatic 91, 3) := by decide +kernel
theorem dX11_copy_15 : decode cX11_copy 15 = .ok (.ifCond .eq 9, 3) := by decide +kernel
theorem dX11_copy_18 : decode cX11_copy 18 = .ok (.aload_n 0, 1) := by decide +kernel
theorem dX11_copy_19 : decode cX11_copy 19 = .ok (.iconst 1, 1) := by decide +kernel
theorem dX11_copy_20 : decode cX11_copy 20 = .ok (.invokevirtual 95, 3) := by decide +kernel
theorem dX11_copy_23 : decode cX11_copy 23 = .ok (.ireturn, 1) := by decide +kernel
theorem dX11_copy_24 : decode cX11_copy 24 = .ok (.aload_n 0, 1) := by decide +kernel
theorem dX11_copy_25 : decode cX11_copy 25 = .ok (.iload_n 1, 1) := by decide +kernel
theorem dX11_copy_26 : decode cX11_copy 26 = .ok (.invokevirtual 106, 3) := by decide +kernel
theorem dX11_copy_29 : decode cX11_copy 29 = .ok (.ifCond .ne 42, 3) := by decide +kernel
theorem dX11_copy_32 : decode cX11_copy 32 = .ok (.aload_n 0, 1) := by decide +kernel
theorem dX11_copy_33 : decode cX11_copy 33 = .ok (.iload_n 2, 1) := by decide +kernel
theorem dX11_copy_34 : decode cX11_copy 34 = .ok (.invokevirtual 106, 3) := by decide +kernel
theorem dX11_copy_37 : decode cX11_copy 37 = .ok (.ifCond .ne 34, 3) := by decide +kernel
theorem dX11_copy_40 : decode cX11_copy 40 = .ok (.aload_n 0, 1) := by decide +kernel
theorem dX11_copy_41 : decode cX11_copy 41 = .ok (.iload_n 1, 1) := by decide +kernel
theorem dX11_copy_42 : decode cX11_copy 42 = .ok (.invokevirtual 110, 3) := by decide +kernel
theorem dX11_copy_45 : decode cX11_copy 45 = .ok (.ifCond .eq 32, 3) := by decide +kernel
theorem dX11_copy_48 : decode cX11_copy 48 = .ok (.aload_n 0, 1) := by decide +kernel
theorem dX11_copy_49 : decode cX11_copy 49 = .ok (.iload_n 2, 1) := by decide +kernel
theorem dX11_copy_50 : decode cX11_copy 50 = .ok (.invokevirtual 110, 3) := by decide +kernel
theorem dX11_copy_53 : decode cX11_copy 53 = .ok (.ifCond .eq 24, 3) := by decide +kernel
theorem dX11_copy_56 : decode cX11_copy 56 = .ok (.aload_n 0, 1) := by decide +kernel
theorem dX11_copy_57 : decode cX11_copy 57 = .ok (.getfield 9, 3) := by decide +kernel
theorem dX11_copy_60 : decode cX11_copy 60 = .ok (.iload_n 1, 1) := by decide +kernel
theorem dX11_copy_61 : decode cX11_copy 61 = .ok (.iaload, 1) := by decide +kernel
theorem dX11_copy_62 : decode cX11_copy 62 = .ok (.aload_n 0, 1) := by decide +kernel
theorem dX11_copy_63 : decode cX11_copy 63 = .ok (.getfield 9, 3) := by decide +kernel
theorem dX11_copy_66 : decode cX11_copy 66 = .ok (.iload_n 2, 1) := by decide +kernel
theorem dX11_copy_67 : decode cX11_copy 67 = .ok (.iaload, 1) := by decide +kernel
theorem dX11_copy_68 : decode cX11_copy 68 = .ok (.if_icmp .eq 9, 3) := by decide +kernel
theorem dX11_copy_71 : decode cX11_copy 71 = .ok (.aload_n 0, 1) := by decide +kernel
theorem dX11_copy_72 : decode cX11_copy 72 = .ok (.iconst 2, 1) := by decide +kernel
theorem dX11_copy_73 : decode cX11_copy 73 = .ok (.invokevirtual 95, 3) := by decide +kernel
theorem dX11_copy_76 : decode cX11_copy 76 = .ok (.ireturn, 1) := by decide +kernel
theorem dX11_copy_77 : decode cX11_copy 77 = .ok (.aload_n 0, 1) := by decide +kernel
theorem dX11_copy_78 : decode cX11_copy 78 = .ok (.iload_n 1, 1) := by decide +kernel
theorem dX11_copy_79 : decode cX11_copy 79 = .ok (.invokevirtual 110, 3) := by decide +kernel
theorem dX11_copy_82 : decode cX11_copy 82 = .ok (.ifCond .eq 11, 3) := by decide +kernel
theorem dX11_copy_85 : decode cX11_copy 85 = .ok (.aload_n 0, 1) := by decide +kernel
theorem dX11_copy_86 : decode cX11_copy 86 = .ok (.iload_n 2, 1) := by decide +kernel
theorem dX11_copy_87 : decode cX11_copy 87 = .ok (.invokevirtual 110, 3) := by decide +kernel
theorem dX11_copy_90 : decode cX11_copy 90 = .ok (.ifCond .ne 9, 3) := by decide +kernel
theorem dX11_copy_93 : decode cX11_copy 93 = .ok (.aload_n 0, 1) := by decide +kernel
theorem dX11_copy_94 : decode cX11_copy 94 = .ok (.iconst 3, 1) := by decide +kernel
theorem dX11_copy_95 : decode cX11_copy 95 = .ok (.invokevirtual 95, 3) := by decide +kernel
theorem dX11_copy_98 : decode cX11_copy 98 = .ok (.ireturn, 1) := by decide +kernel
theorem dX11_copy_99 : decode cX11_copy 99 = .ok (.iload 5, 2) := by decide +kernel
theorem dX11_copy_101 : decode cX11_copy 101 = .ok (.ifCond .ge 9, 3) := by decide +kernel
theorem dX11_copy_104 : decode cX11_copy 104 = .ok (.aload_n 0, 1) := by decide +kernel
theorem dX11_copy_105 : decode cX11_copy 105 = .ok (.iconst 4, 1) := by decide +kernel
theorem dX11_copy_106 : decode cX11_copy 106 = .ok (.invokevirtual 95, 3) := by decide +kernel
theorem dX11_copy_109 : decode cX11_copy 109 = .ok (.ireturn, 1) := by decide +kernel
theorem dX11_copy_110 : decode cX11_copy 110 = .ok (.aload_n 0, 1) := by decide +kernel
theorem dX11_copy_111 : decode cX11_copy 111 = .ok (.iload_n 1, 1) := by decide +kernel
theorem dX11_copy_112 : decode cX11_copy 112 = .ok (.iload_n 3, 1) := by decide +kernel
theorem dX11_copy_113 : decode cX11_copy 113 = .ok (.iload 5, 2) := by decide +kernel
theorem dX11_copy_115 : decode cX11_copy 115 = .ok (.invokevirtual 113, 3) := by decide +kernel
theorem dX11_copy_118 : decode cX11_copy 118 = .ok (.ifCond .ne 15, 3) := by decide +kernel
theorem dX11_copy_121 : decode cX11_copy 121 = .ok (.aload_n 0, 1) := by decide +kernel
theorem dX11_copy_122 : decode cX11_copy 122 = .ok (.iload_n 2, 1) := by decide +kernel
theorem dX11_copy_123 : decode cX11_copy 123 = .ok (.iload 4, 2) := by decide +kernel
theorem dX11_copy_125 : decode cX11_copy 125 = .ok (.iload 5, 2) := by decide +kernel
theorem dX11_copy_127 : decode cX11_copy 127 = .ok (.invokevirtual 113, 3) := by decide +kernel
theorem dX11_copy_130 : decode cX11_copy 130 = .ok (.ifCond .eq 9, 3) := by decide +kernel
theorem dX11_copy_133 : decode cX11_copy 133 = .ok (.aload_n 0, 1) := by decide +kernel
theorem dX11_copy_134 : decode cX11_copy 134 = .ok (.iconst 5, 1) := by decide +kernel
theorem dX11_copy_135 : decode cX11_copy 135 = .ok (.invokevirtual 95, 3) := by decide +kernel
theorem dX11_copy_138 : decode cX11_copy 138 = .ok (.ireturn, 1) := by decide +kernel
theorem dX11_copy_139 : decode cX11_copy 139 = .ok (.aload_n 0, 1) := by decide +kernel
theorem dX11_copy_140 : decode cX11_copy 140 = .ok (.getfield 18, 3) := by decide +kernel
theorem dX11_copy_143 : decode cX11_copy 143 = .ok (.iload_n 1, 1) := by decide +kernel
theorem dX11_copy_144 : decode cX11_copy 144 = .ok (.aaload, 1) := by decide +kernel
theorem dX11_copy_145 : decode cX11_copy 145 = .ok (.iload_n 3, 1) := by decide +kernel
theorem dX11_copy_146 : decode cX11_copy 146 = .ok (.aload_n 0, 1) := by decide +kernel
theorem dX11_copy_147 : decode cX11_copy 147 = .ok (.getfield 18, 3) := by decide +kernel
theorem dX11_copy_150 : decode cX11_copy 150 = .ok (.iload_n 2, 1) := by decide +kernel
theorem dX11_copy_151 : decode cX11_copy 151 = .ok (.aaload, 1) := by decide +kernel
theorem dX11_copy_152 : decode cX11_copy 152 = .ok (.iload 4, 2) := by decide +kernel
theorem dX11_copy_154 : decode cX11_copy 154 = .ok (.iload 5, 2) := by decide +kernel
theorem dX11_copy_156 : decode cX11_copy 156 = .ok (.invokestatic 117, 3) := by decide +kernel
theorem dX11_copy_159 : decode cX11_copy 159 = .ok (.iconst 1, 1) := by decide +kernel
theorem dX11_copy_160 : decode cX11_copy 160 = .ok (.ireturn, 1) := by decide +kernel
theorem dX11_element_0 : decode cX11_element 0 = .ok (.aload_n 0, 1) := by decide +kernel
theorem dX11_element_1 : decode cX11_element 1 = .ok (.iload_n 1, 1) := by decide +kernel
theorem dX11_element_2 : decode cX11_element 2 = .ok (.invokevirtual 99, 3) := by decide +kernel
theorem dX11_element_5 : decode cX11_element 5 = .ok (.ifCond .ne 16, 3) := by decide +kernel
theorem dX11_element_8 : decode cX11_element 8 = .ok (.iload_n 2, 1) := by decide +kernel
theorem dX11_element_9 : decode cX11_element 9 = .ok (.aload_n 0, 1) := by decide +kernel
theorem dX11_element_10 : decode cX11_element 10 = .ok (.getfield 13, 3) := by decide +kernel
theorem dX11_element_13 : decode cX11_element 13 = .ok (.iload_n 1, 1) := by decide +kernel
theorem dX11_element_14 : decode cX11_element 14 = .ok (.iaload, 1) := by decide +kernel
theorem dX11_element_15 : decode cX11_element 15 = .ok (.invokestatic 91, 3) := by decide +kernel
theorem dX11_element_18 : decode cX11_element 18 = .ok (.ifCond .eq 5, 3) := by decide +kernel
theorem dX11_element_21 : decode cX11_element 21 = .ok (.lconst 0, 1) := by decide +kernel
theorem dX11_element_22 : decode cX11_element 22 = .ok (.lreturn, 1) := by decide +kernel
theorem dX11_element_23 : decode cX11_element 23 = .ok (.aload_n 0, 1) := by decide +kernel
theorem dX11_element_24 : decode cX11_element 24 = .ok (.getfield 18, 3) := by decide +kernel
theorem dX11_element_27 : decode cX11_element 27 = .ok (.iload_n 1, 1) := by decide +kernel
theorem dX11_element_28 : decode cX11_element 28 = .ok (.aaload, 1) := by decide +kernel
theorem dX11_element_29 : decode cX11_element 29 = .ok (.iload_n 2, 1) := by decide +kernel
theorem dX11_element_30 : decode cX11_element 30 = .ok (.laload, 1) := by decide +kernel
theorem dX11_element_31 : decode cX11_element 31 = .ok (.lreturn, 1) := by decide +kernel
theorem dX11_show_0 : decode cX11_show 0 = .ok (.iload_n 1, 1) := by decide +kernel
theorem dX11_show_1 : decode cX11_show 1 = .ok (.bipush 8, 2) := by decide +kernel
theorem dX11_show_3 : decode cX11_show 3 = .ok (.invokestatic 91, 3) := by decide +kernel
theorem dX11_show_6 : decode cX11_show 6 = .ok (.ifCond .ne 16, 3) := by decide +kernel
theorem dX11_show_9 : decode cX11_show 9 = .ok (.iload_n 2, 1) := by decide +kernel
theorem dX11_show_10 : decode cX11_show 10 = .ok (.iconst (-1), 1) := by decide +kernel
theorem dX11_show_11 : decode cX11_show 11 = .ok (.if_icmp .eq 17, 3) := by decide +kernel
theorem dX11_show_14 : decode cX11_show 14 = .ok (.aload_n 0, 1) := by decide +kernel
theorem dX11_show_15 : decode cX11_show 15 = .ok (.iload_n 2, 1) := by decide +kernel
theorem dX11_show_16 : decode cX11_show 16 = .ok (.invokevirtual 123, 3) := by decide +kernel
theorem dX11_show_19 : decode cX11_show 19 = .ok (.ifCond .eq 9, 3) := by decide +kernel
theorem dX11_show_22 : decode cX11_show 22 = .ok (.aload_n 0, 1) := by decide +kernel
theorem dX11_show_23 : decode cX11_show 23 = .ok (.iconst 1, 1) := by decide +kernel
theorem dX11_show_24 : decode cX11_show 24 = .ok (.invokevirtual 95, 3) := by decide +kernel
theorem dX11_show_27 : decode cX11_show 27 = .ok (.ireturn, 1) := by decide +kernel
theorem dX11_show_28 : decode cX11_show 28 = .ok (.aload_n 0, 1) := by decide +kernel
theorem dX11_show_29 : decode cX11_show 29 = .ok (.getfield 9, 3) := by decide +kernel
theorem dX11_show_32 : decode cX11_show 32 = .ok (.iload_n 1, 1) := by decide +kernel
theorem dX11_show_33 : decode cX11_show 33 = .ok (.iload_n 2, 1) := by decide +kernel
theorem dX11_show_34 : decode cX11_show 34 = .ok (.iastore, 1) := by decide +kernel
theorem dX11_show_35 : decode cX11_show 35 = .ok (.iload_n 2, 1) := by decide +kernel
theorem dX11_show_36 : decode cX11_show 36 = .ok (.iconst (-1), 1) := by decide +kernel
theorem dX11_show_37 : decode cX11_show 37 = .ok (.if_icmp .ne 7, 3) := by decide +kernel
theorem dX11_show_40 : decode cX11_show 40 = .ok (.iconst 0, 1) := by decide +kernel
theorem dX11_show_41 : decode cX11_show 41 = .ok (.goto 4, 3) := by decide +kernel
theorem dX11_show_44 : decode cX11_show 44 = .ok (.iconst 1, 1) := by decide +kernel
theorem dX11_show_45 : decode cX11_show 45 = .ok (.ireturn, 1) := by decide +kernel
theorem dX11_holds_0 : decode cX11_holds 0 = .ok (.iload_n 1, 1) := by decide +kernel
theorem dX11_holds_1 : decode cX11_holds 1 = .ok (.bipush 8, 2) := by decide +kernel
theorem dX11_holds_3 : decode cX11_holds 3 = .ok (.invokestatic 91, 3) := by decide +kernel
theorem dX11_holds_6 : decode cX11_holds 6 = .ok (.ifCond .eq 7, 3) := by decide +kernel
theorem dX11_holds_9 : decode cX11_holds 9 = .ok (.iconst (-1), 1) := by decide +kernel
theorem dX11_holds_10 : decode cX11_holds 10 = .ok (.goto 9, 3) := by decide +kernel
theorem dX11_holds_13 : decode cX11_holds 13 = .ok (.aload_n 0, 1) := by decide +kernel
theorem dX11_holds_14 : decode cX11_holds 14 = .ok (.getfield 9, 3) := by decide +kernel
theorem dX11_holds_17 : decode cX11_holds 17 = .ok (.iload_n 1, 1) := by decide +kernel
theorem dX11_holds_18 : decode cX11_holds 18 = .ok (.iaload, 1) := by decide +kernel
theorem dX11_holds_19 : decode cX11_holds 19 = .ok (.ireturn, 1) := by decide +kernel
theorem dX11_says_0 : decode cX11_says 0 = .ok (.iload_n 1, 1) := by decide +kernel
theorem dX11_says_1 : decode cX11_says 1 = .ok (.bipush 8, 2) := by decide +kernel
theorem dX11_says_3 : decode cX11_says 3 = .ok (.invokestatic 91, 3) := by decide +kernel
theorem dX11_says_6 : decode cX11_says 6 = .ok (.ifCond .ne 12, 3) := by decide +kernel
theorem dX11_says_9 : decode cX11_says 9 = .ok (.iload_n 2, 1) := by decide +kernel
theorem dX11_says_10 : decode cX11_says 10 = .ok (.bipush 7, 2) := by decide +kernel
theorem dX11_says_12 : decode cX11_says 12 = .ok (.invokestatic 91, 3) := by decide +kernel
theorem dX11_says_15 : decode cX11_says 15 = .ok (.ifCond .eq 9, 3) := by decide +kernel
theorem dX11_says_18 : decode cX11_says 18 = .ok (.aload_n 0, 1) := by decide +kernel
theorem dX11_says_19 : decode cX11_says 19 = .ok (.iconst 1, 1) := by decide +kernel
theorem dX11_says_20 : decode cX11_says 20 = .ok (.invokevirtual 95, 3) := by decide +kernel
theorem dX11_says_23 : decode cX11_says 23 = .ok (.ireturn, 1) := by decide +kernel
theorem dX11_says_24 : decode cX11_says 24 = .ok (.aload_n 0, 1) := by decide +kernel
theorem dX11_says_25 : decode cX11_says 25 = .ok (.iload_n 1, 1) := by decide +kernel
theorem dX11_says_26 : decode cX11_says 26 = .ok (.invokevirtual 110, 3) := by decide +kernel
theorem dX11_says_29 : decode cX11_says 29 = .ok (.ifCond .eq 9, 3) := by decide +kernel
theorem dX11_says_32 : decode cX11_says 32 = .ok (.aload_n 0, 1) := by decide +kernel
theorem dX11_says_33 : decode cX11_says 33 = .ok (.iconst 2, 1) := by decide +kernel
theorem dX11_says_34 : decode cX11_says 34 = .ok (.invokevirtual 95, 3) := by decide +kernel
theorem dX11_says_37 : decode cX11_says 37 = .ok (.ireturn, 1) := by decide +kernel
theorem dX11_says_38 : decode cX11_says 38 = .ok (.aload_n 0, 1) := by decide +kernel
theorem dX11_says_39 : decode cX11_says 39 = .ok (.iload_n 1, 1) := by decide +kernel
theorem dX11_says_40 : decode cX11_says 40 = .ok (.invokevirtual 106, 3) := by decide +kernel
theorem dX11_says_43 : decode cX11_says 43 = .ok (.ifCond .ne 9, 3) := by decide +kernel
theorem dX11_says_46 : decode cX11_says 46 = .ok (.aload_n 0, 1) := by decide +kernel
theorem dX11_says_47 : decode cX11_says 47 = .ok (.iconst 3, 1) := by decide +kernel
theorem dX11_says_48 : decode cX11_says 48 = .ok (.invokevirtual 95, 3) := by decide +kernel
theorem dX11_says_51 : decode cX11_says 51 = .ok (.ireturn, 1) := by decide +kernel
theorem dX11_says_52 : decode cX11_says 52 = .ok (.aload_n 0, 1) := by decide +kernel
theorem dX11_says_53 : decode cX11_says 53 = .ok (.getfield 81, 3) := by decide +kernel
theorem dX11_says_56 : decode cX11_says 56 = .ok (.getfield 126, 3) := by decide +kernel
theorem dX11_says_59 : decode cX11_says 59 = .ok (.aload_n 0, 1) := by decide +kernel
theorem dX11_says_60 : decode cX11_says 60 = .ok (.getfield 9, 3) := by decide +kernel
theorem dX11_says_63 : decode cX11_says 63 = .ok (.iload_n 1, 1) := by decide +kernel
theorem dX11_says_64 : decode cX11_says 64 = .ok (.iaload, 1) := by decide +kernel
theorem dX11_says_65 : decode cX11_says 65 = .ok (.aaload, 1) := by decide +kernel
theorem dX11_says_66 : decode cX11_says 66 = .ok (.astore_n 3, 1) := by decide +kernel
theorem dX11_says_67 : decode cX11_says 67 = .ok (.aload_n 3, 1) := by decide +kernel
theorem dX11_says_68 : decode cX11_says 68 = .ok (.getfield 130, 3) := by decide +kernel
theorem dX11_says_71 : decode cX11_says 71 = .ok (.iload_n 2, 1) := by decide +kernel
theorem dX11_says_72 : decode cX11_says 72 = .ok (.invokestatic 136, 3) := by decide +kernel
theorem dX11_says_75 : decode cX11_says 75 = .ok (.ifCond .ne 9, 3) := by decide +kernel
theorem dX11_says_78 : decode cX11_says 78 = .ok (.aload_n 0, 1) := by decide +kernel
theorem dX11_says_79 : decode cX11_says 79 = .ok (.iconst 2, 1) := by decide +kernel
theorem dX11_says_80 : decode cX11_says 80 = .ok (.invokevirtual 95, 3) := by decide +kernel
theorem dX11_says_83 : decode cX11_says 83 = .ok (.ireturn, 1) := by decide +kernel
theorem dX11_says_84 : decode cX11_says 84 = .ok (.aload_n 0, 1) := by decide +kernel
theorem dX11_says_85 : decode cX11_says 85 = .ok (.aload_n 3, 1) := by decide +kernel
theorem dX11_says_86 : decode cX11_says 86 = .ok (.iload_n 2, 1) := by decide +kernel
theorem dX11_says_87 : decode cX11_says 87 = .ok (.invokevirtual 140, 3) := by decide +kernel
theorem dX11_says_90 : decode cX11_says 90 = .ok (.ireturn, 1) := by decide +kernel
theorem dX11_house_0 : decode cX11_house 0 = .ok (.iload_n 1, 1) := by decide +kernel
theorem dX11_house_1 : decode cX11_house 1 = .ok (.bipush 7, 2) := by decide +kernel
theorem dX11_house_3 : decode cX11_house 3 = .ok (.invokestatic 91, 3) := by decide +kernel
theorem dX11_house_6 : decode cX11_house 6 = .ok (.ifCond .eq 9, 3) := by decide +kernel
theorem dX11_house_9 : decode cX11_house 9 = .ok (.aload_n 0, 1) := by decide +kernel
theorem dX11_house_10 : decode cX11_house 10 = .ok (.iconst 1, 1) := by decide +kernel
theorem dX11_house_11 : decode cX11_house 11 = .ok (.invokevirtual 95, 3) := by decide +kernel
theorem dX11_house_14 : decode cX11_house 14 = .ok (.ireturn, 1) := by decide +kernel
theorem dX11_house_15 : decode cX11_house 15 = .ok (.iload_n 2, 1) := by decide +kernel
theorem dX11_house_16 : decode cX11_house 16 = .ok (.ifCond .lt 9, 3) := by decide +kernel
theorem dX11_house_19 : decode cX11_house 19 = .ok (.iload_n 2, 1) := by decide +kernel
theorem dX11_house_20 : decode cX11_house 20 = .ok (.bipush 9, 2) := by decide +kernel
theorem dX11_house_22 : decode cX11_house 22 = .ok (.if_icmp .le 10, 3) := by decide +kernel
theorem dX11_house_25 : decode cX11_house 25 = .ok (.aload_n 0, 1) := by decide +kernel
theorem dX11_house_26 : decode cX11_house 26 = .ok (.bipush 6, 2) := by decide +kernel
theorem dX11_house_28 : decode cX11_house 28 = .ok (.invokevirtual 95, 3) := by decide +kernel
theorem dX11_house_31 : decode cX11_house 31 = .ok (.ireturn, 1) := by decide +kernel
theorem dX11_house_32 : decode cX11_house 32 = .ok (.aload_n 0, 1) := by decide +kernel
theorem dX11_house_33 : decode cX11_house 33 = .ok (.getfield 81, 3) := by decide +kernel
theorem dX11_house_36 : decode cX11_house 36 = .ok (.getfield 144, 3) := by decide +kernel
theorem dX11_house_39 : decode cX11_house 39 = .ok (.bipush 6, 2) := by decide +kernel
theorem dX11_house_41 : decode cX11_house 41 = .ok (.if_icmp .lt 10, 3) := by decide +kernel
theorem dX11_house_44 : decode cX11_house 44 = .ok (.aload_n 0, 1) := by decide +kernel
theorem dX11_house_45 : decode cX11_house 45 = .ok (.bipush 7, 2) := by decide +kernel
theorem dX11_house_47 : decode cX11_house 47 = .ok (.invokevirtual 95, 3) := by decide +kernel
theorem dX11_house_50 : decode cX11_house 50 = .ok (.ireturn, 1) := by decide +kernel
theorem dX11_house_51 : decode cX11_house 51 = .ok (.aload_n 0, 1) := by decide +kernel
theorem dX11_house_52 : decode cX11_house 52 = .ok (.getfield 81, 3) := by decide +kernel
theorem dX11_house_55 : decode cX11_house 55 = .ok (.iload_n 1, 1) := by decide +kernel
theorem dX11_house_56 : decode cX11_house 56 = .ok (.iload_n 2, 1) := by decide +kernel
theorem dX11_house_57 : decode cX11_house 57 = .ok (.invokevirtual 147, 3) := by decide +kernel
theorem dX11_house_60 : decode cX11_house 60 = .ok (.ireturn, 1) := by decide +kernel
theorem dX11_houseOf_0 : decode cX11_houseOf 0 = .ok (.aload_n 0, 1) := by decide +kernel
theorem dX11_houseOf_1 : decode cX11_houseOf 1 = .ok (.iload_n 1, 1) := by decide +kernel
theorem dX11_houseOf_2 : decode cX11_houseOf 2 = .ok (.invokevirtual 123, 3) := by decide +kernel
theorem dX11_houseOf_5 : decode cX11_houseOf 5 = .ok (.ifCond .eq 9, 3) := by decide +kernel
theorem dX11_houseOf_8 : decode cX11_houseOf 8 = .ok (.aload_n 0, 1) := by decide +kernel
theorem dX11_houseOf_9 : decode cX11_houseOf 9 = .ok (.iconst 5, 1) := by decide +kernel
theorem dX11_houseOf_10 : decode cX11_houseOf 10 = .ok (.invokevirtual 95, 3) := by decide +kernel
theorem dX11_houseOf_13 : decode cX11_houseOf 13 = .ok (.ireturn, 1) := by decide +kernel
theorem dX11_houseOf_14 : decode cX11_houseOf 14 = .ok (.aload_n 0, 1) := by decide +kernel
theorem dX11_houseOf_15 : decode cX11_houseOf 15 = .ok (.getfield 81, 3) := by decide +kernel
theorem dX11_houseOf_18 : decode cX11_houseOf 18 = .ok (.getfield 126, 3) := by decide +kernel
theorem dX11_houseOf_21 : decode cX11_houseOf 21 = .ok (.iload_n 1, 1) := by decide +kernel
theorem dX11_houseOf_22 : decode cX11_houseOf 22 = .ok (.aaload, 1) := by decide +kernel
theorem dX11_houseOf_23 : decode cX11_houseOf 23 = .ok (.astore_n 3, 1) := by decide +kernel
theorem dX11_houseOf_24 : decode cX11_houseOf 24 = .ok (.iload_n 2, 1) := by decide +kernel
theorem dX11_houseOf_25 : decode cX11_houseOf 25 = .ok (.tableswitch 60 0 4 #[35, 40, 45, 50, 55], 35) := by decide +kernel
theorem dX11_houseOf_60 : decode cX11_houseOf 60 = .ok (.aload_n 3, 1) := by decide +kernel
theorem dX11_houseOf_61 : decode cX11_houseOf 61 = .ok (.getfield 151, 3) := by decide +kernel
theorem dX11_houseOf_64 : decode cX11_houseOf 64 = .ok (.ireturn, 1) := by decide +kernel
theorem dX11_houseOf_65 : decode cX11_houseOf 65 = .ok (.aload_n 3, 1) := by decide +kernel
theorem dX11_houseOf_66 : decode cX11_houseOf 66 = .ok (.getfield 154, 3) := by decide +kernel
theorem dX11_houseOf_69 : decode cX11_houseOf 69 = .ok (.ireturn, 1) := by decide +kernel
theorem dX11_houseOf_70 : decode cX11_houseOf 70 = .ok (.aload_n 3, 1) := by decide +kernel
theorem dX11_houseOf_71 : decode cX11_houseOf 71 = .ok (.getfield 157, 3) := by decide +kernel
theorem dX11_houseOf_74 : decode cX11_houseOf 74 = .ok (.ireturn, 1) := by decide +kernel
theorem dX11_houseOf_75 : decode cX11_houseOf 75 = .ok (.aload_n 3, 1) := by decide +kernel
theorem dX11_houseOf_76 : decode cX11_houseOf 76 = .ok (.invokevirtual 160, 3) := by decide +kernel
theorem dX11_houseOf_79 : decode cX11_houseOf 79 = .ok (.ireturn, 1) := by decide +kernel
theorem dX11_houseOf_80 : decode cX11_houseOf 80 = .ok (.aload_n 3, 1) := by decide +kernel
theorem dX11_houseOf_81 : decode cX11_houseOf 81 = .ok (.invokevirtual 164, 3) := by decide +kernel
theorem dX11_houseOf_84 : decode cX11_houseOf 84 = .ok (.ireturn, 1) := by decide +kernel
theorem dX11_houseOf_85 : decode cX11_houseOf 85 = .ok (.aload_n 0, 1) := by decide +kernel
theorem dX11_houseOf_86 : decode cX11_houseOf 86 = .ok (.iconst 5, 1) := by decide +kernel
theorem dX11_houseOf_87 : decode cX11_houseOf 87 = .ok (.invokevirtual 95, 3) := by decide +kernel
theorem dX11_houseOf_90 : decode cX11_houseOf 90 = .ok (.ireturn, 1) := by decide +kernel
theorem dX11_colour_0 : decode cX11_colour 0 = .ok (.iload_n 1, 1) := by decide +kernel
theorem dX11_colour_1 : decode cX11_colour 1 = .ok (.bipush 6, 2) := by decide +kernel
theorem dX11_colour_3 : decode cX11_colour 3 = .ok (.invokestatic 91, 3) := by decide +kernel
theorem dX11_colour_6 : decode cX11_colour 6 = .ok (.ifCond .eq 9, 3) := by decide +kernel
theorem dX11_colour_9 : decode cX11_colour 9 = .ok (.aload_n 0, 1) := by decide +kernel
theorem dX11_colour_10 : decode cX11_colour 10 = .ok (.iconst 1, 1) := by decide +kernel
theorem dX11_colour_11 : decode cX11_colour 11 = .ok (.invokevirtual 95, 3) := by decide +kernel
theorem dX11_colour_14 : decode cX11_colour 14 = .ok (.ireturn, 1) := by decide +kernel
theorem dX11_colour_15 : decode cX11_colour 15 = .ok (.iload_n 2, 1) := by decide +kernel
theorem dX11_colour_16 : decode cX11_colour 16 = .ok (.ifCond .eq 14, 3) := by decide +kernel
theorem dX11_colour_19 : decode cX11_colour 19 = .ok (.iload_n 2, 1) := by decide +kernel
theorem dX11_colour_20 : decode cX11_colour 20 = .ok (.iconst 1, 1) := by decide +kernel
theorem dX11_colour_21 : decode cX11_colour 21 = .ok (.if_icmp .eq 9, 3) := by decide +kernel
theorem dX11_colour_24 : decode cX11_colour 24 = .ok (.aload_n 0, 1) := by decide +kernel
theorem dX11_colour_25 : decode cX11_colour 25 = .ok (.iconst 5, 1) := by decide +kernel
theorem dX11_colour_26 : decode cX11_colour 26 = .ok (.invokevirtual 95, 3) := by decide +kernel
theorem dX11_colour_29 : decode cX11_colour 29 = .ok (.ireturn, 1) := by decide +kernel
theorem dX11_colour_30 : decode cX11_colour 30 = .ok (.iload_n 3, 1) := by decide +kernel
theorem dX11_colour_31 : decode cX11_colour 31 = .ok (.ifCond .lt 18, 3) := by decide +kernel
theorem dX11_colour_34 : decode cX11_colour 34 = .ok (.iload_n 3, 1) := by decide +kernel
theorem dX11_colour_35 : decode cX11_colour 35 = .ok (.iload_n 2, 1) := by decide +kernel
theorem dX11_colour_36 : decode cX11_colour 36 = .ok (.ifCond .ne 8, 3) := by decide +kernel
theorem dX11_colour_39 : decode cX11_colour 39 = .ok (.bipush 9, 2) := by decide +kernel
theorem dX11_colour_41 : decode cX11_colour 41 = .ok (.goto 5, 3) := by decide +kernel
theorem dX11_colour_44 : decode cX11_colour 44 = .ok (.bipush 99, 2) := by decide +kernel
theorem dX11_colour_46 : decode cX11_colour 46 = .ok (.if_icmp .le 10, 3) := by decide +kernel
theorem dX11_colour_49 : decode cX11_colour 49 = .ok (.aload_n 0, 1) := by decide +kernel
theorem dX11_colour_50 : decode cX11_colour 50 = .ok (.bipush 6, 2) := by decide +kernel
theorem dX11_colour_52 : decode cX11_colour 52 = .ok (.invokevirtual 95, 3) := by decide +kernel
theorem dX11_colour_55 : decode cX11_colour 55 = .ok (.ireturn, 1) := by decide +kernel
theorem dX11_colour_56 : decode cX11_colour 56 = .ok (.iload_n 2, 1) := by decide +kernel
theorem dX11_colour_57 : decode cX11_colour 57 = .ok (.ifCond .ne 13, 3) := by decide +kernel
theorem dX11_colour_60 : decode cX11_colour 60 = .ok (.aload_n 0, 1) := by decide +kernel
theorem dX11_colour_61 : decode cX11_colour 61 = .ok (.getfield 81, 3) := by decide +kernel
theorem dX11_colour_64 : decode cX11_colour 64 = .ok (.getfield 167, 3) := by decide +kernel
theorem dX11_colour_67 : decode cX11_colour 67 = .ok (.goto 10, 3) := by decide +kernel
theorem dX11_colour_70 : decode cX11_colour 70 = .ok (.aload_n 0, 1) := by decide +kernel
theorem dX11_colour_71 : decode cX11_colour 71 = .ok (.getfield 81, 3) := by decide +kernel
theorem dX11_colour_74 : decode cX11_colour 74 = .ok (.getfield 170, 3) := by decide +kernel
theorem dX11_colour_77 : decode cX11_colour 77 = .ok (.astore 4, 2) := by decide +kernel
theorem dX11_colour_79 : decode cX11_colour 79 = .ok (.aload 4, 2) := by decide +kernel
theorem dX11_colour_81 : decode cX11_colour 81 = .ok (.iload_n 1, 1) := by decide +kernel
theorem dX11_colour_82 : decode cX11_colour 82 = .ok (.iaload, 1) := by decide +kernel
theorem dX11_colour_83 : decode cX11_colour 83 = .ok (.istore 5, 2) := by decide +kernel
theorem dX11_colour_85 : decode cX11_colour 85 = .ok (.aload 4, 2) := by decide +kernel
theorem dX11_colour_87 : decode cX11_colour 87 = .ok (.iload_n 1, 1) := by decide +kernel
theorem dX11_colour_88 : decode cX11_colour 88 = .ok (.iload_n 3, 1) := by decide +kernel
theorem dX11_colour_89 : decode cX11_colour 89 = .ok (.iastore, 1) := by decide +kernel
theorem dX11_colour_90 : decode cX11_colour 90 = .ok (.iload 5, 2) := by decide +kernel
theorem dX11_colour_92 : decode cX11_colour 92 = .ok (.ireturn, 1) := by decide +kernel
theorem dX11_ask_0 : decode cX11_ask 0 = .ok (.iload_n 1, 1) := by decide +kernel
theorem dX11_ask_1 : decode cX11_ask 1 = .ok (.ifCond .ne 33, 3) := by decide +kernel
theorem dX11_ask_4 : decode cX11_ask 4 = .ok (.iload_n 2, 1) := by decide +kernel
theorem dX11_ask_5 : decode cX11_ask 5 = .ok (.iconst 1, 1) := by decide +kernel
theorem dX11_ask_6 : decode cX11_ask 6 = .ok (.if_icmp .lt 28, 3) := by decide +kernel
theorem dX11_ask_9 : decode cX11_ask 9 = .ok (.iload_n 2, 1) := by decide +kernel
theorem dX11_ask_10 : decode cX11_ask 10 = .ok (.sipush 999, 3) := by decide +kernel
theorem dX11_ask_13 : decode cX11_ask 13 = .ok (.if_icmp .gt 21, 3) := by decide +kernel
theorem dX11_ask_16 : decode cX11_ask 16 = .ok (.aload_n 0, 1) := by decide +kernel
theorem dX11_ask_17 : decode cX11_ask 17 = .ok (.getfield 81, 3) := by decide +kernel
theorem dX11_ask_20 : decode cX11_ask 20 = .ok (.getfield 173, 3) := by decide +kernel
theorem dX11_ask_23 : decode cX11_ask 23 = .ok (.istore_n 3, 1) := by decide +kernel
theorem dX11_ask_24 : decode cX11_ask 24 = .ok (.aload_n 0, 1) := by decide +kernel
theorem dX11_ask_25 : decode cX11_ask 25 = .ok (.getfield 81, 3) := by decide +kernel
theorem dX11_ask_28 : decode cX11_ask 28 = .ok (.iload_n 2, 1) := by decide +kernel
theorem dX11_ask_29 : decode cX11_ask 29 = .ok (.putfield 173, 3) := by decide +kernel
theorem dX11_ask_32 : decode cX11_ask 32 = .ok (.iload_n 3, 1) := by decide +kernel
theorem dX11_ask_33 : decode cX11_ask 33 = .ok (.ireturn, 1) := by decide +kernel
theorem dX11_ask_34 : decode cX11_ask 34 = .ok (.iload_n 1, 1) := by decide +kernel
theorem dX11_ask_35 : decode cX11_ask 35 = .ok (.iconst 1, 1) := by decide +kernel
theorem dX11_ask_36 : decode cX11_ask 36 = .ok (.if_icmp .ne 33, 3) := by decide +kernel
theorem dX11_ask_39 : decode cX11_ask 39 = .ok (.iload_n 2, 1) := by decide +kernel
theorem dX11_ask_40 : decode cX11_ask 40 = .ok (.bipush 10, 2) := by decide +kernel
theorem dX11_ask_42 : decode cX11_ask 42 = .ok (.if_icmp .lt 27, 3) := by decide +kernel
theorem dX11_ask_45 : decode cX11_ask 45 = .ok (.iload_n 2, 1) := by decide +kernel
theorem dX11_ask_46 : decode cX11_ask 46 = .ok (.bipush 99, 2) := by decide +kernel
theorem dX11_ask_48 : decode cX11_ask 48 = .ok (.if_icmp .gt 21, 3) := by decide +kernel
theorem dX11_ask_51 : decode cX11_ask 51 = .ok (.aload_n 0, 1) := by decide +kernel
theorem dX11_ask_52 : decode cX11_ask 52 = .ok (.getfield 81, 3) := by decide +kernel
theorem dX11_ask_55 : decode cX11_ask 55 = .ok (.getfield 176, 3) := by decide +kernel
theorem dX11_ask_58 : decode cX11_ask 58 = .ok (.istore_n 3, 1) := by decide +kernel
theorem dX11_ask_59 : decode cX11_ask 59 = .ok (.aload_n 0, 1) := by decide +kernel
theorem dX11_ask_60 : decode cX11_ask 60 = .ok (.getfield 81, 3) := by decide +kernel
theorem dX11_ask_63 : decode cX11_ask 63 = .ok (.iload_n 2, 1) := by decide +kernel
theorem dX11_ask_64 : decode cX11_ask 64 = .ok (.putfield 176, 3) := by decide +kernel
theorem dX11_ask_67 : decode cX11_ask 67 = .ok (.iload_n 3, 1) := by decide +kernel
theorem dX11_ask_68 : decode cX11_ask 68 = .ok (.ireturn, 1) := by decide +kernel
theorem dX11_ask_69 : decode cX11_ask 69 = .ok (.aload_n 0, 1) := by decide +kernel
theorem dX11_ask_70 : decode cX11_ask 70 = .ok (.bipush 6, 2) := by decide +kernel
theorem dX11_ask_72 : decode cX11_ask 72 = .ok (.invokevirtual 95, 3) := by decide +kernel
theorem dX11_ask_75 : decode cX11_ask 75 = .ok (.ireturn, 1) := by decide +kernel
theorem dX11_coat_0 : decode cX11_coat 0 = .ok (.aload_n 0, 1) := by decide +kernel
theorem dX11_coat_1 : decode cX11_coat 1 = .ok (.iload_n 1, 1) := by decide +kernel
theorem dX11_coat_2 : decode cX11_coat 2 = .ok (.invokevirtual 123, 3) := by decide +kernel
theorem dX11_coat_5 : decode cX11_coat 5 = .ok (.ifCond .ne 21, 3) := by decide +kernel
theorem dX11_coat_8 : decode cX11_coat 8 = .ok (.iload_n 2, 1) := by decide +kernel
theorem dX11_coat_9 : decode cX11_coat 9 = .ok (.bipush 8, 2) := by decide +kernel
theorem dX11_coat_11 : decode cX11_coat 11 = .ok (.invokestatic 91, 3) := by decide +kernel
theorem dX11_coat_14 : decode cX11_coat 14 = .ok (.ifCond .ne 12, 3) := by decide +kernel
theorem dX11_coat_17 : decode cX11_coat 17 = .ok (.iload_n 3, 1) := by decide +kernel
theorem dX11_coat_18 : decode cX11_coat 18 = .ok (.bipush 6, 2) := by decide +kernel
theorem dX11_coat_20 : decode cX11_coat 20 = .ok (.invokestatic 91, 3) := by decide +kernel
theorem dX11_coat_23 : decode cX11_coat 23 = .ok (.ifCond .eq 9, 3) := by decide +kernel
theorem dX11_coat_26 : decode cX11_coat 26 = .ok (.aload_n 0, 1) := by decide +kernel
theorem dX11_coat_27 : decode cX11_coat 27 = .ok (.iconst 1, 1) := by decide +kernel
theorem dX11_coat_28 : decode cX11_coat 28 = .ok (.invokevirtual 95, 3) := by decide +kernel
theorem dX11_coat_31 : decode cX11_coat 31 = .ok (.ireturn, 1) := by decide +kernel
theorem dX11_coat_32 : decode cX11_coat 32 = .ok (.iload 4, 2) := by decide +kernel
theorem dX11_coat_34 : decode cX11_coat 34 = .ok (.iconst 1, 1) := by decide +kernel
theorem dX11_coat_35 : decode cX11_coat 35 = .ok (.if_icmp .lt 20, 3) := by decide +kernel
theorem dX11_coat_38 : decode cX11_coat 38 = .ok (.iload 4, 2) := by decide +kernel
theorem dX11_coat_40 : decode cX11_coat 40 = .ok (.bipush 9, 2) := by decide +kernel
theorem dX11_coat_42 : decode cX11_coat 42 = .ok (.if_icmp .gt 13, 3) := by decide +kernel
theorem dX11_coat_45 : decode cX11_coat 45 = .ok (.iload 5, 2) := by decide +kernel
theorem dX11_coat_47 : decode cX11_coat 47 = .ok (.bipush 12, 2) := by decide +kernel
theorem dX11_coat_49 : decode cX11_coat 49 = .ok (.invokestatic 91, 3) := by decide +kernel
theorem dX11_coat_52 : decode cX11_coat 52 = .ok (.ifCond .eq 10, 3) := by decide +kernel
theorem dX11_coat_55 : decode cX11_coat 55 = .ok (.aload_n 0, 1) := by decide +kernel
theorem dX11_coat_56 : decode cX11_coat 56 = .ok (.bipush 6, 2) := by decide +kernel
theorem dX11_coat_58 : decode cX11_coat 58 = .ok (.invokevirtual 95, 3) := by decide +kernel
theorem dX11_coat_61 : decode cX11_coat 61 = .ok (.ireturn, 1) := by decide +kernel
theorem dX11_coat_62 : decode cX11_coat 62 = .ok (.aload_n 0, 1) := by decide +kernel
theorem dX11_coat_63 : decode cX11_coat 63 = .ok (.getfield 81, 3) := by decide +kernel
theorem dX11_coat_66 : decode cX11_coat 66 = .ok (.getfield 126, 3) := by decide +kernel
theorem dX11_coat_69 : decode cX11_coat 69 = .ok (.iload_n 1, 1) := by decide +kernel
theorem dX11_coat_70 : decode cX11_coat 70 = .ok (.aaload, 1) := by decide +kernel
theorem dX11_coat_71 : decode cX11_coat 71 = .ok (.astore 6, 2) := by decide +kernel
theorem dX11_coat_73 : decode cX11_coat 73 = .ok (.aload 6, 2) := by decide +kernel
theorem dX11_coat_75 : decode cX11_coat 75 = .ok (.getfield 157, 3) := by decide +kernel
theorem dX11_coat_78 : decode cX11_coat 78 = .ok (.bipush 8, 2) := by decide +kernel
theorem dX11_coat_80 : decode cX11_coat 80 = .ok (.if_icmp .lt 10, 3) := by decide +kernel
theorem dX11_coat_83 : decode cX11_coat 83 = .ok (.aload_n 0, 1) := by decide +kernel
theorem dX11_coat_84 : decode cX11_coat 84 = .ok (.bipush 7, 2) := by decide +kernel
theorem dX11_coat_86 : decode cX11_coat 86 = .ok (.invokevirtual 95, 3) := by decide +kernel
theorem dX11_coat_89 : decode cX11_coat 89 = .ok (.ireturn, 1) := by decide +kernel
theorem dX11_coat_90 : decode cX11_coat 90 = .ok (.aload 6, 2) := by decide +kernel
theorem dX11_coat_92 : decode cX11_coat 92 = .ok (.iload_n 2, 1) := by decide +kernel
theorem dX11_coat_93 : decode cX11_coat 93 = .ok (.iload_n 3, 1) := by decide +kernel
theorem dX11_coat_94 : decode cX11_coat 94 = .ok (.iload 4, 2) := by decide +kernel
theorem dX11_coat_96 : decode cX11_coat 96 = .ok (.iload 5, 2) := by decide +kernel
theorem dX11_coat_98 : decode cX11_coat 98 = .ok (.aload_n 0, 1) := by decide +kernel
theorem dX11_coat_99 : decode cX11_coat 99 = .ok (.getfield 81, 3) := by decide +kernel
theorem dX11_coat_102 : decode cX11_coat 102 = .ok (.getfield 179, 3) := by decide +kernel
theorem dX11_coat_105 : decode cX11_coat 105 = .ok (.invokevirtual 182, 3) := by decide +kernel
theorem dX11_coat_108 : decode cX11_coat 108 = .ok (.ireturn, 1) := by decide +kernel
theorem dX11_coatOf_0 : decode cX11_coatOf 0 = .ok (.aload_n 0, 1) := by decide +kernel
theorem dX11_coatOf_1 : decode cX11_coatOf 1 = .ok (.iload_n 1, 1) := by decide +kernel
theorem dX11_coatOf_2 : decode cX11_coatOf 2 = .ok (.invokevirtual 123, 3) := by decide +kernel
theorem dX11_coatOf_5 : decode cX11_coatOf 5 = .ok (.ifCond .ne 12, 3) := by decide +kernel
theorem dX11_coatOf_8 : decode cX11_coatOf 8 = .ok (.aload_n 0, 1) := by decide +kernel
theorem dX11_coatOf_9 : decode cX11_coatOf 9 = .ok (.iload_n 1, 1) := by decide +kernel
theorem dX11_coatOf_10 : decode cX11_coatOf 10 = .ok (.iload_n 2, 1) := by decide +kernel
theorem dX11_coatOf_11 : decode cX11_coatOf 11 = .ok (.invokevirtual 186, 3) := by decide +kernel
theorem dX11_coatOf_14 : decode cX11_coatOf 14 = .ok (.ifCond .eq 9, 3) := by decide +kernel
theorem dX11_coatOf_17 : decode cX11_coatOf 17 = .ok (.aload_n 0, 1) := by decide +kernel
theorem dX11_coatOf_18 : decode cX11_coatOf 18 = .ok (.iconst 5, 1) := by decide +kernel
theorem dX11_coatOf_19 : decode cX11_coatOf 19 = .ok (.invokevirtual 95, 3) := by decide +kernel
theorem dX11_coatOf_22 : decode cX11_coatOf 22 = .ok (.ireturn, 1) := by decide +kernel
theorem dX11_coatOf_23 : decode cX11_coatOf 23 = .ok (.aload_n 0, 1) := by decide +kernel
theorem dX11_coatOf_24 : decode cX11_coatOf 24 = .ok (.getfield 81, 3) := by decide +kernel
theorem dX11_coatOf_27 : decode cX11_coatOf 27 = .ok (.getfield 126, 3) := by decide +kernel
theorem dX11_coatOf_30 : decode cX11_coatOf 30 = .ok (.iload_n 1, 1) := by decide +kernel
theorem dX11_coatOf_31 : decode cX11_coatOf 31 = .ok (.aaload, 1) := by decide +kernel
theorem dX11_coatOf_32 : decode cX11_coatOf 32 = .ok (.astore 4, 2) := by decide +kernel
theorem dX11_coatOf_34 : decode cX11_coatOf 34 = .ok (.iload_n 3, 1) := by decide +kernel
theorem dX11_coatOf_35 : decode cX11_coatOf 35 = .ok (.tableswitch 112 0 6 #[41, 49, 57, 65, 73, 81, 105], 41) := by decide +kernel
theorem dX11_coatOf_76 : decode cX11_coatOf 76 = .ok (.aload 4, 2) := by decide +kernel
theorem dX11_coatOf_78 : decode cX11_coatOf 78 = .ok (.getfield 189, 3) := by decide +kernel
theorem dX11_coatOf_81 : decode cX11_coatOf 81 = .ok (.iload_n 2, 1) := by decide +kernel
theorem dX11_coatOf_82 : decode cX11_coatOf 82 = .ok (.iaload, 1) := by decide +kernel
theorem dX11_coatOf_83 : decode cX11_coatOf 83 = .ok (.ireturn, 1) := by decide +kernel
theorem dX11_coatOf_84 : decode cX11_coatOf 84 = .ok (.aload 4, 2) := by decide +kernel
theorem dX11_coatOf_86 : decode cX11_coatOf 86 = .ok (.getfield 192, 3) := by decide +kernel
theorem dX11_coatOf_89 : decode cX11_coatOf 89 = .ok (.iload_n 2, 1) := by decide +kernel
theorem dX11_coatOf_90 : decode cX11_coatOf 90 = .ok (.iaload, 1) := by decide +kernel
theorem dX11_coatOf_91 : decode cX11_coatOf 91 = .ok (.ireturn, 1) := by decide +kernel
theorem dX11_coatOf_92 : decode cX11_coatOf 92 = .ok (.aload 4, 2) := by decide +kernel
theorem dX11_coatOf_94 : decode cX11_coatOf 94 = .ok (.getfield 195, 3) := by decide +kernel
theorem dX11_coatOf_97 : decode cX11_coatOf 97 = .ok (.iload_n 2, 1) := by decide +kernel
theorem dX11_coatOf_98 : decode cX11_coatOf 98 = .ok (.iaload, 1) := by decide +kernel
theorem dX11_coatOf_99 : decode cX11_coatOf 99 = .ok (.ireturn, 1) := by decide +kernel
theorem dX11_coatOf_100 : decode cX11_coatOf 100 = .ok (.aload 4, 2) := by decide +kernel
theorem dX11_coatOf_102 : decode cX11_coatOf 102 = .ok (.getfield 198, 3) := by decide +kernel
theorem dX11_coatOf_105 : decode cX11_coatOf 105 = .ok (.iload_n 2, 1) := by decide +kernel
theorem dX11_coatOf_106 : decode cX11_coatOf 106 = .ok (.iaload, 1) := by decide +kernel
theorem dX11_coatOf_107 : decode cX11_coatOf 107 = .ok (.ireturn, 1) := by decide +kernel
theorem dX11_coatOf_108 : decode cX11_coatOf 108 = .ok (.aload 4, 2) := by decide +kernel
theorem dX11_coatOf_110 : decode cX11_coatOf 110 = .ok (.getfield 201, 3) := by decide +kernel
theorem dX11_coatOf_113 : decode cX11_coatOf 113 = .ok (.iload_n 2, 1) := by decide +kernel
theorem dX11_coatOf_114 : decode cX11_coatOf 114 = .ok (.iaload, 1) := by decide +kernel
theorem dX11_coatOf_115 : decode cX11_coatOf 115 = .ok (.ireturn, 1) := by decide +kernel
theorem dX11_coatOf_116 : decode cX11_coatOf 116 = .ok (.aload_n 0, 1) := by decide +kernel
theorem dX11_coatOf_117 : decode cX11_coatOf 117 = .ok (.getfield 81, 3) := by decide +kernel
theorem dX11_coatOf_120 : decode cX11_coatOf 120 = .ok (.aload 4, 2) := by decide +kernel
theorem dX11_coatOf_122 : decode cX11_coatOf 122 = .ok (.aload 4, 2) := by decide +kernel
theorem dX11_coatOf_124 : decode cX11_coatOf 124 = .ok (.getfield 192, 3) := by decide +kernel
theorem dX11_coatOf_127 : decode cX11_coatOf 127 = .ok (.iload_n 2, 1) := by decide +kernel
theorem dX11_coatOf_128 : decode cX11_coatOf 128 = .ok (.iaload, 1) := by decide +kernel
theorem dX11_coatOf_129 : decode cX11_coatOf 129 = .ok (.aload 4, 2) := by decide +kernel
theorem dX11_coatOf_131 : decode cX11_coatOf 131 = .ok (.getfield 195, 3) := by decide +kernel
theorem dX11_coatOf_134 : decode cX11_coatOf 134 = .ok (.iload_n 2, 1) := by decide +kernel
theorem dX11_coatOf_135 : decode cX11_coatOf 135 = .ok (.iaload, 1) := by decide +kernel
theorem dX11_coatOf_136 : decode cX11_coatOf 136 = .ok (.invokevirtual 203, 3) := by decide +kernel
theorem dX11_coatOf_139 : decode cX11_coatOf 139 = .ok (.ireturn, 1) := by decide +kernel
theorem dX11_coatOf_140 : decode cX11_coatOf 140 = .ok (.aload 4, 2) := by decide +kernel
theorem dX11_coatOf_142 : decode cX11_coatOf 142 = .ok (.iload_n 2, 1) := by decide +kernel
theorem dX11_coatOf_143 : decode cX11_coatOf 143 = .ok (.invokevirtual 207, 3) := by decide +kernel
theorem dX11_coatOf_146 : decode cX11_coatOf 146 = .ok (.ireturn, 1) := by decide +kernel
theorem dX11_coatOf_147 : decode cX11_coatOf 147 = .ok (.aload_n 0, 1) := by decide +kernel
theorem dX11_coatOf_148 : decode cX11_coatOf 148 = .ok (.iconst 5, 1) := by decide +kernel
theorem dX11_coatOf_149 : decode cX11_coatOf 149 = .ok (.invokevirtual 95, 3) := by decide +kernel
theorem dX11_coatOf_152 : decode cX11_coatOf 152 = .ok (.ireturn, 1) := by decide +kernel
theorem dX11_street_0 : decode cX11_street 0 = .ok (.aload_n 0, 1) := by decide +kernel
theorem dX11_street_1 : decode cX11_street 1 = .ok (.iload_n 1, 1) := by decide +kernel
theorem dX11_street_2 : decode cX11_street 2 = .ok (.invokevirtual 99, 3) := by decide +kernel
theorem dX11_street_5 : decode cX11_street 5 = .ok (.istore_n 2, 1) := by decide +kernel
theorem dX11_street_6 : decode cX11_street 6 = .ok (.iload_n 2, 1) := by decide +kernel
theorem dX11_street_7 : decode cX11_street 7 = .ok (.ifCond .eq 9, 3) := by decide +kernel
theorem dX11_street_10 : decode cX11_street 10 = .ok (.aload_n 0, 1) := by decide +kernel
theorem dX11_street_11 : decode cX11_street 11 = .ok (.iload_n 2, 1) := by decide +kernel
theorem dX11_street_12 : decode cX11_street 12 = .ok (.invokevirtual 95, 3) := by decide +kernel
theorem dX11_street_15 : decode cX11_street 15 = .ok (.ireturn, 1) := by decide +kernel
theorem dX11_street_16 : decode cX11_street 16 = .ok (.aload_n 0, 1) := by decide +kernel
theorem dX11_street_17 : decode cX11_street 17 = .ok (.getfield 85, 3) := by decide +kernel
theorem dX11_street_20 : decode cX11_street 20 = .ok (.aload_n 0, 1) := by decide +kernel
theorem dX11_street_21 : decode cX11_street 21 = .ok (.getfield 81, 3) := by decide +kernel
theorem dX11_street_24 : decode cX11_street 24 = .ok (.invokevirtual 210, 3) := by decide +kernel
theorem dX11_street_27 : decode cX11_street 27 = .ok (.aload_n 0, 1) := by decide +kernel
theorem dX11_street_28 : decode cX11_street 28 = .ok (.getfield 41, 3) := by decide +kernel
theorem dX11_street_31 : decode cX11_street 31 = .ok (.aload_n 0, 1) := by decide +kernel
theorem dX11_street_32 : decode cX11_street 32 = .ok (.getfield 85, 3) := by decide +kernel
theorem dX11_street_35 : decode cX11_street 35 = .ok (.aload_n 0, 1) := by decide +kernel
theorem dX11_street_36 : decode cX11_street 36 = .ok (.getfield 18, 3) := by decide +kernel
theorem dX11_street_39 : decode cX11_street 39 = .ok (.iload_n 1, 1) := by decide +kernel
theorem dX11_street_40 : decode cX11_street 40 = .ok (.aaload, 1) := by decide +kernel
theorem dX11_street_41 : decode cX11_street 41 = .ok (.aload_n 0, 1) := by decide +kernel
theorem dX11_street_42 : decode cX11_street 42 = .ok (.getfield 13, 3) := by decide +kernel
theorem dX11_street_45 : decode cX11_street 45 = .ok (.iload_n 1, 1) := by decide +kernel
theorem dX11_street_46 : decode cX11_street 46 = .ok (.iaload, 1) := by decide +kernel
theorem dX11_street_47 : decode cX11_street 47 = .ok (.invokevirtual 214, 3) := by decide +kernel
theorem dX11_street_50 : decode cX11_street 50 = .ok (.istore_n 3, 1) := by decide +kernel
theorem dX11_street_51 : decode cX11_street 51 = .ok (.aload_n 0, 1) := by decide +kernel
theorem dX11_street_52 : decode cX11_street 52 = .ok (.aload_n 0, 1) := by decide +kernel
theorem dX11_street_53 : decode cX11_street 53 = .ok (.getfield 41, 3) := by decide +kernel
theorem dX11_street_56 : decode cX11_street 56 = .ok (.getfield 218, 3) := by decide +kernel
theorem dX11_street_59 : decode cX11_street 59 = .ok (.putfield 45, 3) := by decide +kernel
theorem dX11_street_62 : decode cX11_street 62 = .ok (.aload_n 0, 1) := by decide +kernel
theorem dX11_street_63 : decode cX11_street 63 = .ok (.getfield 45, 3) := by decide +kernel
theorem dX11_street_66 : decode cX11_street 66 = .ok (.iconst (-1), 1) := by decide +kernel
theorem dX11_street_67 : decode cX11_street 67 = .ok (.if_icmp .eq 10, 3) := by decide +kernel
theorem dX11_street_70 : decode cX11_street 70 = .ok (.aload_n 0, 1) := by decide +kernel
theorem dX11_street_71 : decode cX11_street 71 = .ok (.bipush 6, 2) := by decide +kernel
theorem dX11_street_73 : decode cX11_street 73 = .ok (.invokevirtual 95, 3) := by decide +kernel
theorem dX11_street_76 : decode cX11_street 76 = .ok (.ireturn, 1) := by decide +kernel
theorem dX11_street_77 : decode cX11_street 77 = .ok (.aload_n 0, 1) := by decide +kernel
theorem dX11_street_78 : decode cX11_street 78 = .ok (.getfield 81, 3) := by decide +kernel
theorem dX11_street_81 : decode cX11_street 81 = .ok (.astore 4, 2) := by decide +kernel
theorem dX11_street_83 : decode cX11_street 83 = .ok (.aload_n 0, 1) := by decide +kernel
theorem dX11_street_84 : decode cX11_street 84 = .ok (.aload_n 0, 1) := by decide +kernel
theorem dX11_street_85 : decode cX11_street 85 = .ok (.getfield 85, 3) := by decide +kernel
theorem dX11_street_88 : decode cX11_street 88 = .ok (.putfield 81, 3) := by decide +kernel
theorem dX11_street_91 : decode cX11_street 91 = .ok (.aload_n 0, 1) := by decide +kernel
theorem dX11_street_92 : decode cX11_street 92 = .ok (.aload 4, 2) := by decide +kernel
theorem dX11_street_94 : decode cX11_street 94 = .ok (.putfield 85, 3) := by decide +kernel
theorem dX11_street_97 : decode cX11_street 97 = .ok (.iload_n 3, 1) := by decide +kernel
theorem dX11_street_98 : decode cX11_street 98 = .ok (.ireturn, 1) := by decide +kernel
theorem dX11_fault_0 : decode cX11_fault 0 = .ok (.aload_n 0, 1) := by decide +kernel
theorem dX11_fault_1 : decode cX11_fault 1 = .ok (.getfield 45, 3) := by decide +kernel
theorem dX11_fault_4 : decode cX11_fault 4 = .ok (.ireturn, 1) := by decide +kernel
theorem dX11_seen_0 : decode cX11_seen 0 = .ok (.aload_n 0, 1) := by decide +kernel
theorem dX11_seen_1 : decode cX11_seen 1 = .ok (.iload_n 1, 1) := by decide +kernel
theorem dX11_seen_2 : decode cX11_seen 2 = .ok (.invokevirtual 123, 3) := by decide +kernel
theorem dX11_seen_5 : decode cX11_seen 5 = .ok (.ifCond .eq 11, 3) := by decide +kernel
theorem dX11_seen_8 : decode cX11_seen 8 = .ok (.aload_n 0, 1) := by decide +kernel
theorem dX11_seen_9 : decode cX11_seen 9 = .ok (.iconst 1, 1) := by decide +kernel
theorem dX11_seen_10 : decode cX11_seen 10 = .ok (.bipush 10, 2) := by decide +kernel
theorem dX11_seen_12 : decode cX11_seen 12 = .ok (.invokevirtual 221, 3) := by decide +kernel
theorem dX11_seen_15 : decode cX11_seen 15 = .ok (.ireturn, 1) := by decide +kernel
theorem dX11_seen_16 : decode cX11_seen 16 = .ok (.iload_n 2, 1) := by decide +kernel
theorem dX11_seen_17 : decode cX11_seen 17 = .ok (.bipush 12, 2) := by decide +kernel
theorem dX11_seen_19 : decode cX11_seen 19 = .ok (.invokestatic 91, 3) := by decide +kernel
theorem dX11_seen_22 : decode cX11_seen 22 = .ok (.ifCond .eq 11, 3) := by decide +kernel
theorem dX11_seen_25 : decode cX11_seen 25 = .ok (.aload_n 0, 1) := by decide +kernel
theorem dX11_seen_26 : decode cX11_seen 26 = .ok (.iconst 5, 1) := by decide +kernel
theorem dX11_seen_27 : decode cX11_seen 27 = .ok (.bipush 10, 2) := by decide +kernel
theorem dX11_seen_29 : decode cX11_seen 29 = .ok (.invokevirtual 221, 3) := by decide +kernel
theorem dX11_seen_32 : decode cX11_seen 32 = .ok (.ireturn, 1) := by decide +kernel
theorem dX11_seen_33 : decode cX11_seen 33 = .ok (.iload_n 3, 1) := by decide +kernel
theorem dX11_seen_34 : decode cX11_seen 34 = .ok (.bipush 100, 2) := by decide +kernel
theorem dX11_seen_36 : decode cX11_seen 36 = .ok (.invokestatic 91, 3) := by decide +kernel
theorem dX11_seen_39 : decode cX11_seen 39 = .ok (.ifCond .eq 12, 3) := by decide +kernel
theorem dX11_seen_42 : decode cX11_seen 42 = .ok (.aload_n 0, 1) := by decide +kernel
theorem dX11_seen_43 : decode cX11_seen 43 = .ok (.bipush 6, 2) := by decide +kernel
theorem dX11_seen_45 : decode cX11_seen 45 = .ok (.bipush 10, 2) := by decide +kernel
theorem dX11_seen_47 : decode cX11_seen 47 = .ok (.invokevirtual 221, 3) := by decide +kernel
theorem dX11_seen_50 : decode cX11_seen 50 = .ok (.ireturn, 1) := by decide +kernel
theorem dX11_seen_51 : decode cX11_seen 51 = .ok (.aload_n 0, 1) := by decide +kernel
theorem dX11_seen_52 : decode cX11_seen 52 = .ok (.getfield 81, 3) := by decide +kernel
theorem dX11_seen_55 : decode cX11_seen 55 = .ok (.getfield 126, 3) := by decide +kernel
theorem dX11_seen_58 : decode cX11_seen 58 = .ok (.iload_n 1, 1) := by decide +kernel
theorem dX11_seen_59 : decode cX11_seen 59 = .ok (.aaload, 1) := by decide +kernel
theorem dX11_seen_60 : decode cX11_seen 60 = .ok (.astore 4, 2) := by decide +kernel
theorem dX11_seen_62 : decode cX11_seen 62 = .ok (.aload_n 0, 1) := by decide +kernel
theorem dX11_seen_63 : decode cX11_seen 63 = .ok (.getfield 81, 3) := by decide +kernel
theorem dX11_seen_66 : decode cX11_seen 66 = .ok (.aload 4, 2) := by decide +kernel
theorem dX11_seen_68 : decode cX11_seen 68 = .ok (.aload 4, 2) := by decide +kernel
theorem dX11_seen_70 : decode cX11_seen 70 = .ok (.iload_n 2, 1) := by decide +kernel
theorem dX11_seen_71 : decode cX11_seen 71 = .ok (.invokevirtual 224, 3) := by decide +kernel
theorem dX11_seen_74 : decode cX11_seen 74 = .ok (.iload_n 2, 1) := by decide +kernel
theorem dX11_seen_75 : decode cX11_seen 75 = .ok (.iload_n 3, 1) := by decide +kernel
theorem dX11_seen_76 : decode cX11_seen 76 = .ok (.invokevirtual 227, 3) := by decide +kernel
theorem dX11_seen_79 : decode cX11_seen 79 = .ok (.ireturn, 1) := by decide +kernel
theorem dX11_wet_0 : decode cX11_wet 0 = .ok (.aload_n 0, 1) := by decide +kernel
theorem dX11_wet_1 : decode cX11_wet 1 = .ok (.iload_n 1, 1) := by decide +kernel
theorem dX11_wet_2 : decode cX11_wet 2 = .ok (.invokevirtual 123, 3) := by decide +kernel
theorem dX11_wet_5 : decode cX11_wet 5 = .ok (.ifCond .eq 9, 3) := by decide +kernel
theorem dX11_wet_8 : decode cX11_wet 8 = .ok (.aload_n 0, 1) := by decide +kernel
theorem dX11_wet_9 : decode cX11_wet 9 = .ok (.iconst 1, 1) := by decide +kernel
theorem dX11_wet_10 : decode cX11_wet 10 = .ok (.invokevirtual 95, 3) := by decide +kernel
theorem dX11_wet_13 : decode cX11_wet 13 = .ok (.ireturn, 1) := by decide +kernel
theorem dX11_wet_14 : decode cX11_wet 14 = .ok (.iload_n 2, 1) := by decide +kernel
theorem dX11_wet_15 : decode cX11_wet 15 = .ok (.bipush 12, 2) := by decide +kernel
theorem dX11_wet_17 : decode cX11_wet 17 = .ok (.invokestatic 91, 3) := by decide +kernel
theorem dX11_wet_20 : decode cX11_wet 20 = .ok (.ifCond .eq 9, 3) := by decide +kernel
theorem dX11_wet_23 : decode cX11_wet 23 = .ok (.aload_n 0, 1) := by decide +kernel
theorem dX11_wet_24 : decode cX11_wet 24 = .ok (.iconst 5, 1) := by decide +kernel
theorem dX11_wet_25 : decode cX11_wet 25 = .ok (.invokevirtual 95, 3) := by decide +kernel
theorem dX11_wet_28 : decode cX11_wet 28 = .ok (.ireturn, 1) := by decide +kernel
theorem dX11_wet_29 : decode cX11_wet 29 = .ok (.iload_n 3, 1) := by decide +kernel
theorem dX11_wet_30 : decode cX11_wet 30 = .ok (.bipush 100, 2) := by decide +kernel
theorem dX11_wet_32 : decode cX11_wet 32 = .ok (.invokestatic 91, 3) := by decide +kernel
theorem dX11_wet_35 : decode cX11_wet 35 = .ok (.ifCond .eq 10, 3) := by decide +kernel
theorem dX11_wet_38 : decode cX11_wet 38 = .ok (.aload_n 0, 1) := by decide +kernel
theorem dX11_wet_39 : decode cX11_wet 39 = .ok (.bipush 6, 2) := by decide +kernel
theorem dX11_wet_41 : decode cX11_wet 41 = .ok (.invokevirtual 95, 3) := by decide +kernel
theorem dX11_wet_44 : decode cX11_wet 44 = .ok (.ireturn, 1) := by decide +kernel
theorem dX11_wet_45 : decode cX11_wet 45 = .ok (.aload_n 0, 1) := by decide +kernel
theorem dX11_wet_46 : decode cX11_wet 46 = .ok (.getfield 81, 3) := by decide +kernel
theorem dX11_wet_49 : decode cX11_wet 49 = .ok (.getfield 126, 3) := by decide +kernel
theorem dX11_wet_52 : decode cX11_wet 52 = .ok (.iload_n 1, 1) := by decide +kernel
theorem dX11_wet_53 : decode cX11_wet 53 = .ok (.aaload, 1) := by decide +kernel
theorem dX11_wet_54 : decode cX11_wet 54 = .ok (.iload_n 2, 1) := by decide +kernel
theorem dX11_wet_55 : decode cX11_wet 55 = .ok (.iload_n 3, 1) := by decide +kernel
theorem dX11_wet_56 : decode cX11_wet 56 = .ok (.invokevirtual 231, 3) := by decide +kernel
theorem dX11_wet_59 : decode cX11_wet 59 = .ok (.ireturn, 1) := by decide +kernel
theorem dX11_deep_0 : decode cX11_deep 0 = .ok (.aload_n 0, 1) := by decide +kernel
theorem dX11_deep_1 : decode cX11_deep 1 = .ok (.iload_n 1, 1) := by decide +kernel
theorem dX11_deep_2 : decode cX11_deep 2 = .ok (.invokevirtual 123, 3) := by decide +kernel
theorem dX11_deep_5 : decode cX11_deep 5 = .ok (.ifCond .eq 9, 3) := by decide +kernel
theorem dX11_deep_8 : decode cX11_deep 8 = .ok (.aload_n 0, 1) := by decide +kernel
theorem dX11_deep_9 : decode cX11_deep 9 = .ok (.iconst 1, 1) := by decide +kernel
theorem dX11_deep_10 : decode cX11_deep 10 = .ok (.invokevirtual 95, 3) := by decide +kernel
theorem dX11_deep_13 : decode cX11_deep 13 = .ok (.ireturn, 1) := by decide +kernel
theorem dX11_deep_14 : decode cX11_deep 14 = .ok (.iload_n 2, 1) := by decide +kernel
theorem dX11_deep_15 : decode cX11_deep 15 = .ok (.bipush 12, 2) := by decide +kernel
theorem dX11_deep_17 : decode cX11_deep 17 = .ok (.invokestatic 91, 3) := by decide +kernel
theorem dX11_deep_20 : decode cX11_deep 20 = .ok (.ifCond .eq 9, 3) := by decide +kernel
theorem dX11_deep_23 : decode cX11_deep 23 = .ok (.aload_n 0, 1) := by decide +kernel
theorem dX11_deep_24 : decode cX11_deep 24 = .ok (.iconst 5, 1) := by decide +kernel
theorem dX11_deep_25 : decode cX11_deep 25 = .ok (.invokevirtual 95, 3) := by decide +kernel
theorem dX11_deep_28 : decode cX11_deep 28 = .ok (.ireturn, 1) := by decide +kernel
theorem dX11_deep_29 : decode cX11_deep 29 = .ok (.aload_n 0, 1) := by decide +kernel
theorem dX11_deep_30 : decode cX11_deep 30 = .ok (.getfield 81, 3) := by decide +kernel
theorem dX11_deep_33 : decode cX11_deep 33 = .ok (.getfield 126, 3) := by decide +kernel
theorem dX11_deep_36 : decode cX11_deep 36 = .ok (.iload_n 1, 1) := by decide +kernel
theorem dX11_deep_37 : decode cX11_deep 37 = .ok (.aaload, 1) := by decide +kernel
theorem dX11_deep_38 : decode cX11_deep 38 = .ok (.iload_n 2, 1) := by decide +kernel
theorem dX11_deep_39 : decode cX11_deep 39 = .ok (.invokevirtual 234, 3) := by decide +kernel
theorem dX11_deep_42 : decode cX11_deep 42 = .ok (.ireturn, 1) := by decide +kernel
theorem dX11_skin_0 : decode cX11_skin 0 = .ok (.aload_n 0, 1) := by decide +kernel
theorem dX11_skin_1 : decode cX11_skin 1 = .ok (.iload_n 1, 1) := by decide +kernel
theorem dX11_skin_2 : decode cX11_skin 2 = .ok (.invokevirtual 123, 3) := by decide +kernel
theorem dX11_skin_5 : decode cX11_skin 5 = .ok (.ifCond .eq 9, 3) := by decide +kernel
theorem dX11_skin_8 : decode cX11_skin 8 = .ok (.aload_n 0, 1) := by decide +kernel
theorem dX11_skin_9 : decode cX11_skin 9 = .ok (.iconst 1, 1) := by decide +kernel
theorem dX11_skin_10 : decode cX11_skin 10 = .ok (.invokevirtual 95, 3) := by decide +kernel
theorem dX11_skin_13 : decode cX11_skin 13 = .ok (.ireturn, 1) := by decide +kernel
theorem dX11_skin_14 : decode cX11_skin 14 = .ok (.aload_n 0, 1) := by decide +kernel
theorem dX11_skin_15 : decode cX11_skin 15 = .ok (.getfield 81, 3) := by decide +kernel
theorem dX11_skin_18 : decode cX11_skin 18 = .ok (.getfield 126, 3) := by decide +kernel
theorem dX11_skin_21 : decode cX11_skin 21 = .ok (.iload_n 1, 1) := by decide +kernel
theorem dX11_skin_22 : decode cX11_skin 22 = .ok (.aaload, 1) := by decide +kernel
theorem dX11_skin_23 : decode cX11_skin 23 = .ok (.invokevirtual 160, 3) := by decide +kernel
theorem dX11_skin_26 : decode cX11_skin 26 = .ok (.ireturn, 1) := by decide +kernel
theorem dX11_hailed_0 : decode cX11_hailed 0 = .ok (.aload_n 0, 1) := by decide +kernel
theorem dX11_hailed_1 : decode cX11_hailed 1 = .ok (.iload_n 1, 1) := by decide +kernel
theorem dX11_hailed_2 : decode cX11_hailed 2 = .ok (.invokevirtual 123, 3) := by decide +kernel
theorem dX11_hailed_5 : decode cX11_hailed 5 = .ok (.ifCond .eq 9, 3) := by decide +kernel
theorem dX11_hailed_8 : decode cX11_hailed 8 = .ok (.aload_n 0, 1) := by decide +kernel
theorem dX11_hailed_9 : decode cX11_hailed 9 = .ok (.iconst 1, 1) := by decide +kernel
theorem dX11_hailed_10 : decode cX11_hailed 10 = .ok (.invokevirtual 95, 3) := by decide +kernel
theorem dX11_hailed_13 : decode cX11_hailed 13 = .ok (.ireturn, 1) := by decide +kernel
theorem dX11_hailed_14 : decode cX11_hailed 14 = .ok (.iload_n 2, 1) := by decide +kernel
theorem dX11_hailed_15 : decode cX11_hailed 15 = .ok (.bipush 12, 2) := by decide +kernel
theorem dX11_hailed_17 : decode cX11_hailed 17 = .ok (.invokestatic 91, 3) := by decide +kernel
theorem dX11_hailed_20 : decode cX11_hailed 20 = .ok (.ifCond .eq 9, 3) := by decide +kernel
theorem dX11_hailed_23 : decode cX11_hailed 23 = .ok (.aload_n 0, 1) := by decide +kernel
theorem dX11_hailed_24 : decode cX11_hailed 24 = .ok (.iconst 5, 1) := by decide +kernel
theorem dX11_hailed_25 : decode cX11_hailed 25 = .ok (.invokevirtual 95, 3) := by decide +kernel
theorem dX11_hailed_28 : decode cX11_hailed 28 = .ok (.ireturn, 1) := by decide +kernel
theorem dX11_hailed_29 : decode cX11_hailed 29 = .ok (.iload_n 3, 1) := by decide +kernel
theorem dX11_hailed_30 : decode cX11_hailed 30 = .ok (.bipush 100, 2) := by decide +kernel
theorem dX11_hailed_32 : decode cX11_hailed 32 = .ok (.invokestatic 91, 3) := by decide +kernel
theorem dX11_hailed_35 : decode cX11_hailed 35 = .ok (.ifCond .eq 10, 3) := by decide +kernel
theorem dX11_hailed_38 : decode cX11_hailed 38 = .ok (.aload_n 0, 1) := by decide +kernel
theorem dX11_hailed_39 : decode cX11_hailed 39 = .ok (.bipush 6, 2) := by decide +kernel
theorem dX11_hailed_41 : decode cX11_hailed 41 = .ok (.invokevirtual 95, 3) := by decide +kernel
theorem dX11_hailed_44 : decode cX11_hailed 44 = .ok (.ireturn, 1) := by decide +kernel
theorem dX11_hailed_45 : decode cX11_hailed 45 = .ok (.aload_n 0, 1) := by decide +kernel
theorem dX11_hailed_46 : decode cX11_hailed 46 = .ok (.getfield 81, 3) := by decide +kernel
theorem dX11_hailed_49 : decode cX11_hailed 49 = .ok (.getfield 126, 3) := by decide +kernel
theorem dX11_hailed_52 : decode cX11_hailed 52 = .ok (.iload_n 1, 1) := by decide +kernel
theorem dX11_hailed_53 : decode cX11_hailed 53 = .ok (.aaload, 1) := by decide +kernel
theorem dX11_hailed_54 : decode cX11_hailed 54 = .ok (.iload_n 2, 1) := by decide +kernel
theorem dX11_hailed_55 : decode cX11_hailed 55 = .ok (.iload_n 3, 1) := by decide +kernel
theorem dX11_hailed_56 : decode cX11_hailed 56 = .ok (.invokevirtual 237, 3) := by decide +kernel
theorem dX11_hailed_59 : decode cX11_hailed 59 = .ok (.ireturn, 1) := by decide +kernel
theorem dX11_razor_0 : decode cX11_razor 0 = .ok (.aload_n 0, 1) := by decide +kernel
theorem dX11_razor_1 : decode cX11_razor 1 = .ok (.iload_n 1, 1) := by decide +kernel
theorem dX11_razor_2 : decode cX11_razor 2 = .ok (.invokevirtual 123, 3) := by decide +kernel
theorem dX11_razor_5 : decode cX11_razor 5 = .ok (.ifCond .ne 12, 3) := by decide +kernel
theorem dX11_razor_8 : decode cX11_razor 8 = .ok (.aload_n 0, 1) := by decide +kernel
theorem dX11_razor_9 : decode cX11_razor 9 = .ok (.iload_n 1, 1) := by decide +kernel
theorem dX11_razor_10 : decode cX11_razor 10 = .ok (.iload_n 2, 1) := by decide +kernel
theorem dX11_razor_11 : decode cX11_razor 11 = .ok (.invokevirtual 186, 3) := by decide +kernel
theorem dX11_razor_14 : decode cX11_razor 14 = .ok (.ifCond .eq 11, 3) := by decide +kernel
theorem dX11_razor_17 : decode cX11_razor 17 = .ok (.aload_n 0, 1) := by decide +kernel
theorem dX11_razor_18 : decode cX11_razor 18 = .ok (.iconst 1, 1) := by decide +kernel
theorem dX11_razor_19 : decode cX11_razor 19 = .ok (.bipush 10, 2) := by decide +kernel
theorem dX11_razor_21 : decode cX11_razor 21 = .ok (.invokevirtual 221, 3) := by decide +kernel
theorem dX11_razor_24 : decode cX11_razor 24 = .ok (.ireturn, 1) := by decide +kernel
theorem dX11_razor_25 : decode cX11_razor 25 = .ok (.iload_n 3, 1) := by decide +kernel
theorem dX11_razor_26 : decode cX11_razor 26 = .ok (.ifCond .eq 16, 3) := by decide +kernel
theorem dX11_razor_29 : decode cX11_razor 29 = .ok (.iload_n 3, 1) := by decide +kernel
theorem dX11_razor_30 : decode cX11_razor 30 = .ok (.iconst 1, 1) := by decide +kernel
theorem dX11_razor_31 : decode cX11_razor 31 = .ok (.if_icmp .eq 11, 3) := by decide +kernel
theorem dX11_razor_34 : decode cX11_razor 34 = .ok (.aload_n 0, 1) := by decide +kernel
theorem dX11_razor_35 : decode cX11_razor 35 = .ok (.iconst 5, 1) := by decide +kernel
theorem dX11_razor_36 : decode cX11_razor 36 = .ok (.bipush 10, 2) := by decide +kernel
theorem dX11_razor_38 : decode cX11_razor 38 = .ok (.invokevirtual 221, 3) := by decide +kernel
theorem dX11_razor_41 : decode cX11_razor 41 = .ok (.ireturn, 1) := by decide +kernel
theorem dX11_razor_42 : decode cX11_razor 42 = .ok (.aload_n 0, 1) := by decide +kernel
theorem dX11_razor_43 : decode cX11_razor 43 = .ok (.getfield 81, 3) := by decide +kernel
theorem dX11_razor_46 : decode cX11_razor 46 = .ok (.getfield 126, 3) := by decide +kernel
theorem dX11_razor_49 : decode cX11_razor 49 = .ok (.iload_n 1, 1) := by decide +kernel
theorem dX11_razor_50 : decode cX11_razor 50 = .ok (.aaload, 1) := by decide +kernel
theorem dX11_razor_51 : decode cX11_razor 51 = .ok (.astore 4, 2) := by decide +kernel
theorem dX11_razor_53 : decode cX11_razor 53 = .ok (.iconst (-1), 1) := by decide +kernel
theorem dX11_razor_54 : decode cX11_razor 54 = .ok (.istore 5, 2) := by decide +kernel
theorem dX11_razor_56 : decode cX11_razor 56 = .ok (.iconst (-1), 1) := by decide +kernel
theorem dX11_razor_57 : decode cX11_razor 57 = .ok (.istore 6, 2) := by decide +kernel
theorem dX11_razor_59 : decode cX11_razor 59 = .ok (.iconst 0, 1) := by decide +kernel
theorem dX11_razor_60 : decode cX11_razor 60 = .ok (.istore 7, 2) := by decide +kernel
theorem dX11_razor_62 : decode cX11_razor 62 = .ok (.iload 7, 2) := by decide +kernel
theorem dX11_razor_64 : decode cX11_razor 64 = .ok (.bipush 12, 2) := by decide +kernel
theorem dX11_razor_66 : decode cX11_razor 66 = .ok (.if_icmp .ge 53, 3) := by decide +kernel
theorem dX11_razor_69 : decode cX11_razor 69 = .ok (.aload 4, 2) := by decide +kernel
theorem dX11_razor_71 : decode cX11_razor 71 = .ok (.iload_n 2, 1) := by decide +kernel
theorem dX11_razor_72 : decode cX11_razor 72 = .ok (.iload 7, 2) := by decide +kernel
theorem dX11_razor_74 : decode cX11_razor 74 = .ok (.invokevirtual 240, 3) := by decide +kernel
theorem dX11_razor_77 : decode cX11_razor 77 = .ok (.ifCond .eq 36, 3) := by decide +kernel
theorem dX11_razor_80 : decode cX11_razor 80 = .ok (.aload 4, 2) := by decide +kernel
theorem dX11_razor_82 : decode cX11_razor 82 = .ok (.iload_n 2, 1) := by decide +kernel
theorem dX11_razor_83 : decode cX11_razor 83 = .ok (.iconst 1, 1) := by decide +kernel
theorem dX11_razor_84 : decode cX11_razor 84 = .ok (.iadd, 1) := by decide +kernel
theorem dX11_razor_85 : decode cX11_razor 85 = .ok (.iload 7, 2) := by decide +kernel
theorem dX11_razor_87 : decode cX11_razor 87 = .ok (.invokevirtual 243, 3) := by decide +kernel
theorem dX11_razor_90 : decode cX11_razor 90 = .ok (.istore 8, 2) := by decide +kernel
theorem dX11_razor_92 : decode cX11_razor 92 = .ok (.iload 5, 2) := by decide +kernel
theorem dX11_razor_94 : decode cX11_razor 94 = .ok (.iconst (-1), 1) := by decide +kernel
theorem dX11_razor_95 : decode cX11_razor 95 = .ok (.if_icmp .eq 10, 3) := by decide +kernel
theorem dX11_razor_98 : decode cX11_razor 98 = .ok (.iload 8, 2) := by decide +kernel
theorem dX11_razor_100 : decode cX11_razor 100 = .ok (.iload 6, 2) := by decide +kernel
theorem dX11_razor_102 : decode cX11_razor 102 = .ok (.if_icmp .ge 11, 3) := by decide +kernel
theorem dX11_razor_105 : decode cX11_razor 105 = .ok (.iload 7, 2) := by decide +kernel
theorem dX11_razor_107 : decode cX11_razor 107 = .ok (.istore 5, 2) := by decide +kernel
theorem dX11_razor_109 : decode cX11_razor 109 = .ok (.iload 8, 2) := by decide +kernel
theorem dX11_razor_111 : decode cX11_razor 111 = .ok (.istore 6, 2) := by decide +kernel
theorem dX11_razor_113 : decode cX11_razor 113 = .ok (.iinc 7 1, 3) := by decide +kernel
theorem dX11_razor_116 : decode cX11_razor 116 = .ok (.goto (-54), 3) := by decide +kernel
theorem dX11_razor_119 : decode cX11_razor 119 = .ok (.iload_n 3, 1) := by decide +kernel
theorem dX11_razor_120 : decode cX11_razor 120 = .ok (.ifCond .ne 8, 3) := by decide +kernel
theorem dX11_razor_123 : decode cX11_razor 123 = .ok (.iload 5, 2) := by decide +kernel
theorem dX11_razor_125 : decode cX11_razor 125 = .ok (.goto 5, 3) := by decide +kernel
theorem dX11_razor_128 : decode cX11_razor 128 = .ok (.iload 6, 2) := by decide +kernel
theorem dX11_razor_130 : decode cX11_razor 130 = .ok (.ireturn, 1) := by decide +kernel
theorem dX11_hidden_0 : decode cX11_hidden 0 = .ok (.aload_n 0, 1) := by decide +kernel
theorem dX11_hidden_1 : decode cX11_hidden 1 = .ok (.iload_n 1, 1) := by decide +kernel
theorem dX11_hidden_2 : decode cX11_hidden 2 = .ok (.invokevirtual 123, 3) := by decide +kernel
theorem dX11_hidden_5 : decode cX11_hidden 5 = .ok (.ifCond .eq 9, 3) := by decide +kernel
theorem dX11_hidden_8 : decode cX11_hidden 8 = .ok (.aload_n 0, 1) := by decide +kernel
theorem dX11_hidden_9 : decode cX11_hidden 9 = .ok (.iconst 1, 1) := by decide +kernel
theorem dX11_hidden_10 : decode cX11_hidden 10 = .ok (.invokevirtual 95, 3) := by decide +kernel
theorem dX11_hidden_13 : decode cX11_hidden 13 = .ok (.ireturn, 1) := by decide +kernel
theorem dX11_hidden_14 : decode cX11_hidden 14 = .ok (.iload_n 2, 1) := by decide +kernel
theorem dX11_hidden_15 : decode cX11_hidden 15 = .ok (.bipush 100, 2) := by decide +kernel
theorem dX11_hidden_17 : decode cX11_hidden 17 = .ok (.invokestatic 91, 3) := by decide +kernel
theorem dX11_hidden_20 : decode cX11_hidden 20 = .ok (.ifCond .eq 10, 3) := by decide +kernel
theorem dX11_hidden_23 : decode cX11_hidden 23 = .ok (.aload_n 0, 1) := by decide +kernel
theorem dX11_hidden_24 : decode cX11_hidden 24 = .ok (.bipush 6, 2) := by decide +kernel
theorem dX11_hidden_26 : decode cX11_hidden 26 = .ok (.invokevirtual 95, 3) := by decide +kernel
theorem dX11_hidden_29 : decode cX11_hidden 29 = .ok (.ireturn, 1) := by decide +kernel
theorem dX11_hidden_30 : decode cX11_hidden 30 = .ok (.aload_n 0, 1) := by decide +kernel
theorem dX11_hidden_31 : decode cX11_hidden 31 = .ok (.getfield 81, 3) := by decide +kernel
theorem dX11_hidden_34 : decode cX11_hidden 34 = .ok (.getfield 126, 3) := by decide +kernel
theorem dX11_hidden_37 : decode cX11_hidden 37 = .ok (.iload_n 1, 1) := by decide +kernel
theorem dX11_hidden_38 : decode cX11_hidden 38 = .ok (.aaload, 1) := by decide +kernel
theorem dX11_hidden_39 : decode cX11_hidden 39 = .ok (.astore_n 3, 1) := by decide +kernel
theorem dX11_hidden_40 : decode cX11_hidden 40 = .ok (.iconst 1, 1) := by decide +kernel
theorem dX11_hidden_41 : decode cX11_hidden 41 = .ok (.aload_n 3, 1) := by decide +kernel
theorem dX11_hidden_42 : decode cX11_hidden 42 = .ok (.getfield 157, 3) := by decide +kernel
theorem dX11_hidden_45 : decode cX11_hidden 45 = .ok (.ishl, 1) := by decide +kernel
theorem dX11_hidden_46 : decode cX11_hidden 46 = .ok (.iconst 1, 1) := by decide +kernel
theorem dX11_hidden_47 : decode cX11_hidden 47 = .ok (.isub, 1) := by decide +kernel
theorem dX11_hidden_48 : decode cX11_hidden 48 = .ok (.aload_n 0, 1) := by decide +kernel
theorem dX11_hidden_49 : decode cX11_hidden 49 = .ok (.getfield 81, 3) := by decide +kernel
theorem dX11_hidden_52 : decode cX11_hidden 52 = .ok (.aload_n 3, 1) := by decide +kernel
theorem dX11_hidden_53 : decode cX11_hidden 53 = .ok (.iload_n 2, 1) := by decide +kernel
theorem dX11_hidden_54 : decode cX11_hidden 54 = .ok (.invokevirtual 246, 3) := by decide +kernel
theorem dX11_hidden_57 : decode cX11_hidden 57 = .ok (.iconst (-1), 1) := by decide +kernel
theorem dX11_hidden_58 : decode cX11_hidden 58 = .ok (.ixor, 1) := by decide +kernel
theorem dX11_hidden_59 : decode cX11_hidden 59 = .ok (.iand, 1) := by decide +kernel
theorem dX11_hidden_60 : decode cX11_hidden 60 = .ok (.ireturn, 1) := by decide +kernel
theorem dX11_shown_0 : decode cX11_shown 0 = .ok (.aload_n 0, 1) := by decide +kernel
theorem dX11_shown_1 : decode cX11_shown 1 = .ok (.iload_n 1, 1) := by decide +kernel
theorem dX11_shown_2 : decode cX11_shown 2 = .ok (.invokevirtual 123, 3) := by decide +kernel
theorem dX11_shown_5 : decode cX11_shown 5 = .ok (.ifCond .eq 9, 3) := by decide +kernel
theorem dX11_shown_8 : decode cX11_shown 8 = .ok (.aload_n 0, 1) := by decide +kernel
theorem dX11_shown_9 : decode cX11_shown 9 = .ok (.iconst 1, 1) := by decide +kernel
theorem dX11_shown_10 : decode cX11_shown 10 = .ok (.invokevirtual 95, 3) := by decide +kernel
theorem dX11_shown_13 : decode cX11_shown 13 = .ok (.ireturn, 1) := by decide +kernel
theorem dX11_shown_14 : decode cX11_shown 14 = .ok (.iload_n 2, 1) := by decide +kernel
theorem dX11_shown_15 : decode cX11_shown 15 = .ok (.bipush 100, 2) := by decide +kernel
theorem dX11_shown_17 : decode cX11_shown 17 = .ok (.invokestatic 91, 3) := by decide +kernel
theorem dX11_shown_20 : decode cX11_shown 20 = .ok (.ifCond .eq 10, 3) := by decide +kernel
theorem dX11_shown_23 : decode cX11_shown 23 = .ok (.aload_n 0, 1) := by decide +kernel
theorem dX11_shown_24 : decode cX11_shown 24 = .ok (.bipush 6, 2) := by decide +kernel
theorem dX11_shown_26 : decode cX11_shown 26 = .ok (.invokevirtual 95, 3) := by decide +kernel
theorem dX11_shown_29 : decode cX11_shown 29 = .ok (.ireturn, 1) := by decide +kernel
theorem dX11_shown_30 : decode cX11_shown 30 = .ok (.aload_n 0, 1) := by decide +kernel
theorem dX11_shown_31 : decode cX11_shown 31 = .ok (.getfield 81, 3) := by decide +kernel
theorem dX11_shown_34 : decode cX11_shown 34 = .ok (.getfield 126, 3) := by decide +kernel
theorem dX11_shown_37 : decode cX11_shown 37 = .ok (.iload_n 1, 1) := by decide +kernel
theorem dX11_shown_38 : decode cX11_shown 38 = .ok (.aaload, 1) := by decide +kernel
theorem dX11_shown_39 : decode cX11_shown 39 = .ok (.astore_n 3, 1) := by decide +kernel
theorem dX11_shown_40 : decode cX11_shown 40 = .ok (.iconst 0, 1) := by decide +kernel
theorem dX11_shown_41 : decode cX11_shown 41 = .ok (.istore 4, 2) := by decide +kernel
theorem dX11_shown_43 : decode cX11_shown 43 = .ok (.iconst 0, 1) := by decide +kernel
theorem dX11_shown_44 : decode cX11_shown 44 = .ok (.istore 5, 2) := by decide +kernel
theorem dX11_shown_46 : decode cX11_shown 46 = .ok (.iload 5, 2) := by decide +kernel
theorem dX11_shown_48 : decode cX11_shown 48 = .ok (.bipush 12, 2) := by decide +kernel
theorem dX11_shown_50 : decode cX11_shown 50 = .ok (.if_icmp .ge 44, 3) := by decide +kernel
theorem dX11_shown_53 : decode cX11_shown 53 = .ok (.aload_n 0, 1) := by decide +kernel
theorem dX11_shown_54 : decode cX11_shown 54 = .ok (.getfield 81, 3) := by decide +kernel
theorem dX11_shown_57 : decode cX11_shown 57 = .ok (.aload_n 3, 1) := by decide +kernel
theorem dX11_shown_58 : decode cX11_shown 58 = .ok (.aload_n 3, 1) := by decide +kernel
theorem dX11_shown_59 : decode cX11_shown 59 = .ok (.iload 5, 2) := by decide +kernel
theorem dX11_shown_61 : decode cX11_shown 61 = .ok (.iload_n 2, 1) := by decide +kernel
theorem dX11_shown_62 : decode cX11_shown 62 = .ok (.invokevirtual 237, 3) := by decide +kernel
theorem dX11_shown_65 : decode cX11_shown 65 = .ok (.iload 5, 2) := by decide +kernel
theorem dX11_shown_67 : decode cX11_shown 67 = .ok (.iconst 0, 1) := by decide +kernel
theorem dX11_shown_68 : decode cX11_shown 68 = .ok (.invokevirtual 227, 3) := by decide +kernel
theorem dX11_shown_71 : decode cX11_shown 71 = .ok (.istore 6, 2) := by decide +kernel
theorem dX11_shown_73 : decode cX11_shown 73 = .ok (.iload 6, 2) := by decide +kernel
theorem dX11_shown_75 : decode cX11_shown 75 = .ok (.iconst (-1), 1) := by decide +kernel
theorem dX11_shown_76 : decode cX11_shown 76 = .ok (.if_icmp .eq 12, 3) := by decide +kernel
theorem dX11_shown_79 : decode cX11_shown 79 = .ok (.iload 4, 2) := by decide +kernel
theorem dX11_shown_81 : decode cX11_shown 81 = .ok (.iconst 1, 1) := by decide +kernel
theorem dX11_shown_82 : decode cX11_shown 82 = .ok (.iload 6, 2) := by decide +kernel
theorem dX11_shown_84 : decode cX11_shown 84 = .ok (.ishl, 1) := by decide +kernel
theorem dX11_shown_85 : decode cX11_shown 85 = .ok (.ior, 1) := by decide +kernel
theorem dX11_shown_86 : decode cX11_shown 86 = .ok (.istore 4, 2) := by decide +kernel
theorem dX11_shown_88 : decode cX11_shown 88 = .ok (.iinc 5 1, 3) := by decide +kernel
theorem dX11_shown_91 : decode cX11_shown 91 = .ok (.goto (-45), 3) := by decide +kernel
theorem dX11_shown_94 : decode cX11_shown 94 = .ok (.iload 4, 2) := by decide +kernel
theorem dX11_shown_96 : decode cX11_shown 96 = .ok (.aload_n 0, 1) := by decide +kernel
theorem dX11_shown_97 : decode cX11_shown 97 = .ok (.getfield 81, 3) := by decide +kernel
theorem dX11_shown_100 : decode cX11_shown 100 = .ok (.aload_n 3, 1) := by decide +kernel
theorem dX11_shown_101 : decode cX11_shown 101 = .ok (.iconst 0, 1) := by decide +kernel
theorem dX11_shown_102 : decode cX11_shown 102 = .ok (.invokevirtual 246, 3) := by decide +kernel
theorem dX11_shown_105 : decode cX11_shown 105 = .ok (.iconst (-1), 1) := by decide +kernel
theorem dX11_shown_106 : decode cX11_shown 106 = .ok (.ixor, 1) := by decide +kernel
theorem dX11_shown_107 : decode cX11_shown 107 = .ok (.iand, 1) := by decide +kernel
theorem dX11_shown_108 : decode cX11_shown 108 = .ok (.ireturn, 1) := by decide +kernel
theorem dX11_firstWet_0 : decode cX11_firstWet 0 = .ok (.aload_n 0, 1) := by decide +kernel
theorem dX11_firstWet_1 : decode cX11_firstWet 1 = .ok (.iload_n 1, 1) := by decide +kernel
theorem dX11_firstWet_2 : decode cX11_firstWet 2 = .ok (.invokevirtual 123, 3) := by decide +kernel
theorem dX11_firstWet_5 : decode cX11_firstWet 5 = .ok (.ifCond .ne 12, 3) := by decide +kernel
theorem dX11_firstWet_8 : decode cX11_firstWet 8 = .ok (.aload_n 0, 1) := by decide +kernel
theorem dX11_firstWet_9 : decode cX11_firstWet 9 = .ok (.iload_n 1, 1) := by decide +kernel
theorem dX11_firstWet_10 : decode cX11_firstWet 10 = .ok (.iload_n 2, 1) := by decide +kernel
theorem dX11_firstWet_11 : decode cX11_firstWet 11 = .ok (.invokevirtual 186, 3) := by decide +kernel
theorem dX11_firstWet_14 : decode cX11_firstWet 14 = .ok (.ifCond .eq 11, 3) := by decide +kernel
theorem dX11_firstWet_17 : decode cX11_firstWet 17 = .ok (.aload_n 0, 1) := by decide +kernel
theorem dX11_firstWet_18 : decode cX11_firstWet 18 = .ok (.iconst 1, 1) := by decide +kernel
theorem dX11_firstWet_19 : decode cX11_firstWet 19 = .ok (.bipush 10, 2) := by decide +kernel
theorem dX11_firstWet_21 : decode cX11_firstWet 21 = .ok (.invokevirtual 221, 3) := by decide +kernel
theorem dX11_firstWet_24 : decode cX11_firstWet 24 = .ok (.ireturn, 1) := by decide +kernel
theorem dX11_firstWet_25 : decode cX11_firstWet 25 = .ok (.aload_n 0, 1) := by decide +kernel
theorem dX11_firstWet_26 : decode cX11_firstWet 26 = .ok (.getfield 81, 3) := by decide +kernel
theorem dX11_firstWet_29 : decode cX11_firstWet 29 = .ok (.getfield 126, 3) := by decide +kernel
theorem dX11_firstWet_32 : decode cX11_firstWet 32 = .ok (.iload_n 1, 1) := by decide +kernel
theorem dX11_firstWet_33 : decode cX11_firstWet 33 = .ok (.aaload, 1) := by decide +kernel
theorem dX11_firstWet_34 : decode cX11_firstWet 34 = .ok (.astore_n 3, 1) := by decide +kernel
theorem dX11_firstWet_35 : decode cX11_firstWet 35 = .ok (.iconst 0, 1) := by decide +kernel
theorem dX11_firstWet_36 : decode cX11_firstWet 36 = .ok (.istore 4, 2) := by decide +kernel
theorem dX11_firstWet_38 : decode cX11_firstWet 38 = .ok (.iload 4, 2) := by decide +kernel
theorem dX11_firstWet_40 : decode cX11_firstWet 40 = .ok (.bipush 100, 2) := by decide +kernel
theorem dX11_firstWet_42 : decode cX11_firstWet 42 = .ok (.if_icmp .ge 29, 3) := by decide +kernel
theorem dX11_firstWet_45 : decode cX11_firstWet 45 = .ok (.aload_n 0, 1) := by decide +kernel
theorem dX11_firstWet_46 : decode cX11_firstWet 46 = .ok (.getfield 81, 3) := by decide +kernel
theorem dX11_firstWet_49 : decode cX11_firstWet 49 = .ok (.aload_n 3, 1) := by decide +kernel
theorem dX11_firstWet_50 : decode cX11_firstWet 50 = .ok (.iload 4, 2) := by decide +kernel
theorem dX11_firstWet_52 : decode cX11_firstWet 52 = .ok (.invokevirtual 246, 3) := by decide +kernel
theorem dX11_firstWet_55 : decode cX11_firstWet 55 = .ok (.iload_n 2, 1) := by decide +kernel
theorem dX11_firstWet_56 : decode cX11_firstWet 56 = .ok (.ishr, 1) := by decide +kernel
theorem dX11_firstWet_57 : decode cX11_firstWet 57 = .ok (.iconst 1, 1) := by decide +kernel
theorem dX11_firstWet_58 : decode cX11_firstWet 58 = .ok (.iand, 1) := by decide +kernel
theorem dX11_firstWet_59 : decode cX11_firstWet 59 = .ok (.ifCond .eq 6, 3) := by decide +kernel
theorem dX11_firstWet_62 : decode cX11_firstWet 62 = .ok (.iload 4, 2) := by decide +kernel
theorem dX11_firstWet_64 : decode cX11_firstWet 64 = .ok (.ireturn, 1) := by decide +kernel
theorem dX11_firstWet_65 : decode cX11_firstWet 65 = .ok (.iinc 4 1, 3) := by decide +kernel
theorem dX11_firstWet_68 : decode cX11_firstWet 68 = .ok (.goto (-30), 3) := by decide +kernel
theorem dX11_firstWet_71 : decode cX11_firstWet 71 = .ok (.iconst (-1), 1) := by decide +kernel
theorem dX11_firstWet_72 : decode cX11_firstWet 72 = .ok (.ireturn, 1) := by decide +kernel
theorem dX11_paint_0 : decode cX11_paint 0 = .ok (.aload_n 0, 1) := by decide +kernel
theorem dX11_paint_1 : decode cX11_paint 1 = .ok (.iload_n 1, 1) := by decide +kernel
theorem dX11_paint_2 : decode cX11_paint 2 = .ok (.invokevirtual 123, 3) := by decide +kernel
theorem dX11_paint_5 : decode cX11_paint 5 = .ok (.ifCond .eq 11, 3) := by decide +kernel
theorem dX11_paint_8 : decode cX11_paint 8 = .ok (.aload_n 0, 1) := by decide +kernel
theorem dX11_paint_9 : decode cX11_paint 9 = .ok (.iconst 1, 1) := by decide +kernel
theorem dX11_paint_10 : decode cX11_paint 10 = .ok (.bipush 10, 2) := by decide +kernel
theorem dX11_paint_12 : decode cX11_paint 12 = .ok (.invokevirtual 221, 3) := by decide +kernel
theorem dX11_paint_15 : decode cX11_paint 15 = .ok (.ireturn, 1) := by decide +kernel
theorem dX11_paint_16 : decode cX11_paint 16 = .ok (.iload_n 2, 1) := by decide +kernel
theorem dX11_paint_17 : decode cX11_paint 17 = .ok (.bipush 12, 2) := by decide +kernel
theorem dX11_paint_19 : decode cX11_paint 19 = .ok (.invokestatic 91, 3) := by decide +kernel
theorem dX11_paint_22 : decode cX11_paint 22 = .ok (.ifCond .ne 12, 3) := by decide +kernel
theorem dX11_paint_25 : decode cX11_paint 25 = .ok (.iload_n 3, 1) := by decide +kernel
theorem dX11_paint_26 : decode cX11_paint 26 = .ok (.bipush 100, 2) := by decide +kernel
theorem dX11_paint_28 : decode cX11_paint 28 = .ok (.invokestatic 91, 3) := by decide +kernel
theorem dX11_paint_31 : decode cX11_paint 31 = .ok (.ifCond .eq 12, 3) := by decide +kernel
theorem dX11_paint_34 : decode cX11_paint 34 = .ok (.aload_n 0, 1) := by decide +kernel
theorem dX11_paint_35 : decode cX11_paint 35 = .ok (.bipush 6, 2) := by decide +kernel
theorem dX11_paint_37 : decode cX11_paint 37 = .ok (.bipush 10, 2) := by decide +kernel
theorem dX11_paint_39 : decode cX11_paint 39 = .ok (.invokevirtual 221, 3) := by decide +kernel
theorem dX11_paint_42 : decode cX11_paint 42 = .ok (.ireturn, 1) := by decide +kernel
theorem dX11_paint_43 : decode cX11_paint 43 = .ok (.aload_n 0, 1) := by decide +kernel
theorem dX11_paint_44 : decode cX11_paint 44 = .ok (.getfield 81, 3) := by decide +kernel
theorem dX11_paint_47 : decode cX11_paint 47 = .ok (.getfield 126, 3) := by decide +kernel
theorem dX11_paint_50 : decode cX11_paint 50 = .ok (.iload_n 1, 1) := by decide +kernel
theorem dX11_paint_51 : decode cX11_paint 51 = .ok (.aaload, 1) := by decide +kernel
theorem dX11_paint_52 : decode cX11_paint 52 = .ok (.astore 4, 2) := by decide +kernel
theorem dX11_paint_54 : decode cX11_paint 54 = .ok (.aload 4, 2) := by decide +kernel
theorem dX11_paint_56 : decode cX11_paint 56 = .ok (.getfield 157, 3) := by decide +kernel
theorem dX11_paint_59 : decode cX11_paint 59 = .ok (.bipush 8, 2) := by decide +kernel
theorem dX11_paint_61 : decode cX11_paint 61 = .ok (.if_icmp .lt 12, 3) := by decide +kernel
theorem dX11_paint_64 : decode cX11_paint 64 = .ok (.aload_n 0, 1) := by decide +kernel
theorem dX11_paint_65 : decode cX11_paint 65 = .ok (.bipush 7, 2) := by decide +kernel
theorem dX11_paint_67 : decode cX11_paint 67 = .ok (.bipush 10, 2) := by decide +kernel
theorem dX11_paint_69 : decode cX11_paint 69 = .ok (.invokevirtual 221, 3) := by decide +kernel
theorem dX11_paint_72 : decode cX11_paint 72 = .ok (.ireturn, 1) := by decide +kernel
theorem dX11_paint_73 : decode cX11_paint 73 = .ok (.aload_n 0, 1) := by decide +kernel
theorem dX11_paint_74 : decode cX11_paint 74 = .ok (.aload 4, 2) := by decide +kernel
theorem dX11_paint_76 : decode cX11_paint 76 = .ok (.aload 4, 2) := by decide +kernel
theorem dX11_paint_78 : decode cX11_paint 78 = .ok (.iload_n 2, 1) := by decide +kernel
theorem dX11_paint_79 : decode cX11_paint 79 = .ok (.iload_n 3, 1) := by decide +kernel
theorem dX11_paint_80 : decode cX11_paint 80 = .ok (.invokevirtual 249, 3) := by decide +kernel
theorem dX11_paint_83 : decode cX11_paint 83 = .ok (.invokevirtual 252, 3) := by decide +kernel
theorem dX11_paint_86 : decode cX11_paint 86 = .ok (.ireturn, 1) := by decide +kernel
theorem dX11_gap_0 : decode cX11_gap 0 = .ok (.aload_n 0, 1) := by decide +kernel
theorem dX11_gap_1 : decode cX11_gap 1 = .ok (.iload_n 1, 1) := by decide +kernel
theorem dX11_gap_2 : decode cX11_gap 2 = .ok (.invokevirtual 123, 3) := by decide +kernel
theorem dX11_gap_5 : decode cX11_gap 5 = .ok (.ifCond .ne 12, 3) := by decide +kernel
theorem dX11_gap_8 : decode cX11_gap 8 = .ok (.iload_n 2, 1) := by decide +kernel
theorem dX11_gap_9 : decode cX11_gap 9 = .ok (.bipush 8, 2) := by decide +kernel
theorem dX11_gap_11 : decode cX11_gap 11 = .ok (.invokestatic 91, 3) := by decide +kernel
theorem dX11_gap_14 : decode cX11_gap 14 = .ok (.ifCond .eq 11, 3) := by decide +kernel
theorem dX11_gap_17 : decode cX11_gap 17 = .ok (.aload_n 0, 1) := by decide +kernel
theorem dX11_gap_18 : decode cX11_gap 18 = .ok (.iconst 1, 1) := by decide +kernel
theorem dX11_gap_19 : decode cX11_gap 19 = .ok (.bipush 10, 2) := by decide +kernel
theorem dX11_gap_21 : decode cX11_gap 21 = .ok (.invokevirtual 221, 3) := by decide +kernel
theorem dX11_gap_24 : decode cX11_gap 24 = .ok (.ireturn, 1) := by decide +kernel
theorem dX11_gap_25 : decode cX11_gap 25 = .ok (.aload_n 0, 1) := by decide +kernel
theorem dX11_gap_26 : decode cX11_gap 26 = .ok (.getfield 81, 3) := by decide +kernel
theorem dX11_gap_29 : decode cX11_gap 29 = .ok (.getfield 126, 3) := by decide +kernel
theorem dX11_gap_32 : decode cX11_gap 32 = .ok (.iload_n 1, 1) := by decide +kernel
theorem dX11_gap_33 : decode cX11_gap 33 = .ok (.aaload, 1) := by decide +kernel
theorem dX11_gap_34 : decode cX11_gap 34 = .ok (.astore_n 3, 1) := by decide +kernel
theorem dX11_gap_35 : decode cX11_gap 35 = .ok (.iconst (-1), 1) := by decide +kernel
theorem dX11_gap_36 : decode cX11_gap 36 = .ok (.istore 4, 2) := by decide +kernel
theorem dX11_gap_38 : decode cX11_gap 38 = .ok (.iconst 0, 1) := by decide +kernel
theorem dX11_gap_39 : decode cX11_gap 39 = .ok (.istore 5, 2) := by decide +kernel
theorem dX11_gap_41 : decode cX11_gap 41 = .ok (.iconst 0, 1) := by decide +kernel
theorem dX11_gap_42 : decode cX11_gap 42 = .ok (.istore 6, 2) := by decide +kernel
theorem dX11_gap_44 : decode cX11_gap 44 = .ok (.iload 6, 2) := by decide +kernel
theorem dX11_gap_46 : decode cX11_gap 46 = .ok (.bipush 12, 2) := by decide +kernel
theorem dX11_gap_48 : decode cX11_gap 48 = .ok (.if_icmp .ge 74, 3) := by decide +kernel
theorem dX11_gap_51 : decode cX11_gap 51 = .ok (.aload_n 0, 1) := by decide +kernel
theorem dX11_gap_52 : decode cX11_gap 52 = .ok (.getfield 81, 3) := by decide +kernel
theorem dX11_gap_55 : decode cX11_gap 55 = .ok (.aload_n 3, 1) := by decide +kernel
theorem dX11_gap_56 : decode cX11_gap 56 = .ok (.aload_n 3, 1) := by decide +kernel
theorem dX11_gap_57 : decode cX11_gap 57 = .ok (.iload 6, 2) := by decide +kernel
theorem dX11_gap_59 : decode cX11_gap 59 = .ok (.invokevirtual 224, 3) := by decide +kernel
theorem dX11_gap_62 : decode cX11_gap 62 = .ok (.iload 6, 2) := by decide +kernel
theorem dX11_gap_64 : decode cX11_gap 64 = .ok (.iconst 0, 1) := by decide +kernel
theorem dX11_gap_65 : decode cX11_gap 65 = .ok (.invokevirtual 227, 3) := by decide +kernel
theorem dX11_gap_68 : decode cX11_gap 68 = .ok (.istore 7, 2) := by decide +kernel
theorem dX11_gap_70 : decode cX11_gap 70 = .ok (.iload 7, 2) := by decide +kernel
theorem dX11_gap_72 : decode cX11_gap 72 = .ok (.iconst (-1), 1) := by decide +kernel
theorem dX11_gap_73 : decode cX11_gap 73 = .ok (.if_icmp .eq 14, 3) := by decide +kernel
theorem dX11_gap_76 : decode cX11_gap 76 = .ok (.aload_n 3, 1) := by decide +kernel
theorem dX11_gap_77 : decode cX11_gap 77 = .ok (.getfield 189, 3) := by decide +kernel
theorem dX11_gap_80 : decode cX11_gap 80 = .ok (.iload 7, 2) := by decide +kernel
theorem dX11_gap_82 : decode cX11_gap 82 = .ok (.iaload, 1) := by decide +kernel
theorem dX11_gap_83 : decode cX11_gap 83 = .ok (.iload_n 2, 1) := by decide +kernel
theorem dX11_gap_84 : decode cX11_gap 84 = .ok (.if_icmp .eq 32, 3) := by decide +kernel
theorem dX11_gap_87 : decode cX11_gap 87 = .ok (.aload_n 3, 1) := by decide +kernel
theorem dX11_gap_88 : decode cX11_gap 88 = .ok (.iload 6, 2) := by decide +kernel
theorem dX11_gap_90 : decode cX11_gap 90 = .ok (.invokevirtual 234, 3) := by decide +kernel
theorem dX11_gap_93 : decode cX11_gap 93 = .ok (.istore 8, 2) := by decide +kernel
theorem dX11_gap_95 : decode cX11_gap 95 = .ok (.iload 4, 2) := by decide +kernel
theorem dX11_gap_97 : decode cX11_gap 97 = .ok (.iconst (-1), 1) := by decide +kernel
theorem dX11_gap_98 : decode cX11_gap 98 = .ok (.if_icmp .eq 10, 3) := by decide +kernel
theorem dX11_gap_101 : decode cX11_gap 101 = .ok (.iload 8, 2) := by decide +kernel
theorem dX11_gap_103 : decode cX11_gap 103 = .ok (.iload 5, 2) := by decide +kernel
theorem dX11_gap_105 : decode cX11_gap 105 = .ok (.if_icmp .ge 11, 3) := by decide +kernel
theorem dX11_gap_108 : decode cX11_gap 108 = .ok (.iload 6, 2) := by decide +kernel
theorem dX11_gap_110 : decode cX11_gap 110 = .ok (.istore 4, 2) := by decide +kernel
theorem dX11_gap_112 : decode cX11_gap 112 = .ok (.iload 8, 2) := by decide +kernel
theorem dX11_gap_114 : decode cX11_gap 114 = .ok (.istore 5, 2) := by decide +kernel
theorem dX11_gap_116 : decode cX11_gap 116 = .ok (.iinc 6 1, 3) := by decide +kernel
theorem dX11_gap_119 : decode cX11_gap 119 = .ok (.goto (-75), 3) := by decide +kernel
theorem dX11_gap_122 : decode cX11_gap 122 = .ok (.iload 4, 2) := by decide +kernel
theorem dX11_gap_124 : decode cX11_gap 124 = .ok (.ireturn, 1) := by decide +kernel
theorem dX11_moves_0 : decode cX11_moves 0 = .ok (.iload_n 1, 1) := by decide +kernel
theorem dX11_moves_1 : decode cX11_moves 1 = .ok (.bipush 8, 2) := by decide +kernel
theorem dX11_moves_3 : decode cX11_moves 3 = .ok (.invokestatic 91, 3) := by decide +kernel
theorem dX11_moves_6 : decode cX11_moves 6 = .ok (.ifCond .eq 9, 3) := by decide +kernel
theorem dX11_moves_9 : decode cX11_moves 9 = .ok (.aload_n 0, 1) := by decide +kernel
theorem dX11_moves_10 : decode cX11_moves 10 = .ok (.iconst 1, 1) := by decide +kernel
theorem dX11_moves_11 : decode cX11_moves 11 = .ok (.invokevirtual 95, 3) := by decide +kernel
theorem dX11_moves_14 : decode cX11_moves 14 = .ok (.ireturn, 1) := by decide +kernel
theorem dX11_moves_15 : decode cX11_moves 15 = .ok (.iload_n 2, 1) := by decide +kernel
theorem dX11_moves_16 : decode cX11_moves 16 = .ok (.ifCond .eq 14, 3) := by decide +kernel
theorem dX11_moves_19 : decode cX11_moves 19 = .ok (.iload_n 2, 1) := by decide +kernel
theorem dX11_moves_20 : decode cX11_moves 20 = .ok (.iconst 1, 1) := by decide +kernel
theorem dX11_moves_21 : decode cX11_moves 21 = .ok (.if_icmp .eq 9, 3) := by decide +kernel
theorem dX11_moves_24 : decode cX11_moves 24 = .ok (.aload_n 0, 1) := by decide +kernel
theorem dX11_moves_25 : decode cX11_moves 25 = .ok (.iconst 5, 1) := by decide +kernel
theorem dX11_moves_26 : decode cX11_moves 26 = .ok (.invokevirtual 95, 3) := by decide +kernel
theorem dX11_moves_29 : decode cX11_moves 29 = .ok (.ireturn, 1) := by decide +kernel
theorem dX11_moves_30 : decode cX11_moves 30 = .ok (.iconst 0, 1) := by decide +kernel
theorem dX11_moves_31 : decode cX11_moves 31 = .ok (.istore_n 3, 1) := by decide +kernel
theorem dX11_moves_32 : decode cX11_moves 32 = .ok (.iconst 0, 1) := by decide +kernel
theorem dX11_moves_33 : decode cX11_moves 33 = .ok (.istore 4, 2) := by decide +kernel
theorem dX11_moves_35 : decode cX11_moves 35 = .ok (.iconst 0, 1) := by decide +kernel
theorem dX11_moves_36 : decode cX11_moves 36 = .ok (.istore 5, 2) := by decide +kernel
theorem dX11_moves_38 : decode cX11_moves 38 = .ok (.iload 5, 2) := by decide +kernel
theorem dX11_moves_40 : decode cX11_moves 40 = .ok (.aload_n 0, 1) := by decide +kernel
theorem dX11_moves_41 : decode cX11_moves 41 = .ok (.getfield 81, 3) := by decide +kernel
theorem dX11_moves_44 : decode cX11_moves 44 = .ok (.getfield 144, 3) := by decide +kernel
theorem dX11_moves_47 : decode cX11_moves 47 = .ok (.if_icmp .ge 44, 3) := by decide +kernel
theorem dX11_moves_50 : decode cX11_moves 50 = .ok (.aload_n 0, 1) := by decide +kernel
theorem dX11_moves_51 : decode cX11_moves 51 = .ok (.getfield 81, 3) := by decide +kernel
theorem dX11_moves_54 : decode cX11_moves 54 = .ok (.getfield 126, 3) := by decide +kernel
theorem dX11_moves_57 : decode cX11_moves 57 = .ok (.iload 5, 2) := by decide +kernel
theorem dX11_moves_59 : decode cX11_moves 59 = .ok (.aaload, 1) := by decide +kernel
theorem dX11_moves_60 : decode cX11_moves 60 = .ok (.iload_n 1, 1) := by decide +kernel
theorem dX11_moves_61 : decode cX11_moves 61 = .ok (.invokevirtual 255, 3) := by decide +kernel
theorem dX11_moves_64 : decode cX11_moves 64 = .ok (.istore 6, 2) := by decide +kernel
theorem dX11_moves_66 : decode cX11_moves 66 = .ok (.iload 4, 2) := by decide +kernel
theorem dX11_moves_68 : decode cX11_moves 68 = .ok (.iload 6, 2) := by decide +kernel
theorem dX11_moves_70 : decode cX11_moves 70 = .ok (.iadd, 1) := by decide +kernel
theorem dX11_moves_71 : decode cX11_moves 71 = .ok (.istore 4, 2) := by decide +kernel
theorem dX11_moves_73 : decode cX11_moves 73 = .ok (.iload 6, 2) := by decide +kernel
theorem dX11_moves_75 : decode cX11_moves 75 = .ok (.ifCond .le 10, 3) := by decide +kernel
theorem dX11_moves_78 : decode cX11_moves 78 = .ok (.iload_n 3, 1) := by decide +kernel
theorem dX11_moves_79 : decode cX11_moves 79 = .ok (.iconst 1, 1) := by decide +kernel
theorem dX11_moves_80 : decode cX11_moves 80 = .ok (.iload 5, 2) := by decide +kernel
theorem dX11_moves_82 : decode cX11_moves 82 = .ok (.ishl, 1) := by decide +kernel
theorem dX11_moves_83 : decode cX11_moves 83 = .ok (.ior, 1) := by decide +kernel
theorem dX11_moves_84 : decode cX11_moves 84 = .ok (.istore_n 3, 1) := by decide +kernel
theorem dX11_moves_85 : decode cX11_moves 85 = .ok (.iinc 5 1, 3) := by decide +kernel
theorem dX11_moves_88 : decode cX11_moves 88 = .ok (.goto (-50), 3) := by decide +kernel
theorem dX11_moves_91 : decode cX11_moves 91 = .ok (.iload_n 2, 1) := by decide +kernel
theorem dX11_moves_92 : decode cX11_moves 92 = .ok (.ifCond .ne 7, 3) := by decide +kernel
theorem dX11_moves_95 : decode cX11_moves 95 = .ok (.iload_n 3, 1) := by decide +kernel
theorem dX11_moves_96 : decode cX11_moves 96 = .ok (.goto 5, 3) := by decide +kernel
theorem dX11_moves_99 : decode cX11_moves 99 = .ok (.iload 4, 2) := by decide +kernel
theorem dX11_moves_101 : decode cX11_moves 101 = .ok (.ireturn, 1) := by decide +kernel
theorem dX11_orders_0 : decode cX11_orders 0 = .ok (.aload_n 0, 1) := by decide +kernel
theorem dX11_orders_1 : decode cX11_orders 1 = .ok (.iload_n 1, 1) := by decide +kernel
theorem dX11_orders_2 : decode cX11_orders 2 = .ok (.iload_n 2, 1) := by decide +kernel
theorem dX11_orders_3 : decode cX11_orders 3 = .ok (.iload_n 3, 1) := by decide +kernel
theorem dX11_orders_4 : decode cX11_orders 4 = .ok (.iconst (-1), 1) := by decide +kernel
theorem dX11_orders_5 : decode cX11_orders 5 = .ok (.if_icmp .ge 7, 3) := by decide +kernel
theorem dX11_orders_8 : decode cX11_orders 8 = .ok (.iconst 1, 1) := by decide +kernel
theorem dX11_orders_9 : decode cX11_orders 9 = .ok (.goto 4, 3) := by decide +kernel
theorem dX11_orders_12 : decode cX11_orders 12 = .ok (.iconst 0, 1) := by decide +kernel
theorem dX11_orders_13 : decode cX11_orders 13 = .ok (.invokevirtual 258, 3) := by decide +kernel
theorem dX11_orders_16 : decode cX11_orders 16 = .ok (.istore 4, 2) := by decide +kernel
theorem dX11_orders_18 : decode cX11_orders 18 = .ok (.iload 4, 2) := by decide +kernel
theorem dX11_orders_20 : decode cX11_orders 20 = .ok (.ifCond .eq 10, 3) := by decide +kernel
theorem dX11_orders_23 : decode cX11_orders 23 = .ok (.aload_n 0, 1) := by decide +kernel
theorem dX11_orders_24 : decode cX11_orders 24 = .ok (.iload 4, 2) := by decide +kernel
theorem dX11_orders_26 : decode cX11_orders 26 = .ok (.invokevirtual 95, 3) := by decide +kernel
theorem dX11_orders_29 : decode cX11_orders 29 = .ok (.ireturn, 1) := by decide +kernel
theorem dX11_orders_30 : decode cX11_orders 30 = .ok (.aload_n 0, 1) := by decide +kernel
theorem dX11_orders_31 : decode cX11_orders 31 = .ok (.invokevirtual 262, 3) := by decide +kernel
theorem dX11_orders_34 : decode cX11_orders 34 = .ok (.iconst 0, 1) := by decide +kernel
theorem dX11_orders_35 : decode cX11_orders 35 = .ok (.istore 5, 2) := by decide +kernel
theorem dX11_orders_37 : decode cX11_orders 37 = .ok (.iload 5, 2) := by decide +kernel
theorem dX11_orders_39 : decode cX11_orders 39 = .ok (.iload_n 2, 1) := by decide +kernel
theorem dX11_orders_40 : decode cX11_orders 40 = .ok (.if_icmp .ge 23, 3) := by decide +kernel
theorem dX11_orders_43 : decode cX11_orders 43 = .ok (.aload_n 0, 1) := by decide +kernel
theorem dX11_orders_44 : decode cX11_orders 44 = .ok (.aload_n 0, 1) := by decide +kernel
theorem dX11_orders_45 : decode cX11_orders 45 = .ok (.getfield 18, 3) := by decide +kernel
theorem dX11_orders_48 : decode cX11_orders 48 = .ok (.iload_n 1, 1) := by decide +kernel
theorem dX11_orders_49 : decode cX11_orders 49 = .ok (.aaload, 1) := by decide +kernel
theorem dX11_orders_50 : decode cX11_orders 50 = .ok (.iload 5, 2) := by decide +kernel
theorem dX11_orders_52 : decode cX11_orders 52 = .ok (.laload, 1) := by decide +kernel
theorem dX11_orders_53 : decode cX11_orders 53 = .ok (.l2i, 1) := by decide +kernel
theorem dX11_orders_54 : decode cX11_orders 54 = .ok (.invokevirtual 265, 3) := by decide +kernel
theorem dX11_orders_57 : decode cX11_orders 57 = .ok (.iinc 5 1, 3) := by decide +kernel
theorem dX11_orders_60 : decode cX11_orders 60 = .ok (.goto (-23), 3) := by decide +kernel
theorem dX11_orders_63 : decode cX11_orders 63 = .ok (.iload_n 3, 1) := by decide +kernel
theorem dX11_orders_64 : decode cX11_orders 64 = .ok (.iconst (-1), 1) := by decide +kernel
theorem dX11_orders_65 : decode cX11_orders 65 = .ok (.if_icmp .ne 8, 3) := by decide +kernel
theorem dX11_orders_68 : decode cX11_orders 68 = .ok (.aload_n 0, 1) := by decide +kernel
theorem dX11_orders_69 : decode cX11_orders 69 = .ok (.invokevirtual 269, 3) := by decide +kernel
theorem dX11_orders_72 : decode cX11_orders 72 = .ok (.ireturn, 1) := by decide +kernel
theorem dX11_orders_73 : decode cX11_orders 73 = .ok (.iload_n 3, 1) := by decide +kernel
theorem dX11_orders_74 : decode cX11_orders 74 = .ok (.aload_n 0, 1) := by decide +kernel
theorem dX11_orders_75 : decode cX11_orders 75 = .ok (.getfield 24, 3) := by decide +kernel
theorem dX11_orders_78 : decode cX11_orders 78 = .ok (.invokestatic 272, 3) := by decide +kernel
theorem dX11_orders_81 : decode cX11_orders 81 = .ok (.if_icmp .ge 10, 3) := by decide +kernel
theorem dX11_orders_84 : decode cX11_orders 84 = .ok (.aload_n 0, 1) := by decide +kernel
theorem dX11_orders_85 : decode cX11_orders 85 = .ok (.invokevirtual 277, 3) := by decide +kernel
theorem dX11_orders_88 : decode cX11_orders 88 = .ok (.ifCond .ne 9, 3) := by decide +kernel
theorem dX11_orders_91 : decode cX11_orders 91 = .ok (.aload_n 0, 1) := by decide +kernel
theorem dX11_orders_92 : decode cX11_orders 92 = .ok (.iconst 5, 1) := by decide +kernel
theorem dX11_orders_93 : decode cX11_orders 93 = .ok (.invokevirtual 95, 3) := by decide +kernel
theorem dX11_orders_96 : decode cX11_orders 96 = .ok (.ireturn, 1) := by decide +kernel
theorem dX11_orders_97 : decode cX11_orders 97 = .ok (.aload_n 0, 1) := by decide +kernel
theorem dX11_orders_98 : decode cX11_orders 98 = .ok (.iload_n 3, 1) := by decide +kernel
theorem dX11_orders_99 : decode cX11_orders 99 = .ok (.invokevirtual 281, 3) := by decide +kernel
theorem dX11_orders_102 : decode cX11_orders 102 = .ok (.ireturn, 1) := by decide +kernel
theorem dX11_forged_0 : decode cX11_forged 0 = .ok (.aload_n 0, 1) := by decide +kernel
theorem dX11_forged_1 : decode cX11_forged 1 = .ok (.iload_n 1, 1) := by decide +kernel
theorem dX11_forged_2 : decode cX11_forged 2 = .ok (.iload_n 2, 1) := by decide +kernel
theorem dX11_forged_3 : decode cX11_forged 3 = .ok (.iconst 0, 1) := by decide +kernel
theorem dX11_forged_4 : decode cX11_forged 4 = .ok (.invokevirtual 258, 3) := by decide +kernel
theorem dX11_forged_7 : decode cX11_forged 7 = .ok (.istore_n 3, 1) := by decide +kernel
theorem dX11_forged_8 : decode cX11_forged 8 = .ok (.iload_n 3, 1) := by decide +kernel
theorem dX11_forged_9 : decode cX11_forged 9 = .ok (.ifCond .eq 11, 3) := by decide +kernel
theorem dX11_forged_12 : decode cX11_forged 12 = .ok (.aload_n 0, 1) := by decide +kernel
theorem dX11_forged_13 : decode cX11_forged 13 = .ok (.iload_n 3, 1) := by decide +kernel
theorem dX11_forged_14 : decode cX11_forged 14 = .ok (.bipush 10, 2) := by decide +kernel
theorem dX11_forged_16 : decode cX11_forged 16 = .ok (.invokevirtual 221, 3) := by decide +kernel
theorem dX11_forged_19 : decode cX11_forged 19 = .ok (.ireturn, 1) := by decide +kernel
theorem dX11_forged_20 : decode cX11_forged 20 = .ok (.aload_n 0, 1) := by decide +kernel
theorem dX11_forged_21 : decode cX11_forged 21 = .ok (.invokevirtual 262, 3) := by decide +kernel
theorem dX11_forged_24 : decode cX11_forged 24 = .ok (.iconst 0, 1) := by decide +kernel
theorem dX11_forged_25 : decode cX11_forged 25 = .ok (.istore 4, 2) := by decide +kernel
theorem dX11_forged_27 : decode cX11_forged 27 = .ok (.iload 4, 2) := by decide +kernel
theorem dX11_forged_29 : decode cX11_forged 29 = .ok (.iload_n 2, 1) := by decide +kernel
theorem dX11_forged_30 : decode cX11_forged 30 = .ok (.if_icmp .ge 33, 3) := by decide +kernel
theorem dX11_forged_33 : decode cX11_forged 33 = .ok (.aload_n 0, 1) := by decide +kernel
theorem dX11_forged_34 : decode cX11_forged 34 = .ok (.aload_n 0, 1) := by decide +kernel
theorem dX11_forged_35 : decode cX11_forged 35 = .ok (.getfield 18, 3) := by decide +kernel
theorem dX11_forged_38 : decode cX11_forged 38 = .ok (.iload_n 1, 1) := by decide +kernel
theorem dX11_forged_39 : decode cX11_forged 39 = .ok (.aaload, 1) := by decide +kernel
theorem dX11_forged_40 : decode cX11_forged 40 = .ok (.iload 4, 2) := by decide +kernel
theorem dX11_forged_42 : decode cX11_forged 42 = .ok (.laload, 1) := by decide +kernel
theorem dX11_forged_43 : decode cX11_forged 43 = .ok (.l2i, 1) := by decide +kernel
theorem dX11_forged_44 : decode cX11_forged 44 = .ok (.invokevirtual 265, 3) := by decide +kernel
theorem dX11_forged_47 : decode cX11_forged 47 = .ok (.aload_n 0, 1) := by decide +kernel
theorem dX11_forged_48 : decode cX11_forged 48 = .ok (.invokevirtual 277, 3) := by decide +kernel
theorem dX11_forged_51 : decode cX11_forged 51 = .ok (.ifCond .ne 6, 3) := by decide +kernel
theorem dX11_forged_54 : decode cX11_forged 54 = .ok (.iload 4, 2) := by decide +kernel
theorem dX11_forged_56 : decode cX11_forged 56 = .ok (.ireturn, 1) := by decide +kernel
theorem dX11_forged_57 : decode cX11_forged 57 = .ok (.iinc 4 1, 3) := by decide +kernel
theorem dX11_forged_60 : decode cX11_forged 60 = .ok (.goto (-33), 3) := by decide +kernel
theorem dX11_forged_63 : decode cX11_forged 63 = .ok (.iconst (-1), 1) := by decide +kernel
theorem dX11_forged_64 : decode cX11_forged 64 = .ok (.ireturn, 1) := by decide +kernel
theorem dX11_lane_0 : decode cX11_lane 0 = .ok (.aload_n 0, 1) := by decide +kernel
theorem dX11_lane_1 : decode cX11_lane 1 = .ok (.iload_n 1, 1) := by decide +kernel
theorem dX11_lane_2 : decode cX11_lane 2 = .ok (.invokevirtual 123, 3) := by decide +kernel
theorem dX11_lane_5 : decode cX11_lane 5 = .ok (.ifCond .ne 11, 3) := by decide +kernel
theorem dX11_lane_8 : decode cX11_lane 8 = .ok (.aload_n 0, 1) := by decide +kernel
theorem dX11_lane_9 : decode cX11_lane 9 = .ok (.iload_n 2, 1) := by decide +kernel
theorem dX11_lane_10 : decode cX11_lane 10 = .ok (.invokevirtual 123, 3) := by decide +kernel
theorem dX11_lane_13 : decode cX11_lane 13 = .ok (.ifCond .eq 12, 3) := by decide +kernel
theorem dX11_lane_16 : decode cX11_lane 16 = .ok (.aload_n 0, 1) := by decide +kernel
theorem dX11_lane_17 : decode cX11_lane 17 = .ok (.iconst 1, 1) := by decide +kernel
theorem dX11_lane_18 : decode cX11_lane 18 = .ok (.sipush 1000, 3) := by decide +kernel
theorem dX11_lane_21 : decode cX11_lane 21 = .ok (.invokevirtual 221, 3) := by decide +kernel
theorem dX11_lane_24 : decode cX11_lane 24 = .ok (.ireturn, 1) := by decide +kernel
theorem dX11_lane_25 : decode cX11_lane 25 = .ok (.iload_n 1, 1) := by decide +kernel
theorem dX11_lane_26 : decode cX11_lane 26 = .ok (.iload_n 2, 1) := by decide +kernel
theorem dX11_lane_27 : decode cX11_lane 27 = .ok (.if_icmp .ne 13, 3) := by decide +kernel
theorem dX11_lane_30 : decode cX11_lane 30 = .ok (.aload_n 0, 1) := by decide +kernel
theorem dX11_lane_31 : decode cX11_lane 31 = .ok (.bipush 6, 2) := by decide +kernel
theorem dX11_lane_33 : decode cX11_lane 33 = .ok (.sipush 1000, 3) := by decide +kernel
theorem dX11_lane_36 : decode cX11_lane 36 = .ok (.invokevirtual 221, 3) := by decide +kernel
theorem dX11_lane_39 : decode cX11_lane 39 = .ok (.ireturn, 1) := by decide +kernel
theorem dX11_lane_40 : decode cX11_lane 40 = .ok (.aload_n 0, 1) := by decide +kernel
theorem dX11_lane_41 : decode cX11_lane 41 = .ok (.getfield 81, 3) := by decide +kernel
theorem dX11_lane_44 : decode cX11_lane 44 = .ok (.getfield 176, 3) := by decide +kernel
theorem dX11_lane_47 : decode cX11_lane 47 = .ok (.aload_n 0, 1) := by decide +kernel
theorem dX11_lane_48 : decode cX11_lane 48 = .ok (.getfield 81, 3) := by decide +kernel
theorem dX11_lane_51 : decode cX11_lane 51 = .ok (.getfield 126, 3) := by decide +kernel
theorem dX11_lane_54 : decode cX11_lane 54 = .ok (.iload_n 1, 1) := by decide +kernel
theorem dX11_lane_55 : decode cX11_lane 55 = .ok (.aaload, 1) := by decide +kernel
theorem dX11_lane_56 : decode cX11_lane 56 = .ok (.invokevirtual 284, 3) := by decide +kernel
theorem dX11_lane_59 : decode cX11_lane 59 = .ok (.isub, 1) := by decide +kernel
theorem dX11_lane_60 : decode cX11_lane 60 = .ok (.aload_n 0, 1) := by decide +kernel
theorem dX11_lane_61 : decode cX11_lane 61 = .ok (.getfield 81, 3) := by decide +kernel
theorem dX11_lane_64 : decode cX11_lane 64 = .ok (.getfield 126, 3) := by decide +kernel
theorem dX11_lane_67 : decode cX11_lane 67 = .ok (.iload_n 2, 1) := by decide +kernel
theorem dX11_lane_68 : decode cX11_lane 68 = .ok (.aaload, 1) := by decide +kernel
theorem dX11_lane_69 : decode cX11_lane 69 = .ok (.invokevirtual 284, 3) := by decide +kernel
theorem dX11_lane_72 : decode cX11_lane 72 = .ok (.isub, 1) := by decide +kernel
theorem dX11_lane_73 : decode cX11_lane 73 = .ok (.ireturn, 1) := by decide +kernel
theorem dX11_price_0 : decode cX11_price 0 = .ok (.aload_n 0, 1) := by decide +kernel
theorem dX11_price_1 : decode cX11_price 1 = .ok (.iload_n 1, 1) := by decide +kernel
theorem dX11_price_2 : decode cX11_price 2 = .ok (.invokevirtual 123, 3) := by decide +kernel
theorem dX11_price_5 : decode cX11_price 5 = .ok (.ifCond .eq 9, 3) := by decide +kernel
theorem dX11_price_8 : decode cX11_price 8 = .ok (.aload_n 0, 1) := by decide +kernel
theorem dX11_price_9 : decode cX11_price 9 = .ok (.iconst 1, 1) := by decide +kernel
theorem dX11_price_10 : decode cX11_price 10 = .ok (.invokevirtual 95, 3) := by decide +kernel
theorem dX11_price_13 : decode cX11_price 13 = .ok (.ireturn, 1) := by decide +kernel
theorem dX11_price_14 : decode cX11_price 14 = .ok (.iload_n 2, 1) := by decide +kernel
theorem dX11_price_15 : decode cX11_price 15 = .ok (.bipush 100, 2) := by decide +kernel
theorem dX11_price_17 : decode cX11_price 17 = .ok (.invokestatic 91, 3) := by decide +kernel
theorem dX11_price_20 : decode cX11_price 20 = .ok (.ifCond .eq 10, 3) := by decide +kernel
theorem dX11_price_23 : decode cX11_price 23 = .ok (.aload_n 0, 1) := by decide +kernel
theorem dX11_price_24 : decode cX11_price 24 = .ok (.bipush 6, 2) := by decide +kernel
theorem dX11_price_26 : decode cX11_price 26 = .ok (.invokevirtual 95, 3) := by decide +kernel
theorem dX11_price_29 : decode cX11_price 29 = .ok (.ireturn, 1) := by decide +kernel
theorem dX11_price_30 : decode cX11_price 30 = .ok (.aload_n 0, 1) := by decide +kernel
theorem dX11_price_31 : decode cX11_price 31 = .ok (.getfield 81, 3) := by decide +kernel
theorem dX11_price_34 : decode cX11_price 34 = .ok (.getfield 126, 3) := by decide +kernel
theorem dX11_price_37 : decode cX11_price 37 = .ok (.iload_n 1, 1) := by decide +kernel
theorem dX11_price_38 : decode cX11_price 38 = .ok (.aaload, 1) := by decide +kernel
theorem dX11_price_39 : decode cX11_price 39 = .ok (.astore_n 3, 1) := by decide +kernel
theorem dX11_price_40 : decode cX11_price 40 = .ok (.aload_n 0, 1) := by decide +kernel
theorem dX11_price_41 : decode cX11_price 41 = .ok (.getfield 81, 3) := by decide +kernel
theorem dX11_price_44 : decode cX11_price 44 = .ok (.aload_n 3, 1) := by decide +kernel
theorem dX11_price_45 : decode cX11_price 45 = .ok (.iload_n 2, 1) := by decide +kernel
theorem dX11_price_46 : decode cX11_price 46 = .ok (.invokevirtual 246, 3) := by decide +kernel
theorem dX11_price_49 : decode cX11_price 49 = .ok (.istore 4, 2) := by decide +kernel
theorem dX11_price_51 : decode cX11_price 51 = .ok (.iconst 0, 1) := by decide +kernel
theorem dX11_price_52 : decode cX11_price 52 = .ok (.istore 5, 2) := by decide +kernel
theorem dX11_price_54 : decode cX11_price 54 = .ok (.iconst 0, 1) := by decide +kernel
theorem dX11_price_55 : decode cX11_price 55 = .ok (.istore 6, 2) := by decide +kernel
theorem dX11_price_57 : decode cX11_price 57 = .ok (.iload 6, 2) := by decide +kernel
theorem dX11_price_59 : decode cX11_price 59 = .ok (.aload_n 3, 1) := by decide +kernel
theorem dX11_price_60 : decode cX11_price 60 = .ok (.getfield 157, 3) := by decide +kernel
theorem dX11_price_63 : decode cX11_price 63 = .ok (.if_icmp .ge 33, 3) := by decide +kernel
theorem dX11_price_66 : decode cX11_price 66 = .ok (.iload 4, 2) := by decide +kernel
theorem dX11_price_68 : decode cX11_price 68 = .ok (.iload 6, 2) := by decide +kernel
theorem dX11_price_70 : decode cX11_price 70 = .ok (.ishr, 1) := by decide +kernel
theorem dX11_price_71 : decode cX11_price 71 = .ok (.iconst 1, 1) := by decide +kernel
theorem dX11_price_72 : decode cX11_price 72 = .ok (.iand, 1) := by decide +kernel
theorem dX11_price_73 : decode cX11_price 73 = .ok (.ifCond .eq 17, 3) := by decide +kernel
theorem dX11_price_76 : decode cX11_price 76 = .ok (.iload 5, 2) := by decide +kernel
theorem dX11_price_78 : decode cX11_price 78 = .ok (.iconst 1, 1) := by decide +kernel
theorem dX11_price_79 : decode cX11_price 79 = .ok (.aload_n 3, 1) := by decide +kernel
theorem dX11_price_80 : decode cX11_price 80 = .ok (.getfield 192, 3) := by decide +kernel
theorem dX11_price_83 : decode cX11_price 83 = .ok (.iload 6, 2) := by decide +kernel
theorem dX11_price_85 : decode cX11_price 85 = .ok (.iaload, 1) := by decide +kernel
theorem dX11_price_86 : decode cX11_price 86 = .ok (.ishl, 1) := by decide +kernel
theorem dX11_price_87 : decode cX11_price 87 = .ok (.ior, 1) := by decide +kernel
theorem dX11_price_88 : decode cX11_price 88 = .ok (.istore 5, 2) := by decide +kernel
theorem dX11_price_90 : decode cX11_price 90 = .ok (.iinc 6 1, 3) := by decide +kernel
theorem dX11_price_93 : decode cX11_price 93 = .ok (.goto (-36), 3) := by decide +kernel
theorem dX11_price_96 : decode cX11_price 96 = .ok (.iconst 0, 1) := by decide +kernel
theorem dX11_price_97 : decode cX11_price 97 = .ok (.istore 6, 2) := by decide +kernel
theorem dX11_price_99 : decode cX11_price 99 = .ok (.iconst 0, 1) := by decide +kernel
theorem dX11_price_100 : decode cX11_price 100 = .ok (.istore 7, 2) := by decide +kernel
theorem dX11_price_102 : decode cX11_price 102 = .ok (.iload 7, 2) := by decide +kernel
theorem dX11_price_104 : decode cX11_price 104 = .ok (.bipush 6, 2) := by decide +kernel
theorem dX11_price_106 : decode cX11_price 106 = .ok (.if_icmp .ge 34, 3) := by decide +kernel
theorem dX11_price_109 : decode cX11_price 109 = .ok (.iload 5, 2) := by decide +kernel
theorem dX11_price_111 : decode cX11_price 111 = .ok (.iload 7, 2) := by decide +kernel
theorem dX11_price_113 : decode cX11_price 113 = .ok (.ishr, 1) := by decide +kernel
theorem dX11_price_114 : decode cX11_price 114 = .ok (.iconst 1, 1) := by decide +kernel
theorem dX11_price_115 : decode cX11_price 115 = .ok (.iand, 1) := by decide +kernel
theorem dX11_price_116 : decode cX11_price 116 = .ok (.ifCond .eq 18, 3) := by decide +kernel
theorem dX11_price_119 : decode cX11_price 119 = .ok (.iload 6, 2) := by decide +kernel
theorem dX11_price_121 : decode cX11_price 121 = .ok (.aload_n 0, 1) := by decide +kernel
theorem dX11_price_122 : decode cX11_price 122 = .ok (.getfield 81, 3) := by decide +kernel
theorem dX11_price_125 : decode cX11_price 125 = .ok (.getfield 170, 3) := by decide +kernel
theorem dX11_price_128 : decode cX11_price 128 = .ok (.iload 7, 2) := by decide +kernel
theorem dX11_price_130 : decode cX11_price 130 = .ok (.iaload, 1) := by decide +kernel
theorem dX11_price_131 : decode cX11_price 131 = .ok (.iadd, 1) := by decide +kernel
theorem dX11_price_132 : decode cX11_price 132 = .ok (.istore 6, 2) := by decide +kernel
theorem dX11_price_134 : decode cX11_price 134 = .ok (.iinc 7 1, 3) := by decide +kernel
theorem dX11_price_137 : decode cX11_price 137 = .ok (.goto (-35), 3) := by decide +kernel
theorem dX11_price_140 : decode cX11_price 140 = .ok (.iload 6, 2) := by decide +kernel
theorem dX11_price_142 : decode cX11_price 142 = .ok (.ireturn, 1) := by decide +kernel
theorem dX11_hail_0 : decode cX11_hail 0 = .ok (.iload_n 1, 1) := by decide +kernel
theorem dX11_hail_1 : decode cX11_hail 1 = .ok (.bipush 100, 2) := by decide +kernel
theorem dX11_hail_3 : decode cX11_hail 3 = .ok (.invokestatic 91, 3) := by decide +kernel
theorem dX11_hail_6 : decode cX11_hail 6 = .ok (.ifCond .eq 10, 3) := by decide +kernel
theorem dX11_hail_9 : decode cX11_hail 9 = .ok (.aload_n 0, 1) := by decide +kernel
theorem dX11_hail_10 : decode cX11_hail 10 = .ok (.bipush 6, 2) := by decide +kernel
theorem dX11_hail_12 : decode cX11_hail 12 = .ok (.invokevirtual 95, 3) := by decide +kernel
theorem dX11_hail_15 : decode cX11_hail 15 = .ok (.ireturn, 1) := by decide +kernel
theorem dX11_hail_16 : decode cX11_hail 16 = .ok (.aload_n 0, 1) := by decide +kernel
theorem dX11_hail_17 : decode cX11_hail 17 = .ok (.getfield 81, 3) := by decide +kernel
theorem dX11_hail_20 : decode cX11_hail 20 = .ok (.iload_n 1, 1) := by decide +kernel
theorem dX11_hail_21 : decode cX11_hail 21 = .ok (.invokevirtual 287, 3) := by decide +kernel
theorem dX11_hail_24 : decode cX11_hail 24 = .ok (.ireturn, 1) := by decide +kernel
theorem dX11_scratch_0 : decode cX11_scratch 0 = .ok (.aload_n 0, 1) := by decide +kernel
theorem dX11_scratch_1 : decode cX11_scratch 1 = .ok (.iload_n 1, 1) := by decide +kernel
theorem dX11_scratch_2 : decode cX11_scratch 2 = .ok (.invokevirtual 123, 3) := by decide +kernel
theorem dX11_scratch_5 : decode cX11_scratch 5 = .ok (.ifCond .eq 9, 3) := by decide +kernel
theorem dX11_scratch_8 : decode cX11_scratch 8 = .ok (.aload_n 0, 1) := by decide +kernel
theorem dX11_scratch_9 : decode cX11_scratch 9 = .ok (.iconst 1, 1) := by decide +kernel
theorem dX11_scratch_10 : decode cX11_scratch 10 = .ok (.invokevirtual 95, 3) := by decide +kernel
theorem dX11_scratch_13 : decode cX11_scratch 13 = .ok (.ireturn, 1) := by decide +kernel
theorem dX11_scratch_14 : decode cX11_scratch 14 = .ok (.iload_n 2, 1) := by decide +kernel
theorem dX11_scratch_15 : decode cX11_scratch 15 = .ok (.bipush 12, 2) := by decide +kernel
theorem dX11_scratch_17 : decode cX11_scratch 17 = .ok (.invokestatic 91, 3) := by decide +kernel
theorem dX11_scratch_20 : decode cX11_scratch 20 = .ok (.ifCond .eq 9, 3) := by decide +kernel
theorem dX11_scratch_23 : decode cX11_scratch 23 = .ok (.aload_n 0, 1) := by decide +kernel
theorem dX11_scratch_24 : decode cX11_scratch 24 = .ok (.iconst 5, 1) := by decide +kernel
theorem dX11_scratch_25 : decode cX11_scratch 25 = .ok (.invokevirtual 95, 3) := by decide +kernel
theorem dX11_scratch_28 : decode cX11_scratch 28 = .ok (.ireturn, 1) := by decide +kernel
theorem dX11_scratch_29 : decode cX11_scratch 29 = .ok (.aload_n 0, 1) := by decide +kernel
theorem dX11_scratch_30 : decode cX11_scratch 30 = .ok (.getfield 81, 3) := by decide +kernel
theorem dX11_scratch_33 : decode cX11_scratch 33 = .ok (.getfield 126, 3) := by decide +kernel
theorem dX11_scratch_36 : decode cX11_scratch 36 = .ok (.iload_n 1, 1) := by decide +kernel
theorem dX11_scratch_37 : decode cX11_scratch 37 = .ok (.aaload, 1) := by decide +kernel
theorem dX11_scratch_38 : decode cX11_scratch 38 = .ok (.astore_n 3, 1) := by decide +kernel
theorem dX11_scratch_39 : decode cX11_scratch 39 = .ok (.aload_n 3, 1) := by decide +kernel
theorem dX11_scratch_40 : decode cX11_scratch 40 = .ok (.iload_n 2, 1) := by decide +kernel
theorem dX11_scratch_41 : decode cX11_scratch 41 = .ok (.invokevirtual 224, 3) := by decide +kernel
theorem dX11_scratch_44 : decode cX11_scratch 44 = .ok (.ifCond .ne 10, 3) := by decide +kernel
theorem dX11_scratch_47 : decode cX11_scratch 47 = .ok (.aload_n 0, 1) := by decide +kernel
theorem dX11_scratch_48 : decode cX11_scratch 48 = .ok (.bipush 6, 2) := by decide +kernel
theorem dX11_scratch_50 : decode cX11_scratch 50 = .ok (.invokevirtual 95, 3) := by decide +kernel
theorem dX11_scratch_53 : decode cX11_scratch 53 = .ok (.ireturn, 1) := by decide +kernel
theorem dX11_scratch_54 : decode cX11_scratch 54 = .ok (.aload_n 3, 1) := by decide +kernel
theorem dX11_scratch_55 : decode cX11_scratch 55 = .ok (.iload_n 2, 1) := by decide +kernel
theorem dX11_scratch_56 : decode cX11_scratch 56 = .ok (.invokevirtual 290, 3) := by decide +kernel
theorem dX11_scratch_59 : decode cX11_scratch 59 = .ok (.ireturn, 1) := by decide +kernel
theorem dX11_falls_0 : decode cX11_falls 0 = .ok (.aload_n 0, 1) := by decide +kernel
theorem dX11_falls_1 : decode cX11_falls 1 = .ok (.getfield 81, 3) := by decide +kernel
theorem dX11_falls_4 : decode cX11_falls 4 = .ok (.invokevirtual 293, 3) := by decide +kernel
theorem dX11_falls_7 : decode cX11_falls 7 = .ok (.ireturn, 1) := by decide +kernel
theorem dX11_years_0 : decode cX11_years 0 = .ok (.aload_n 0, 1) := by decide +kernel
theorem dX11_years_1 : decode cX11_years 1 = .ok (.getfield 81, 3) := by decide +kernel
theorem dX11_years_4 : decode cX11_years 4 = .ok (.getfield 144, 3) := by decide +kernel
theorem dX11_years_7 : decode cX11_years 7 = .ok (.ifCond .ne 9, 3) := by decide +kernel
theorem dX11_years_10 : decode cX11_years 10 = .ok (.aload_n 0, 1) := by decide +kernel
theorem dX11_years_11 : decode cX11_years 11 = .ok (.iconst 5, 1) := by decide +kernel
theorem dX11_years_12 : decode cX11_years 12 = .ok (.invokevirtual 95, 3) := by decide +kernel
theorem dX11_years_15 : decode cX11_years 15 = .ok (.ireturn, 1) := by decide +kernel
theorem dX11_years_16 : decode cX11_years 16 = .ok (.iload_n 1, 1) := by decide +kernel
theorem dX11_years_17 : decode cX11_years 17 = .ok (.iconst 1, 1) := by decide +kernel
theorem dX11_years_18 : decode cX11_years 18 = .ok (.if_icmp .lt 9, 3) := by decide +kernel
theorem dX11_years_21 : decode cX11_years 21 = .ok (.iload_n 1, 1) := by decide +kernel
theorem dX11_years_22 : decode cX11_years 22 = .ok (.bipush 40, 2) := by decide +kernel
theorem dX11_years_24 : decode cX11_years 24 = .ok (.if_icmp .le 10, 3) := by decide +kernel
theorem dX11_years_27 : decode cX11_years 27 = .ok (.aload_n 0, 1) := by decide +kernel
theorem dX11_years_28 : decode cX11_years 28 = .ok (.bipush 6, 2) := by decide +kernel
theorem dX11_years_30 : decode cX11_years 30 = .ok (.invokevirtual 95, 3) := by decide +kernel
theorem dX11_years_33 : decode cX11_years 33 = .ok (.ireturn, 1) := by decide +kernel
theorem dX11_years_34 : decode cX11_years 34 = .ok (.aload_n 0, 1) := by decide +kernel
theorem dX11_years_35 : decode cX11_years 35 = .ok (.getfield 81, 3) := by decide +kernel
theorem dX11_years_38 : decode cX11_years 38 = .ok (.getfield 296, 3) := by decide +kernel
theorem dX11_years_41 : decode cX11_years 41 = .ok (.istore_n 2, 1) := by decide +kernel
theorem dX11_years_42 : decode cX11_years 42 = .ok (.iconst 0, 1) := by decide +kernel
theorem dX11_years_43 : decode cX11_years 43 = .ok (.istore_n 3, 1) := by decide +kernel
theorem dX11_years_44 : decode cX11_years 44 = .ok (.iload_n 3, 1) := by decide +kernel
theorem dX11_years_45 : decode cX11_years 45 = .ok (.iload_n 1, 1) := by decide +kernel
theorem dX11_years_46 : decode cX11_years 46 = .ok (.if_icmp .ge 16, 3) := by decide +kernel
theorem dX11_years_49 : decode cX11_years 49 = .ok (.aload_n 0, 1) := by decide +kernel
theorem dX11_years_50 : decode cX11_years 50 = .ok (.getfield 81, 3) := by decide +kernel
theorem dX11_years_53 : decode cX11_years 53 = .ok (.invokevirtual 299, 3) := by decide +kernel
theorem dX11_years_56 : decode cX11_years 56 = .ok (.iinc 3 1, 3) := by decide +kernel
theorem dX11_years_59 : decode cX11_years 59 = .ok (.goto (-15), 3) := by decide +kernel
theorem dX11_years_62 : decode cX11_years 62 = .ok (.aload_n 0, 1) := by decide +kernel
theorem dX11_years_63 : decode cX11_years 63 = .ok (.getfield 81, 3) := by decide +kernel
theorem dX11_years_66 : decode cX11_years 66 = .ok (.getfield 296, 3) := by decide +kernel
theorem dX11_years_69 : decode cX11_years 69 = .ok (.iload_n 2, 1) := by decide +kernel
theorem dX11_years_70 : decode cX11_years 70 = .ok (.isub, 1) := by decide +kernel
theorem dX11_years_71 : decode cX11_years 71 = .ok (.ireturn, 1) := by decide +kernel
theorem dX11_seed_0 : decode cX11_seed 0 = .ok (.aload_n 0, 1) := by decide +kernel
theorem dX11_seed_1 : decode cX11_seed 1 = .ok (.getfield 81, 3) := by decide +kernel
theorem dX11_seed_4 : decode cX11_seed 4 = .ok (.getfield 302, 3) := by decide +kernel
theorem dX11_seed_7 : decode cX11_seed 7 = .ok (.istore_n 2, 1) := by decide +kernel
theorem dX11_seed_8 : decode cX11_seed 8 = .ok (.aload_n 0, 1) := by decide +kernel
theorem dX11_seed_9 : decode cX11_seed 9 = .ok (.getfield 81, 3) := by decide +kernel
theorem dX11_seed_12 : decode cX11_seed 12 = .ok (.iload_n 1, 1) := by decide +kernel
theorem dX11_seed_13 : decode cX11_seed 13 = .ok (.putfield 302, 3) := by decide +kernel
theorem dX11_seed_16 : decode cX11_seed 16 = .ok (.iload_n 2, 1) := by decide +kernel
theorem dX11_seed_17 : decode cX11_seed 17 = .ok (.ireturn, 1) := by decide +kernel
theorem dX11_act_0 : decode cX11_act 0 = .ok (.aload_n 0, 1) := by decide +kernel
theorem dX11_act_1 : decode cX11_act 1 = .ok (.getfield 51, 3) := by decide +kernel
theorem dX11_act_4 : decode cX11_act 4 = .ok (.iconst 0, 1) := by decide +kernel
theorem dX11_act_5 : decode cX11_act 5 = .ok (.putfield 305, 3) := by decide +kernel
theorem dX11_act_8 : decode cX11_act 8 = .ok (.aload_n 0, 1) := by decide +kernel
theorem dX11_act_9 : decode cX11_act 9 = .ok (.iload_n 1, 1) := by decide +kernel
theorem dX11_act_10 : decode cX11_act 10 = .ok (.invokevirtual 123, 3) := by decide +kernel
theorem dX11_act_13 : decode cX11_act 13 = .ok (.ifCond .eq 5, 3) := by decide +kernel
theorem dX11_act_16 : decode cX11_act 16 = .ok (.iconst 0, 1) := by decide +kernel
theorem dX11_act_17 : decode cX11_act 17 = .ok (.ireturn, 1) := by decide +kernel
theorem dX11_act_18 : decode cX11_act 18 = .ok (.aload_n 0, 1) := by decide +kernel
theorem dX11_act_19 : decode cX11_act 19 = .ok (.getfield 81, 3) := by decide +kernel
theorem dX11_act_22 : decode cX11_act 22 = .ok (.getfield 126, 3) := by decide +kernel
theorem dX11_act_25 : decode cX11_act 25 = .ok (.iload_n 1, 1) := by decide +kernel
theorem dX11_act_26 : decode cX11_act 26 = .ok (.aaload, 1) := by decide +kernel
theorem dX11_act_27 : decode cX11_act 27 = .ok (.astore 4, 2) := by decide +kernel
theorem dX11_act_29 : decode cX11_act 29 = .ok (.aload_n 0, 1) := by decide +kernel
theorem dX11_act_30 : decode cX11_act 30 = .ok (.getfield 51, 3) := by decide +kernel
theorem dX11_act_33 : decode cX11_act 33 = .ok (.iload_n 1, 1) := by decide +kernel
theorem dX11_act_34 : decode cX11_act 34 = .ok (.putfield 308, 3) := by decide +kernel
theorem dX11_act_37 : decode cX11_act 37 = .ok (.aload_n 0, 1) := by decide +kernel
theorem dX11_act_38 : decode cX11_act 38 = .ok (.getfield 51, 3) := by decide +kernel
theorem dX11_act_41 : decode cX11_act 41 = .ok (.aload 4, 2) := by decide +kernel
theorem dX11_act_43 : decode cX11_act 43 = .ok (.getfield 154, 3) := by decide +kernel
theorem dX11_act_46 : decode cX11_act 46 = .ok (.putfield 311, 3) := by decide +kernel
theorem dX11_act_49 : decode cX11_act 49 = .ok (.iload_n 2, 1) := by decide +kernel
theorem dX11_act_50 : decode cX11_act 50 = .ok (.tableswitch 68 0 2 #[26, 40, 54], 26) := by decide +kernel
theorem dX11_act_76 : decode cX11_act 76 = .ok (.aload 4, 2) := by decide +kernel
theorem dX11_act_78 : decode cX11_act 78 = .ok (.getfield 130, 3) := by decide +kernel
theorem dX11_act_81 : decode cX11_act 81 = .ok (.aload_n 0, 1) := by decide +kernel
theorem dX11_act_82 : decode cX11_act 82 = .ok (.getfield 51, 3) := by decide +kernel
theorem dX11_act_85 : decode cX11_act 85 = .ok (.iload_n 3, 1) := by decide +kernel
theorem dX11_act_86 : decode cX11_act 86 = .ok (.invokevirtual 314, 3) := by decide +kernel
theorem dX11_act_89 : decode cX11_act 89 = .ok (.ireturn, 1) := by decide +kernel
theorem dX11_act_90 : decode cX11_act 90 = .ok (.aload 4, 2) := by decide +kernel
theorem dX11_act_92 : decode cX11_act 92 = .ok (.getfield 130, 3) := by decide +kernel
theorem dX11_act_95 : decode cX11_act 95 = .ok (.aload_n 0, 1) := by decide +kernel
theorem dX11_act_96 : decode cX11_act 96 = .ok (.getfield 51, 3) := by decide +kernel
theorem dX11_act_99 : decode cX11_act 99 = .ok (.iload_n 3, 1) := by decide +kernel
theorem dX11_act_100 : decode cX11_act 100 = .ok (.invokevirtual 318, 3) := by decide +kernel
theorem dX11_act_103 : decode cX11_act 103 = .ok (.ireturn, 1) := by decide +kernel
theorem dX11_act_104 : decode cX11_act 104 = .ok (.aload 4, 2) := by decide +kernel
theorem dX11_act_106 : decode cX11_act 106 = .ok (.getfield 130, 3) := by decide +kernel
theorem dX11_act_109 : decode cX11_act 109 = .ok (.aload_n 0, 1) := by decide +kernel
theorem dX11_act_110 : decode cX11_act 110 = .ok (.getfield 51, 3) := by decide +kernel
theorem dX11_act_113 : decode cX11_act 113 = .ok (.iload_n 3, 1) := by decide +kernel
theorem dX11_act_114 : decode cX11_act 114 = .ok (.invokevirtual 321, 3) := by decide +kernel
theorem dX11_act_117 : decode cX11_act 117 = .ok (.ireturn, 1) := by decide +kernel
theorem dX11_act_118 : decode cX11_act 118 = .ok (.iconst 0, 1) := by decide +kernel
theorem dX11_act_119 : decode cX11_act 119 = .ok (.ireturn, 1) := by decide +kernel
theorem dX11_trace_0 : decode cX11_trace 0 = .ok (.iload_n 1, 1) := by decide +kernel
theorem dX11_trace_1 : decode cX11_trace 1 = .ok (.aload_n 0, 1) := by decide +kernel
theorem dX11_trace_2 : decode cX11_trace 2 = .ok (.getfield 51, 3) := by decide +kernel
theorem dX11_trace_5 : decode cX11_trace 5 = .ok (.getfield 305, 3) := by decide +kernel
theorem dX11_trace_8 : decode cX11_trace 8 = .ok (.invokestatic 91, 3) := by decide +kernel
theorem dX11_trace_11 : decode cX11_trace 11 = .ok (.ifCond .ne 9, 3) := by decide +kernel
theorem dX11_trace_14 : decode cX11_trace 14 = .ok (.iload_n 1, 1) := by decide +kernel
theorem dX11_trace_15 : decode cX11_trace 15 = .ok (.bipush 20, 2) := by decide +kernel
theorem dX11_trace_17 : decode cX11_trace 17 = .ok (.if_icmp .lt 5, 3) := by decide +kernel
theorem dX11_trace_20 : decode cX11_trace 20 = .ok (.iconst (-1), 1) := by decide +kernel
theorem dX11_trace_21 : decode cX11_trace 21 = .ok (.ireturn, 1) := by decide +kernel
theorem dX11_trace_22 : decode cX11_trace 22 = .ok (.aload_n 0, 1) := by decide +kernel
theorem dX11_trace_23 : decode cX11_trace 23 = .ok (.getfield 51, 3) := by decide +kernel
theorem dX11_trace_26 : decode cX11_trace 26 = .ok (.getfield 324, 3) := by decide +kernel
theorem dX11_trace_29 : decode cX11_trace 29 = .ok (.iload_n 1, 1) := by decide +kernel
theorem dX11_trace_30 : decode cX11_trace 30 = .ok (.iaload, 1) := by decide +kernel
theorem dX11_trace_31 : decode cX11_trace 31 = .ok (.ireturn, 1) := by decide +kernel
theorem dX11_image_0 : decode cX11_image 0 = .ok (.aload_n 0, 1) := by decide +kernel
theorem dX11_image_1 : decode cX11_image 1 = .ok (.getfield 88, 3) := by decide +kernel
theorem dX11_image_4 : decode cX11_image 4 = .ok (.aload_n 0, 1) := by decide +kernel
theorem dX11_image_5 : decode cX11_image 5 = .ok (.getfield 81, 3) := by decide +kernel
theorem dX11_image_8 : decode cX11_image 8 = .ok (.invokevirtual 210, 3) := by decide +kernel
theorem dX11_image_11 : decode cX11_image 11 = .ok (.aload_n 0, 1) := by decide +kernel
theorem dX11_image_12 : decode cX11_image 12 = .ok (.iconst 1, 1) := by decide +kernel
theorem dX11_image_13 : decode cX11_image 13 = .ok (.putfield 34, 3) := by decide +kernel
theorem dX11_image_16 : decode cX11_image 16 = .ok (.aload_n 0, 1) := by decide +kernel
theorem dX11_image_17 : decode cX11_image 17 = .ok (.getfield 81, 3) := by decide +kernel
theorem dX11_image_20 : decode cX11_image 20 = .ok (.getfield 144, 3) := by decide +kernel
theorem dX11_image_23 : decode cX11_image 23 = .ok (.ireturn, 1) := by decide +kernel
theorem dX11_restore_0 : decode cX11_restore 0 = .ok (.aload_n 0, 1) := by decide +kernel
theorem dX11_restore_1 : decode cX11_restore 1 = .ok (.getfield 34, 3) := by decide +kernel
theorem dX11_restore_4 : decode cX11_restore 4 = .ok (.ifCond .ne 10, 3) := by decide +kernel
theorem dX11_restore_7 : decode cX11_restore 7 = .ok (.aload_n 0, 1) := by decide +kernel
theorem dX11_restore_8 : decode cX11_restore 8 = .ok (.bipush 6, 2) := by decide +kernel
theorem dX11_restore_10 : decode cX11_restore 10 = .ok (.invokevirtual 95, 3) := by decide +kernel
theorem dX11_restore_13 : decode cX11_restore 13 = .ok (.ireturn, 1) := by decide +kernel
theorem dX11_restore_14 : decode cX11_restore 14 = .ok (.aload_n 0, 1) := by decide +kernel
theorem dX11_restore_15 : decode cX11_restore 15 = .ok (.getfield 81, 3) := by decide +kernel
theorem dX11_restore_18 : decode cX11_restore 18 = .ok (.aload_n 0, 1) := by decide +kernel
theorem dX11_restore_19 : decode cX11_restore 19 = .ok (.getfield 88, 3) := by decide +kernel
theorem dX11_restore_22 : decode cX11_restore 22 = .ok (.invokevirtual 210, 3) := by decide +kernel
theorem dX11_restore_25 : decode cX11_restore 25 = .ok (.iconst 0, 1) := by decide +kernel
theorem dX11_restore_26 : decode cX11_restore 26 = .ok (.istore_n 1, 1) := by decide +kernel
theorem dX11_restore_27 : decode cX11_restore 27 = .ok (.iload_n 1, 1) := by decide +kernel
theorem dX11_restore_28 : decode cX11_restore 28 = .ok (.bipush 8, 2) := by decide +kernel
theorem dX11_restore_30 : decode cX11_restore 30 = .ok (.if_icmp .ge 37, 3) := by decide +kernel
theorem dX11_restore_33 : decode cX11_restore 33 = .ok (.aload_n 0, 1) := by decide +kernel
theorem dX11_restore_34 : decode cX11_restore 34 = .ok (.iload_n 1, 1) := by decide +kernel
theorem dX11_restore_35 : decode cX11_restore 35 = .ok (.invokevirtual 106, 3) := by decide +kernel
theorem dX11_restore_38 : decode cX11_restore 38 = .ok (.ifCond .eq 23, 3) := by decide +kernel
theorem dX11_restore_41 : decode cX11_restore 41 = .ok (.aload_n 0, 1) := by decide +kernel
theorem dX11_restore_42 : decode cX11_restore 42 = .ok (.aload_n 0, 1) := by decide +kernel
theorem dX11_restore_43 : decode cX11_restore 43 = .ok (.getfield 9, 3) := by decide +kernel
theorem dX11_restore_46 : decode cX11_restore 46 = .ok (.iload_n 1, 1) := by decide +kernel
theorem dX11_restore_47 : decode cX11_restore 47 = .ok (.iaload, 1) := by decide +kernel
theorem dX11_restore_48 : decode cX11_restore 48 = .ok (.invokevirtual 123, 3) := by decide +kernel
theorem dX11_restore_51 : decode cX11_restore 51 = .ok (.ifCond .eq 10, 3) := by decide +kernel
theorem dX11_restore_54 : decode cX11_restore 54 = .ok (.aload_n 0, 1) := by decide +kernel
theorem dX11_restore_55 : decode cX11_restore 55 = .ok (.getfield 9, 3) := by decide +kernel
theorem dX11_restore_58 : decode cX11_restore 58 = .ok (.iload_n 1, 1) := by decide +kernel
theorem dX11_restore_59 : decode cX11_restore 59 = .ok (.iconst (-1), 1) := by decide +kernel
theorem dX11_restore_60 : decode cX11_restore 60 = .ok (.iastore, 1) := by decide +kernel
theorem dX11_restore_61 : decode cX11_restore 61 = .ok (.iinc 1 1, 3) := by decide +kernel
theorem dX11_restore_64 : decode cX11_restore 64 = .ok (.goto (-37), 3) := by decide +kernel
theorem dX11_restore_67 : decode cX11_restore 67 = .ok (.aload_n 0, 1) := by decide +kernel
theorem dX11_restore_68 : decode cX11_restore 68 = .ok (.getfield 81, 3) := by decide +kernel
theorem dX11_restore_71 : decode cX11_restore 71 = .ok (.getfield 144, 3) := by decide +kernel
theorem dX11_restore_74 : decode cX11_restore 74 = .ok (.ireturn, 1) := by decide +kernel
theorem dX11_status_0 : decode cX11_status 0 = .ok (.iload_n 1, 1) := by decide +kernel
theorem dX11_status_1 : decode cX11_status 1 = .ok (.bipush 10, 2) := by decide +kernel
theorem dX11_status_3 : decode cX11_status 3 = .ok (.if_icmp .le 19, 3) := by decide +kernel
theorem dX11_status_6 : decode cX11_status 6 = .ok (.iload_n 1, 1) := by decide +kernel
theorem dX11_status_7 : decode cX11_status 7 = .ok (.bipush 17, 2) := by decide +kernel
theorem dX11_status_9 : decode cX11_status 9 = .ok (.if_icmp .gt 13, 3) := by decide +kernel
theorem dX11_status_12 : decode cX11_status 12 = .ok (.aload_n 0, 1) := by decide +kernel
theorem dX11_status_13 : decode cX11_status 13 = .ok (.getfield 21, 3) := by decide +kernel
theorem dX11_status_16 : decode cX11_status 16 = .ok (.iload_n 1, 1) := by decide +kernel
theorem dX11_status_17 : decode cX11_status 17 = .ok (.bipush 10, 2) := by decide +kernel
theorem dX11_status_19 : decode cX11_status 19 = .ok (.isub, 1) := by decide +kernel
theorem dX11_status_20 : decode cX11_status 20 = .ok (.iaload, 1) := by decide +kernel
theorem dX11_status_21 : decode cX11_status 21 = .ok (.ireturn, 1) := by decide +kernel
theorem dX11_status_22 : decode cX11_status 22 = .ok (.iload_n 1, 1) := by decide +kernel
theorem dX11_status_23 : decode cX11_status 23 = .ok (.tableswitch 109 0 7 #[45, 53, 61, 69, 77, 85, 93, 101], 45) := by decide +kernel
theorem dX11_status_68 : decode cX11_status 68 = .ok (.aload_n 0, 1) := by decide +kernel
theorem dX11_status_69 : decode cX11_status 69 = .ok (.getfield 81, 3) := by decide +kernel
theorem dX11_status_72 : decode cX11_status 72 = .ok (.getfield 144, 3) := by decide +kernel
theorem dX11_status_75 : decode cX11_status 75 = .ok (.ireturn, 1) := by decide +kernel
theorem dX11_status_76 : decode cX11_status 76 = .ok (.aload_n 0, 1) := by decide +kernel
theorem dX11_status_77 : decode cX11_status 77 = .ok (.getfield 81, 3) := by decide +kernel
theorem dX11_status_80 : decode cX11_status 80 = .ok (.invokevirtual 327, 3) := by decide +kernel
theorem dX11_status_83 : decode cX11_status 83 = .ok (.ireturn, 1) := by decide +kernel
theorem dX11_status_84 : decode cX11_status 84 = .ok (.aload_n 0, 1) := by decide +kernel
theorem dX11_status_85 : decode cX11_status 85 = .ok (.getfield 81, 3) := by decide +kernel
theorem dX11_status_88 : decode cX11_status 88 = .ok (.getfield 173, 3) := by decide +kernel
theorem dX11_status_91 : decode cX11_status 91 = .ok (.ireturn, 1) := by decide +kernel
theorem dX11_status_92 : decode cX11_status 92 = .ok (.aload_n 0, 1) := by decide +kernel
theorem dX11_status_93 : decode cX11_status 93 = .ok (.getfield 81, 3) := by decide +kernel
theorem dX11_status_96 : decode cX11_status 96 = .ok (.getfield 176, 3) := by decide +kernel
theorem dX11_status_99 : decode cX11_status 99 = .ok (.ireturn, 1) := by decide +kernel
theorem dX11_status_100 : decode cX11_status 100 = .ok (.aload_n 0, 1) := by decide +kernel
theorem dX11_status_101 : decode cX11_status 101 = .ok (.getfield 81, 3) := by decide +kernel
theorem dX11_status_104 : decode cX11_status 104 = .ok (.getfield 179, 3) := by decide +kernel
theorem dX11_status_107 : decode cX11_status 107 = .ok (.ireturn, 1) := by decide +kernel
theorem dX11_status_108 : decode cX11_status 108 = .ok (.aload_n 0, 1) := by decide +kernel
theorem dX11_status_109 : decode cX11_status 109 = .ok (.getfield 81, 3) := by decide +kernel
theorem dX11_status_112 : decode cX11_status 112 = .ok (.getfield 296, 3) := by decide +kernel
theorem dX11_status_115 : decode cX11_status 115 = .ok (.ireturn, 1) := by decide +kernel
theorem dX11_status_116 : decode cX11_status 116 = .ok (.aload_n 0, 1) := by decide +kernel
theorem dX11_status_117 : decode cX11_status 117 = .ok (.getfield 81, 3) := by decide +kernel
theorem dX11_status_120 : decode cX11_status 120 = .ok (.getfield 302, 3) := by decide +kernel
theorem dX11_status_123 : decode cX11_status 123 = .ok (.ireturn, 1) := by decide +kernel
theorem dX11_status_124 : decode cX11_status 124 = .ok (.aload_n 0, 1) := by decide +kernel
theorem dX11_status_125 : decode cX11_status 125 = .ok (.getfield 51, 3) := by decide +kernel
theorem dX11_status_128 : decode cX11_status 128 = .ok (.getfield 305, 3) := by decide +kernel
theorem dX11_status_131 : decode cX11_status 131 = .ok (.ireturn, 1) := by decide +kernel
theorem dX11_status_132 : decode cX11_status 132 = .ok (.iconst (-1), 1) := by decide +kernel
theorem dX11_status_133 : decode cX11_status 133 = .ok (.ireturn, 1) := by decide +kernel
theorem dX11_refuse_0 : decode cX11_refuse 0 = .ok (.aload_n 0, 1) := by decide +kernel
theorem dX11_refuse_1 : decode cX11_refuse 1 = .ok (.iload_n 1, 1) := by decide +kernel
theorem dX11_refuse_2 : decode cX11_refuse 2 = .ok (.iconst 0, 1) := by decide +kernel
theorem dX11_refuse_3 : decode cX11_refuse 3 = .ok (.invokevirtual 221, 3) := by decide +kernel
theorem dX11_refuse_6 : decode cX11_refuse 6 = .ok (.ireturn, 1) := by decide +kernel
theorem dX11_refuseDown_0 : decode cX11_refuseDown 0 = .ok (.aload_n 0, 1) := by decide +kernel
theorem dX11_refuseDown_1 : decode cX11_refuseDown 1 = .ok (.getfield 21, 3) := by decide +kernel
theorem dX11_refuseDown_4 : decode cX11_refuseDown 4 = .ok (.iload_n 1, 1) := by decide +kernel
theorem dX11_refuseDown_5 : decode cX11_refuseDown 5 = .ok (.dup2, 1) := by decide +kernel
theorem dX11_refuseDown_6 : decode cX11_refuseDown 6 = .ok (.iaload, 1) := by decide +kernel
theorem dX11_refuseDown_7 : decode cX11_refuseDown 7 = .ok (.iconst 1, 1) := by decide +kernel
theorem dX11_refuseDown_8 : decode cX11_refuseDown 8 = .ok (.iadd, 1) := by decide +kernel
theorem dX11_refuseDown_9 : decode cX11_refuseDown 9 = .ok (.iastore, 1) := by decide +kernel
theorem dX11_refuseDown_10 : decode cX11_refuseDown 10 = .ok (.iload_n 1, 1) := by decide +kernel
theorem dX11_refuseDown_11 : decode cX11_refuseDown 11 = .ok (.ineg, 1) := by decide +kernel
theorem dX11_refuseDown_12 : decode cX11_refuseDown 12 = .ok (.iload_n 2, 1) := by decide +kernel
theorem dX11_refuseDown_13 : decode cX11_refuseDown 13 = .ok (.isub, 1) := by decide +kernel
theorem dX11_refuseDown_14 : decode cX11_refuseDown 14 = .ok (.ireturn, 1) := by decide +kernel
theorem dX11_outside_0 : decode cX11_outside 0 = .ok (.iload_n 0, 1) := by decide +kernel
theorem dX11_outside_1 : decode cX11_outside 1 = .ok (.ifCond .lt 8, 3) := by decide +kernel
theorem dX11_outside_4 : decode cX11_outside 4 = .ok (.iload_n 0, 1) := by decide +kernel
theorem dX11_outside_5 : decode cX11_outside 5 = .ok (.iload_n 1, 1) := by decide +kernel
theorem dX11_outside_6 : decode cX11_outside 6 = .ok (.if_icmp .lt 7, 3) := by decide +kernel
theorem dX11_outside_9 : decode cX11_outside 9 = .ok (.iconst 1, 1) := by decide +kernel
theorem dX11_outside_10 : decode cX11_outside 10 = .ok (.goto 4, 3) := by decide +kernel
theorem dX11_outside_13 : decode cX11_outside 13 = .ok (.iconst 0, 1) := by decide +kernel
theorem dX11_outside_14 : decode cX11_outside 14 = .ok (.ireturn, 1) := by decide +kernel
theorem dX11_noHouse_0 : decode cX11_noHouse 0 = .ok (.iload_n 1, 1) := by decide +kernel
theorem dX11_noHouse_1 : decode cX11_noHouse 1 = .ok (.aload_n 0, 1) := by decide +kernel
theorem dX11_noHouse_2 : decode cX11_noHouse 2 = .ok (.getfield 81, 3) := by decide +kernel
theorem dX11_noHouse_5 : decode cX11_noHouse 5 = .ok (.getfield 144, 3) := by decide +kernel
theorem dX11_noHouse_8 : decode cX11_noHouse 8 = .ok (.invokestatic 91, 3) := by decide +kernel
theorem dX11_noHouse_11 : decode cX11_noHouse 11 = .ok (.ireturn, 1) := by decide +kernel
theorem dX11_noCoat_0 : decode cX11_noCoat 0 = .ok (.iload_n 2, 1) := by decide +kernel
theorem dX11_noCoat_1 : decode cX11_noCoat 1 = .ok (.aload_n 0, 1) := by decide +kernel
theorem dX11_noCoat_2 : decode cX11_noCoat 2 = .ok (.getfield 81, 3) := by decide +kernel
theorem dX11_noCoat_5 : decode cX11_noCoat 5 = .ok (.getfield 126, 3) := by decide +kernel
theorem dX11_noCoat_8 : decode cX11_noCoat 8 = .ok (.iload_n 1, 1) := by decide +kernel
theorem dX11_noCoat_9 : decode cX11_noCoat 9 = .ok (.aaload, 1) := by decide +kernel
theorem dX11_noCoat_10 : decode cX11_noCoat 10 = .ok (.getfield 157, 3) := by decide +kernel
theorem dX11_noCoat_13 : decode cX11_noCoat 13 = .ok (.invokestatic 91, 3) := by decide +kernel
theorem dX11_noCoat_16 : decode cX11_noCoat 16 = .ok (.ireturn, 1) := by decide +kernel
theorem dX11_holdsRow_0 : decode cX11_holdsRow 0 = .ok (.aload_n 0, 1) := by decide +kernel
theorem dX11_holdsRow_1 : decode cX11_holdsRow 1 = .ok (.getfield 9, 3) := by decide +kernel
theorem dX11_holdsRow_4 : decode cX11_holdsRow 4 = .ok (.iload_n 1, 1) := by decide +kernel
theorem dX11_holdsRow_5 : decode cX11_holdsRow 5 = .ok (.iaload, 1) := by decide +kernel
theorem dX11_holdsRow_6 : decode cX11_holdsRow 6 = .ok (.bipush 100, 2) := by decide +kernel
theorem dX11_holdsRow_8 : decode cX11_holdsRow 8 = .ok (.if_icmp .lt 7, 3) := by decide +kernel
theorem dX11_holdsRow_11 : decode cX11_holdsRow 11 = .ok (.iconst 1, 1) := by decide +kernel
theorem dX11_holdsRow_12 : decode cX11_holdsRow 12 = .ok (.goto 4, 3) := by decide +kernel
theorem dX11_holdsRow_15 : decode cX11_holdsRow 15 = .ok (.iconst 0, 1) := by decide +kernel
theorem dX11_holdsRow_16 : decode cX11_holdsRow 16 = .ok (.ireturn, 1) := by decide +kernel
theorem dX11_holdsHouse_0 : decode cX11_holdsHouse 0 = .ok (.aload_n 0, 1) := by decide +kernel
theorem dX11_holdsHouse_1 : decode cX11_holdsHouse 1 = .ok (.getfield 9, 3) := by decide +kernel
theorem dX11_holdsHouse_4 : decode cX11_holdsHouse 4 = .ok (.iload_n 1, 1) := by decide +kernel
theorem dX11_holdsHouse_5 : decode cX11_holdsHouse 5 = .ok (.iaload, 1) := by decide +kernel
theorem dX11_holdsHouse_6 : decode cX11_holdsHouse 6 = .ok (.iconst (-1), 1) := by decide +kernel
theorem dX11_holdsHouse_7 : decode cX11_holdsHouse 7 = .ok (.if_icmp .eq 18, 3) := by decide +kernel
theorem dX11_holdsHouse_10 : decode cX11_holdsHouse 10 = .ok (.aload_n 0, 1) := by decide +kernel
theorem dX11_holdsHouse_11 : decode cX11_holdsHouse 11 = .ok (.getfield 9, 3) := by decide +kernel
theorem dX11_holdsHouse_14 : decode cX11_holdsHouse 14 = .ok (.iload_n 1, 1) := by decide +kernel
theorem dX11_holdsHouse_15 : decode cX11_holdsHouse 15 = .ok (.iaload, 1) := by decide +kernel
theorem dX11_holdsHouse_16 : decode cX11_holdsHouse 16 = .ok (.bipush 100, 2) := by decide +kernel
theorem dX11_holdsHouse_18 : decode cX11_holdsHouse 18 = .ok (.if_icmp .ge 7, 3) := by decide +kernel
theorem dX11_holdsHouse_21 : decode cX11_holdsHouse 21 = .ok (.iconst 1, 1) := by decide +kernel
theorem dX11_holdsHouse_22 : decode cX11_holdsHouse 22 = .ok (.goto 4, 3) := by decide +kernel
theorem dX11_holdsHouse_25 : decode cX11_holdsHouse 25 = .ok (.iconst 0, 1) := by decide +kernel
theorem dX11_holdsHouse_26 : decode cX11_holdsHouse 26 = .ok (.ireturn, 1) := by decide +kernel
theorem dX11_rowTrouble_0 : decode cX11_rowTrouble 0 = .ok (.iload_n 1, 1) := by decide +kernel
theorem dX11_rowTrouble_1 : decode cX11_rowTrouble 1 = .ok (.bipush 8, 2) := by decide +kernel
theorem dX11_rowTrouble_3 : decode cX11_rowTrouble 3 = .ok (.invokestatic 91, 3) := by decide +kernel
theorem dX11_rowTrouble_6 : decode cX11_rowTrouble 6 = .ok (.ifCond .eq 5, 3) := by decide +kernel
theorem dX11_rowTrouble_9 : decode cX11_rowTrouble 9 = .ok (.iconst 1, 1) := by decide +kernel
theorem dX11_rowTrouble_10 : decode cX11_rowTrouble 10 = .ok (.ireturn, 1) := by decide +kernel
theorem dX11_rowTrouble_11 : decode cX11_rowTrouble 11 = .ok (.aload_n 0, 1) := by decide +kernel
theorem dX11_rowTrouble_12 : decode cX11_rowTrouble 12 = .ok (.iload_n 1, 1) := by decide +kernel
theorem dX11_rowTrouble_13 : decode cX11_rowTrouble 13 = .ok (.invokevirtual 106, 3) := by decide +kernel
theorem dX11_rowTrouble_16 : decode cX11_rowTrouble 16 = .ok (.ifCond .eq 5, 3) := by decide +kernel
theorem dX11_rowTrouble_19 : decode cX11_rowTrouble 19 = .ok (.iconst 2, 1) := by decide +kernel
theorem dX11_rowTrouble_20 : decode cX11_rowTrouble 20 = .ok (.ireturn, 1) := by decide +kernel
theorem dX11_rowTrouble_21 : decode cX11_rowTrouble 21 = .ok (.aload_n 0, 1) := by decide +kernel
theorem dX11_rowTrouble_22 : decode cX11_rowTrouble 22 = .ok (.iload_n 1, 1) := by decide +kernel
theorem dX11_rowTrouble_23 : decode cX11_rowTrouble 23 = .ok (.invokevirtual 110, 3) := by decide +kernel
theorem dX11_rowTrouble_26 : decode cX11_rowTrouble 26 = .ok (.ifCond .eq 7, 3) := by decide +kernel
theorem dX11_rowTrouble_29 : decode cX11_rowTrouble 29 = .ok (.iconst 0, 1) := by decide +kernel
theorem dX11_rowTrouble_30 : decode cX11_rowTrouble 30 = .ok (.goto 4, 3) := by decide +kernel
theorem dX11_rowTrouble_33 : decode cX11_rowTrouble 33 = .ok (.iconst 3, 1) := by decide +kernel
theorem dX11_rowTrouble_34 : decode cX11_rowTrouble 34 = .ok (.ireturn, 1) := by decide +kernel
theorem dX11_noSuchPart_0 : decode cX11_noSuchPart 0 = .ok (.iload_n 2, 1) := by decide +kernel
theorem dX11_noSuchPart_1 : decode cX11_noSuchPart 1 = .ok (.ifCond .lt 25, 3) := by decide +kernel
theorem dX11_noSuchPart_4 : decode cX11_noSuchPart 4 = .ok (.iload_n 3, 1) := by decide +kernel
theorem dX11_noSuchPart_5 : decode cX11_noSuchPart 5 = .ok (.aload_n 0, 1) := by decide +kernel
theorem dX11_noSuchPart_6 : decode cX11_noSuchPart 6 = .ok (.getfield 13, 3) := by decide +kernel
theorem dX11_noSuchPart_9 : decode cX11_noSuchPart 9 = .ok (.iload_n 1, 1) := by decide +kernel
theorem dX11_noSuchPart_10 : decode cX11_noSuchPart 10 = .ok (.iaload, 1) := by decide +kernel
theorem dX11_noSuchPart_11 : decode cX11_noSuchPart 11 = .ok (.if_icmp .gt 15, 3) := by decide +kernel
theorem dX11_noSuchPart_14 : decode cX11_noSuchPart 14 = .ok (.iload_n 2, 1) := by decide +kernel
theorem dX11_noSuchPart_15 : decode cX11_noSuchPart 15 = .ok (.aload_n 0, 1) := by decide +kernel
theorem dX11_noSuchPart_16 : decode cX11_noSuchPart 16 = .ok (.getfield 13, 3) := by decide +kernel
theorem dX11_noSuchPart_19 : decode cX11_noSuchPart 19 = .ok (.iload_n 1, 1) := by decide +kernel
theorem dX11_noSuchPart_20 : decode cX11_noSuchPart 20 = .ok (.iaload, 1) := by decide +kernel
theorem dX11_noSuchPart_21 : decode cX11_noSuchPart 21 = .ok (.iload_n 3, 1) := by decide +kernel
theorem dX11_noSuchPart_22 : decode cX11_noSuchPart 22 = .ok (.isub, 1) := by decide +kernel
theorem dX11_noSuchPart_23 : decode cX11_noSuchPart 23 = .ok (.if_icmp .le 7, 3) := by decide +kernel
theorem dX11_noSuchPart_26 : decode cX11_noSuchPart 26 = .ok (.iconst 1, 1) := by decide +kernel
theorem dX11_noSuchPart_27 : decode cX11_noSuchPart 27 = .ok (.goto 4, 3) := by decide +kernel
theorem dX11_noSuchPart_30 : decode cX11_noSuchPart 30 = .ok (.iconst 0, 1) := by decide +kernel
theorem dX11_noSuchPart_31 : decode cX11_noSuchPart 31 = .ok (.ireturn, 1) := by decide +kernel
theorem dX11_lowestBits_0 : decode cX11_lowestBits 0 = .ok (.iload_n 0, 1) := by decide +kernel
theorem dX11_lowestBits_1 : decode cX11_lowestBits 1 = .ok (.tableswitch 41 0 2 #[27, 32, 37], 27) := by decide +kernel
theorem dX11_lowestBits_28 : decode cX11_lowestBits 28 = .ok (.lload_n 1, 1) := by decide +kernel
theorem dX11_lowestBits_29 : decode cX11_lowestBits 29 = .ok (.l2i, 1) := by decide +kernel
theorem dX11_lowestBits_30 : decode cX11_lowestBits 30 = .ok (.i2b, 1) := by decide +kernel
theorem dX11_lowestBits_31 : decode cX11_lowestBits 31 = .ok (.i2l, 1) := by decide +kernel
theorem dX11_lowestBits_32 : decode cX11_lowestBits 32 = .ok (.lreturn, 1) := by decide +kernel
theorem dX11_lowestBits_33 : decode cX11_lowestBits 33 = .ok (.lload_n 1, 1) := by decide +kernel
theorem dX11_lowestBits_34 : decode cX11_lowestBits 34 = .ok (.l2i, 1) := by decide +kernel
theorem dX11_lowestBits_35 : decode cX11_lowestBits 35 = .ok (.i2s, 1) := by decide +kernel
theorem dX11_lowestBits_36 : decode cX11_lowestBits 36 = .ok (.i2l, 1) := by decide +kernel
theorem dX11_lowestBits_37 : decode cX11_lowestBits 37 = .ok (.lreturn, 1) := by decide +kernel
theorem dX11_lowestBits_38 : decode cX11_lowestBits 38 = .ok (.lload_n 1, 1) := by decide +kernel
theorem dX11_lowestBits_39 : decode cX11_lowestBits 39 = .ok (.l2i, 1) := by decide +kernel
theorem dX11_lowestBits_40 : decode cX11_lowestBits 40 = .ok (.i2l, 1) := by decide +kernel
theorem dX11_lowestBits_41 : decode cX11_lowestBits 41 = .ok (.lreturn, 1) := by decide +kernel
theorem dX11_lowestBits_42 : decode cX11_lowestBits 42 = .ok (.lload_n 1, 1) := by decide +kernel
theorem dX11_lowestBits_43 : decode cX11_lowestBits 43 = .ok (.lreturn, 1) := by decide +kernel
theorem dX11_isOf_0 : decode cX11_isOf 0 = .ok (.iload_n 1, 1) := by decide +kernel
theorem dX11_isOf_1 : decode cX11_isOf 1 = .ok (.tableswitch 69 1 6 #[39, 44, 49, 54, 59, 64], 39) := by decide +kernel
theorem dX11_isOf_40 : decode cX11_isOf 40 = .ok (.aload_n 0, 1) := by decide +kernel
theorem dX11_isOf_41 : decode cX11_isOf 41 = .ok (.instanceof 58, 3) := by decide +kernel
theorem dX11_isOf_44 : decode cX11_isOf 44 = .ok (.ireturn, 1) := by decide +kernel
theorem dX11_isOf_45 : decode cX11_isOf 45 = .ok (.aload_n 0, 1) := by decide +kernel
theorem dX11_isOf_46 : decode cX11_isOf 46 = .ok (.instanceof 61, 3) := by decide +kernel
theorem dX11_isOf_49 : decode cX11_isOf 49 = .ok (.ireturn, 1) := by decide +kernel
theorem dX11_isOf_50 : decode cX11_isOf 50 = .ok (.aload_n 0, 1) := by decide +kernel
theorem dX11_isOf_51 : decode cX11_isOf 51 = .ok (.instanceof 64, 3) := by decide +kernel
theorem dX11_isOf_54 : decode cX11_isOf 54 = .ok (.ireturn, 1) := by decide +kernel
theorem dX11_isOf_55 : decode cX11_isOf 55 = .ok (.aload_n 0, 1) := by decide +kernel
theorem dX11_isOf_56 : decode cX11_isOf 56 = .ok (.instanceof 67, 3) := by decide +kernel
theorem dX11_isOf_59 : decode cX11_isOf 59 = .ok (.ireturn, 1) := by decide +kernel
theorem dX11_isOf_60 : decode cX11_isOf 60 = .ok (.aload_n 0, 1) := by decide +kernel
theorem dX11_isOf_61 : decode cX11_isOf 61 = .ok (.instanceof 70, 3) := by decide +kernel
theorem dX11_isOf_64 : decode cX11_isOf 64 = .ok (.ireturn, 1) := by decide +kernel
theorem dX11_isOf_65 : decode cX11_isOf 65 = .ok (.aload_n 0, 1) := by decide +kernel
theorem dX11_isOf_66 : decode cX11_isOf 66 = .ok (.instanceof 73, 3) := by decide +kernel
theorem dX11_isOf_69 : decode cX11_isOf 69 = .ok (.ireturn, 1) := by decide +kernel
theorem dX11_isOf_70 : decode cX11_isOf 70 = .ok (.iconst 1, 1) := by decide +kernel
theorem dX11_isOf_71 : decode cX11_isOf 71 = .ok (.ireturn, 1) := by decide +kernel
theorem dX11_saidBy_0 : decode cX11_saidBy 0 = .ok (.iload_n 2, 1) := by decide +kernel
theorem dX11_saidBy_1 : decode cX11_saidBy 1 = .ok (.tableswitch 83 1 6 #[39, 47, 55, 64, 70, 78], 39) := by decide +kernel
theorem dX11_saidBy_40 : decode cX11_saidBy 40 = .ok (.aload_n 1, 1) := by decide +kernel
theorem dX11_saidBy_41 : decode cX11_saidBy 41 = .ok (.iconst 0, 1) := by decide +kernel
theorem dX11_saidBy_42 : decode cX11_saidBy 42 = .ok (.bipush 10, 2) := by decide +kernel
theorem dX11_saidBy_44 : decode cX11_saidBy 44 = .ok (.invokevirtual 231, 3) := by decide +kernel
theorem dX11_saidBy_47 : decode cX11_saidBy 47 = .ok (.ireturn, 1) := by decide +kernel
theorem dX11_saidBy_48 : decode cX11_saidBy 48 = .ok (.aload_n 1, 1) := by decide +kernel
theorem dX11_saidBy_49 : decode cX11_saidBy 49 = .ok (.iconst 0, 1) := by decide +kernel
theorem dX11_saidBy_50 : decode cX11_saidBy 50 = .ok (.bipush 10, 2) := by decide +kernel
theorem dX11_saidBy_52 : decode cX11_saidBy 52 = .ok (.invokevirtual 330, 3) := by decide +kernel
theorem dX11_saidBy_55 : decode cX11_saidBy 55 = .ok (.ireturn, 1) := by decide +kernel
theorem dX11_saidBy_56 : decode cX11_saidBy 56 = .ok (.aload_n 1, 1) := by decide +kernel
theorem dX11_saidBy_57 : decode cX11_saidBy 57 = .ok (.bipush 8, 2) := by decide +kernel
theorem dX11_saidBy_59 : decode cX11_saidBy 59 = .ok (.bipush 10, 2) := by decide +kernel
theorem dX11_saidBy_61 : decode cX11_saidBy 61 = .ok (.invokevirtual 231, 3) := by decide +kernel
theorem dX11_saidBy_64 : decode cX11_saidBy 64 = .ok (.ireturn, 1) := by decide +kernel
theorem dX11_saidBy_65 : decode cX11_saidBy 65 = .ok (.aload_n 0, 1) := by decide +kernel
theorem dX11_saidBy_66 : decode cX11_saidBy 66 = .ok (.aload_n 1, 1) := by decide +kernel
theorem dX11_saidBy_67 : decode cX11_saidBy 67 = .ok (.invokevirtual 333, 3) := by decide +kernel
theorem dX11_saidBy_70 : decode cX11_saidBy 70 = .ok (.ireturn, 1) := by decide +kernel
theorem dX11_saidBy_71 : decode cX11_saidBy 71 = .ok (.aload_n 1, 1) := by decide +kernel
theorem dX11_saidBy_72 : decode cX11_saidBy 72 = .ok (.iconst 4, 1) := by decide +kernel
theorem dX11_saidBy_73 : decode cX11_saidBy 73 = .ok (.bipush 10, 2) := by decide +kernel
theorem dX11_saidBy_75 : decode cX11_saidBy 75 = .ok (.invokevirtual 330, 3) := by decide +kernel
theorem dX11_saidBy_78 : decode cX11_saidBy 78 = .ok (.ireturn, 1) := by decide +kernel
theorem dX11_saidBy_79 : decode cX11_saidBy 79 = .ok (.aload_n 1, 1) := by decide +kernel
theorem dX11_saidBy_80 : decode cX11_saidBy 80 = .ok (.getfield 154, 3) := by decide +kernel
theorem dX11_saidBy_83 : decode cX11_saidBy 83 = .ok (.ireturn, 1) := by decide +kernel
theorem dX11_saidBy_84 : decode cX11_saidBy 84 = .ok (.aload_n 1, 1) := by decide +kernel
theorem dX11_saidBy_85 : decode cX11_saidBy 85 = .ok (.invokevirtual 160, 3) := by decide +kernel
theorem dX11_saidBy_88 : decode cX11_saidBy 88 = .ok (.ireturn, 1) := by decide +kernel
theorem dX11_strengthOfHighest_0 : decode cX11_strengthOfHighest 0 = .ok (.aload_n 1, 1) := by decide +kernel
theorem dX11_strengthOfHighest_1 : decode cX11_strengthOfHighest 1 = .ok (.getfield 157, 3) := by decide +kernel
theorem dX11_strengthOfHighest_4 : decode cX11_strengthOfHighest 4 = .ok (.iconst 1, 1) := by decide +kernel
theorem dX11_strengthOfHighest_5 : decode cX11_strengthOfHighest 5 = .ok (.isub, 1) := by decide +kernel
theorem dX11_strengthOfHighest_6 : decode cX11_strengthOfHighest 6 = .ok (.istore_n 2, 1) := by decide +kernel
theorem dX11_strengthOfHighest_7 : decode cX11_strengthOfHighest 7 = .ok (.iload_n 2, 1) := by decide +kernel
theorem dX11_strengthOfHighest_8 : decode cX11_strengthOfHighest 8 = .ok (.ifCond .ge 7, 3) := by decide +kernel
theorem dX11_strengthOfHighest_11 : decode cX11_strengthOfHighest 11 = .ok (.iconst 0, 1) := by decide +kernel
theorem dX11_strengthOfHighest_12 : decode cX11_strengthOfHighest 12 = .ok (.goto 23, 3) := by decide +kernel
theorem dX11_strengthOfHighest_15 : decode cX11_strengthOfHighest 15 = .ok (.aload_n 0, 1) := by decide +kernel
theorem dX11_strengthOfHighest_16 : decode cX11_strengthOfHighest 16 = .ok (.getfield 81, 3) := by decide +kernel
theorem dX11_strengthOfHighest_19 : decode cX11_strengthOfHighest 19 = .ok (.aload_n 1, 1) := by decide +kernel
theorem dX11_strengthOfHighest_20 : decode cX11_strengthOfHighest 20 = .ok (.aload_n 1, 1) := by decide +kernel
theorem dX11_strengthOfHighest_21 : decode cX11_strengthOfHighest 21 = .ok (.getfield 192, 3) := by decide +kernel
theorem dX11_strengthOfHighest_24 : decode cX11_strengthOfHighest 24 = .ok (.iload_n 2, 1) := by decide +kernel
theorem dX11_strengthOfHighest_25 : decode cX11_strengthOfHighest 25 = .ok (.iaload, 1) := by decide +kernel
theorem dX11_strengthOfHighest_26 : decode cX11_strengthOfHighest 26 = .ok (.aload_n 1, 1) := by decide +kernel
theorem dX11_strengthOfHighest_27 : decode cX11_strengthOfHighest 27 = .ok (.getfield 195, 3) := by decide +kernel
theorem dX11_strengthOfHighest_30 : decode cX11_strengthOfHighest 30 = .ok (.iload_n 2, 1) := by decide +kernel
theorem dX11_strengthOfHighest_31 : decode cX11_strengthOfHighest 31 = .ok (.iaload, 1) := by decide +kernel
theorem dX11_strengthOfHighest_32 : decode cX11_strengthOfHighest 32 = .ok (.invokevirtual 203, 3) := by decide +kernel
theorem dX11_strengthOfHighest_35 : decode cX11_strengthOfHighest 35 = .ok (.ireturn, 1) := by decide +kernel
theorem dX11_cheapest_0 : decode cX11_cheapest 0 = .ok (.iconst (-1), 1) := by decide +kernel
theorem dX11_cheapest_1 : decode cX11_cheapest 1 = .ok (.istore_n 3, 1) := by decide +kernel
theorem dX11_cheapest_2 : decode cX11_cheapest 2 = .ok (.iconst 0, 1) := by decide +kernel
theorem dX11_cheapest_3 : decode cX11_cheapest 3 = .ok (.istore 4, 2) := by decide +kernel
theorem dX11_cheapest_5 : decode cX11_cheapest 5 = .ok (.iconst 0, 1) := by decide +kernel
theorem dX11_cheapest_6 : decode cX11_cheapest 6 = .ok (.istore 5, 2) := by decide +kernel
theorem dX11_cheapest_8 : decode cX11_cheapest 8 = .ok (.iload 5, 2) := by decide +kernel
theorem dX11_cheapest_10 : decode cX11_cheapest 10 = .ok (.bipush 6, 2) := by decide +kernel
theorem dX11_cheapest_12 : decode cX11_cheapest 12 = .ok (.if_icmp .ge 81, 3) := by decide +kernel
theorem dX11_cheapest_15 : decode cX11_cheapest 15 = .ok (.iconst 1, 1) := by decide +kernel
theorem dX11_cheapest_16 : decode cX11_cheapest 16 = .ok (.istore 6, 2) := by decide +kernel
theorem dX11_cheapest_18 : decode cX11_cheapest 18 = .ok (.iload 6, 2) := by decide +kernel
theorem dX11_cheapest_20 : decode cX11_cheapest 20 = .ok (.bipush 9, 2) := by decide +kernel
theorem dX11_cheapest_22 : decode cX11_cheapest 22 = .ok (.if_icmp .gt 65, 3) := by decide +kernel
theorem dX11_cheapest_25 : decode cX11_cheapest 25 = .ok (.aload_n 0, 1) := by decide +kernel
theorem dX11_cheapest_26 : decode cX11_cheapest 26 = .ok (.getfield 81, 3) := by decide +kernel
theorem dX11_cheapest_29 : decode cX11_cheapest 29 = .ok (.getfield 170, 3) := by decide +kernel
theorem dX11_cheapest_32 : decode cX11_cheapest 32 = .ok (.iload 5, 2) := by decide +kernel
theorem dX11_cheapest_34 : decode cX11_cheapest 34 = .ok (.iaload, 1) := by decide +kernel
theorem dX11_cheapest_35 : decode cX11_cheapest 35 = .ok (.iload 6, 2) := by decide +kernel
theorem dX11_cheapest_37 : decode cX11_cheapest 37 = .ok (.imul, 1) := by decide +kernel
theorem dX11_cheapest_38 : decode cX11_cheapest 38 = .ok (.istore 7, 2) := by decide +kernel
theorem dX11_cheapest_40 : decode cX11_cheapest 40 = .ok (.aload_n 0, 1) := by decide +kernel
theorem dX11_cheapest_41 : decode cX11_cheapest 41 = .ok (.getfield 81, 3) := by decide +kernel
theorem dX11_cheapest_44 : decode cX11_cheapest 44 = .ok (.aload_n 1, 1) := by decide +kernel
theorem dX11_cheapest_45 : decode cX11_cheapest 45 = .ok (.iload 5, 2) := by decide +kernel
theorem dX11_cheapest_47 : decode cX11_cheapest 47 = .ok (.iload 6, 2) := by decide +kernel
theorem dX11_cheapest_49 : decode cX11_cheapest 49 = .ok (.invokevirtual 203, 3) := by decide +kernel
theorem dX11_cheapest_52 : decode cX11_cheapest 52 = .ok (.iload_n 2, 1) := by decide +kernel
theorem dX11_cheapest_53 : decode cX11_cheapest 53 = .ok (.if_icmp .lt 28, 3) := by decide +kernel
theorem dX11_cheapest_56 : decode cX11_cheapest 56 = .ok (.iload_n 3, 1) := by decide +kernel
theorem dX11_cheapest_57 : decode cX11_cheapest 57 = .ok (.iconst (-1), 1) := by decide +kernel
theorem dX11_cheapest_58 : decode cX11_cheapest 58 = .ok (.if_icmp .eq 10, 3) := by decide +kernel
theorem dX11_cheapest_61 : decode cX11_cheapest 61 = .ok (.iload 7, 2) := by decide +kernel
theorem dX11_cheapest_63 : decode cX11_cheapest 63 = .ok (.iload 4, 2) := by decide +kernel
theorem dX11_cheapest_65 : decode cX11_cheapest 65 = .ok (.if_icmp .ge 16, 3) := by decide +kernel
theorem dX11_cheapest_68 : decode cX11_cheapest 68 = .ok (.bipush 10, 2) := by decide +kernel
theorem dX11_cheapest_70 : decode cX11_cheapest 70 = .ok (.iload 5, 2) := by decide +kernel
theorem dX11_cheapest_72 : decode cX11_cheapest 72 = .ok (.imul, 1) := by decide +kernel
theorem dX11_cheapest_73 : decode cX11_cheapest 73 = .ok (.iload 6, 2) := by decide +kernel
theorem dX11_cheapest_75 : decode cX11_cheapest 75 = .ok (.iadd, 1) := by decide +kernel
theorem dX11_cheapest_76 : decode cX11_cheapest 76 = .ok (.istore_n 3, 1) := by decide +kernel
theorem dX11_cheapest_77 : decode cX11_cheapest 77 = .ok (.iload 7, 2) := by decide +kernel
theorem dX11_cheapest_79 : decode cX11_cheapest 79 = .ok (.istore 4, 2) := by decide +kernel
theorem dX11_cheapest_81 : decode cX11_cheapest 81 = .ok (.iinc 6 1, 3) := by decide +kernel
theorem dX11_cheapest_84 : decode cX11_cheapest 84 = .ok (.goto (-66), 3) := by decide +kernel
theorem dX11_cheapest_87 : decode cX11_cheapest 87 = .ok (.iinc 5 1, 3) := by decide +kernel
theorem dX11_cheapest_90 : decode cX11_cheapest 90 = .ok (.goto (-82), 3) := by decide +kernel
theorem dX11_cheapest_93 : decode cX11_cheapest 93 = .ok (.iload_n 3, 1) := by decide +kernel
theorem dX11_cheapest_94 : decode cX11_cheapest 94 = .ok (.ireturn, 1) := by decide +kernel
theorem dX11_pairsTrouble_0 : decode cX11_pairsTrouble 0 = .ok (.aload_n 0, 1) := by decide +kernel
theorem dX11_pairsTrouble_1 : decode cX11_pairsTrouble 1 = .ok (.iload_n 1, 1) := by decide +kernel
theorem dX11_pairsTrouble_2 : decode cX11_pairsTrouble 2 = .ok (.invokevirtual 99, 3) := by decide +kernel
theorem dX11_pairsTrouble_5 : decode cX11_pairsTrouble 5 = .ok (.istore 4, 2) := by decide +kernel
theorem dX11_pairsTrouble_7 : decode cX11_pairsTrouble 7 = .ok (.iload 4, 2) := by decide +kernel
theorem dX11_pairsTrouble_9 : decode cX11_pairsTrouble 9 = .ok (.ifCond .eq 6, 3) := by decide +kernel
theorem dX11_pairsTrouble_12 : decode cX11_pairsTrouble 12 = .ok (.iload 4, 2) := by decide +kernel
theorem dX11_pairsTrouble_14 : decode cX11_pairsTrouble 14 = .ok (.ireturn, 1) := by decide +kernel
theorem dX11_pairsTrouble_15 : decode cX11_pairsTrouble 15 = .ok (.iload_n 2, 1) := by decide +kernel
theorem dX11_pairsTrouble_16 : decode cX11_pairsTrouble 16 = .ok (.ifCond .ge 5, 3) := by decide +kernel
theorem dX11_pairsTrouble_19 : decode cX11_pairsTrouble 19 = .ok (.iconst 4, 1) := by decide +kernel
theorem dX11_pairsTrouble_20 : decode cX11_pairsTrouble 20 = .ok (.ireturn, 1) := by decide +kernel
theorem dX11_pairsTrouble_21 : decode cX11_pairsTrouble 21 = .ok (.iload_n 2, 1) := by decide +kernel
theorem dX11_pairsTrouble_22 : decode cX11_pairsTrouble 22 = .ok (.aload_n 0, 1) := by decide +kernel
theorem dX11_pairsTrouble_23 : decode cX11_pairsTrouble 23 = .ok (.getfield 13, 3) := by decide +kernel
theorem dX11_pairsTrouble_26 : decode cX11_pairsTrouble 26 = .ok (.iload_n 1, 1) := by decide +kernel
theorem dX11_pairsTrouble_27 : decode cX11_pairsTrouble 27 = .ok (.iaload, 1) := by decide +kernel
theorem dX11_pairsTrouble_28 : decode cX11_pairsTrouble 28 = .ok (.if_icmp .gt 7, 3) := by decide +kernel
theorem dX11_pairsTrouble_31 : decode cX11_pairsTrouble 31 = .ok (.iload_n 3, 1) := by decide +kernel
theorem dX11_pairsTrouble_32 : decode cX11_pairsTrouble 32 = .ok (.ifCond .eq 5, 3) := by decide +kernel
theorem dX11_pairsTrouble_35 : decode cX11_pairsTrouble 35 = .ok (.iconst 5, 1) := by decide +kernel
theorem dX11_pairsTrouble_36 : decode cX11_pairsTrouble 36 = .ok (.ireturn, 1) := by decide +kernel
theorem dX11_pairsTrouble_37 : decode cX11_pairsTrouble 37 = .ok (.iload_n 2, 1) := by decide +kernel
theorem dX11_pairsTrouble_38 : decode cX11_pairsTrouble 38 = .ok (.bipush 20, 2) := by decide +kernel
theorem dX11_pairsTrouble_40 : decode cX11_pairsTrouble 40 = .ok (.if_icmp .le 6, 3) := by decide +kernel
theorem dX11_pairsTrouble_43 : decode cX11_pairsTrouble 43 = .ok (.bipush 6, 2) := by decide +kernel
theorem dX11_pairsTrouble_45 : decode cX11_pairsTrouble 45 = .ok (.ireturn, 1) := by decide +kernel
theorem dX11_pairsTrouble_46 : decode cX11_pairsTrouble 46 = .ok (.iconst 0, 1) := by decide +kernel
theorem dX11_pairsTrouble_47 : decode cX11_pairsTrouble 47 = .ok (.istore 5, 2) := by decide +kernel
theorem dX11_pairsTrouble_49 : decode cX11_pairsTrouble 49 = .ok (.iload 5, 2) := by decide +kernel
theorem dX11_pairsTrouble_51 : decode cX11_pairsTrouble 51 = .ok (.iload_n 2, 1) := by decide +kernel
theorem dX11_pairsTrouble_52 : decode cX11_pairsTrouble 52 = .ok (.if_icmp .ge 28, 3) := by decide +kernel
theorem dX11_pairsTrouble_55 : decode cX11_pairsTrouble 55 = .ok (.aload_n 0, 1) := by decide +kernel
theorem dX11_pairsTrouble_56 : decode cX11_pairsTrouble 56 = .ok (.getfield 18, 3) := by decide +kernel
theorem dX11_pairsTrouble_59 : decode cX11_pairsTrouble 59 = .ok (.iload_n 1, 1) := by decide +kernel
theorem dX11_pairsTrouble_60 : decode cX11_pairsTrouble 60 = .ok (.aaload, 1) := by decide +kernel
theorem dX11_pairsTrouble_61 : decode cX11_pairsTrouble 61 = .ok (.iload 5, 2) := by decide +kernel
theorem dX11_pairsTrouble_63 : decode cX11_pairsTrouble 63 = .ok (.laload, 1) := by decide +kernel
theorem dX11_pairsTrouble_64 : decode cX11_pairsTrouble 64 = .ok (.l2i, 1) := by decide +kernel
theorem dX11_pairsTrouble_65 : decode cX11_pairsTrouble 65 = .ok (.invokestatic 337, 3) := by decide +kernel
theorem dX11_pairsTrouble_68 : decode cX11_pairsTrouble 68 = .ok (.ifCond .ne 6, 3) := by decide +kernel
theorem dX11_pairsTrouble_71 : decode cX11_pairsTrouble 71 = .ok (.bipush 6, 2) := by decide +kernel
theorem dX11_pairsTrouble_73 : decode cX11_pairsTrouble 73 = .ok (.ireturn, 1) := by decide +kernel
theorem dX11_pairsTrouble_74 : decode cX11_pairsTrouble 74 = .ok (.iinc 5 1, 3) := by decide +kernel
theorem dX11_pairsTrouble_77 : decode cX11_pairsTrouble 77 = .ok (.goto (-28), 3) := by decide +kernel
theorem dX11_pairsTrouble_80 : decode cX11_pairsTrouble 80 = .ok (.iconst 0, 1) := by decide +kernel
theorem dX11_pairsTrouble_81 : decode cX11_pairsTrouble 81 = .ok (.ireturn, 1) := by decide +kernel
theorem dX11_isPair_0 : decode cX11_isPair 0 = .ok (.iload_n 0, 1) := by decide +kernel
theorem dX11_isPair_1 : decode cX11_isPair 1 = .ok (.ifCond .lt 36, 3) := by decide +kernel
theorem dX11_isPair_4 : decode cX11_isPair 4 = .ok (.iload_n 0, 1) := by decide +kernel
theorem dX11_isPair_5 : decode cX11_isPair 5 = .ok (.bipush 10, 2) := by decide +kernel
theorem dX11_isPair_7 : decode cX11_isPair 7 = .ok (.idiv, 1) := by decide +kernel
theorem dX11_isPair_8 : decode cX11_isPair 8 = .ok (.bipush 8, 2) := by decide +kernel
theorem dX11_isPair_10 : decode cX11_isPair 10 = .ok (.if_icmp .ge 27, 3) := by decide +kernel
theorem dX11_isPair_13 : decode cX11_isPair 13 = .ok (.iload_n 0, 1) := by decide +kernel
theorem dX11_isPair_14 : decode cX11_isPair 14 = .ok (.bipush 10, 2) := by decide +kernel
theorem dX11_isPair_16 : decode cX11_isPair 16 = .ok (.irem, 1) := by decide +kernel
theorem dX11_isPair_17 : decode cX11_isPair 17 = .ok (.bipush 8, 2) := by decide +kernel
theorem dX11_isPair_19 : decode cX11_isPair 19 = .ok (.if_icmp .ge 18, 3) := by decide +kernel
theorem dX11_isPair_22 : decode cX11_isPair 22 = .ok (.iload_n 0, 1) := by decide +kernel
theorem dX11_isPair_23 : decode cX11_isPair 23 = .ok (.bipush 10, 2) := by decide +kernel
theorem dX11_isPair_25 : decode cX11_isPair 25 = .ok (.idiv, 1) := by decide +kernel
theorem dX11_isPair_26 : decode cX11_isPair 26 = .ok (.iload_n 0, 1) := by decide +kernel
theorem dX11_isPair_27 : decode cX11_isPair 27 = .ok (.bipush 10, 2) := by decide +kernel
theorem dX11_isPair_29 : decode cX11_isPair 29 = .ok (.irem, 1) := by decide +kernel
theorem dX11_isPair_30 : decode cX11_isPair 30 = .ok (.if_icmp .eq 7, 3) := by decide +kernel
theorem dX11_isPair_33 : decode cX11_isPair 33 = .ok (.iconst 1, 1) := by decide +kernel
theorem dX11_isPair_34 : decode cX11_isPair 34 = .ok (.goto 4, 3) := by decide +kernel
theorem dX11_isPair_37 : decode cX11_isPair 37 = .ok (.iconst 0, 1) := by decide +kernel
theorem dX11_isPair_38 : decode cX11_isPair 38 = .ok (.ireturn, 1) := by decide +kernel
theorem dX11_forgetPairs_0 : decode cX11_forgetPairs 0 = .ok (.aload_n 0, 1) := by decide +kernel
theorem dX11_forgetPairs_1 : decode cX11_forgetPairs 1 = .ok (.iconst 0, 1) := by decide +kernel
theorem dX11_forgetPairs_2 : decode cX11_forgetPairs 2 = .ok (.putfield 24, 3) := by decide +kernel
theorem dX11_forgetPairs_5 : decode cX11_forgetPairs 5 = .ok (.iconst 0, 1) := by decide +kernel
theorem dX11_forgetPairs_6 : decode cX11_forgetPairs 6 = .ok (.istore_n 1, 1) := by decide +kernel
theorem dX11_forgetPairs_7 : decode cX11_forgetPairs 7 = .ok (.iload_n 1, 1) := by decide +kernel
theorem dX11_forgetPairs_8 : decode cX11_forgetPairs 8 = .ok (.bipush 8, 2) := by decide +kernel
theorem dX11_forgetPairs_10 : decode cX11_forgetPairs 10 = .ok (.if_icmp .ge 16, 3) := by decide +kernel
theorem dX11_forgetPairs_13 : decode cX11_forgetPairs 13 = .ok (.aload_n 0, 1) := by decide +kernel
theorem dX11_forgetPairs_14 : decode cX11_forgetPairs 14 = .ok (.getfield 28, 3) := by decide +kernel
theorem dX11_forgetPairs_17 : decode cX11_forgetPairs 17 = .ok (.iload_n 1, 1) := by decide +kernel
theorem dX11_forgetPairs_18 : decode cX11_forgetPairs 18 = .ok (.iconst 0, 1) := by decide +kernel
theorem dX11_forgetPairs_19 : decode cX11_forgetPairs 19 = .ok (.iastore, 1) := by decide +kernel
theorem dX11_forgetPairs_20 : decode cX11_forgetPairs 20 = .ok (.iinc 1 1, 3) := by decide +kernel
theorem dX11_forgetPairs_23 : decode cX11_forgetPairs 23 = .ok (.goto (-16), 3) := by decide +kernel
theorem dX11_forgetPairs_26 : decode cX11_forgetPairs 26 = .ok (.return_, 1) := by decide +kernel
theorem dX11_addPair_0 : decode cX11_addPair 0 = .ok (.iload_n 1, 1) := by decide +kernel
theorem dX11_addPair_1 : decode cX11_addPair 1 = .ok (.invokestatic 337, 3) := by decide +kernel
theorem dX11_addPair_4 : decode cX11_addPair 4 = .ok (.ifCond .eq 43, 3) := by decide +kernel
theorem dX11_addPair_7 : decode cX11_addPair 7 = .ok (.aload_n 0, 1) := by decide +kernel
theorem dX11_addPair_8 : decode cX11_addPair 8 = .ok (.dup, 1) := by decide +kernel
theorem dX11_addPair_9 : decode cX11_addPair 9 = .ok (.getfield 24, 3) := by decide +kernel
theorem dX11_addPair_12 : decode cX11_addPair 12 = .ok (.iconst 1, 1) := by decide +kernel
theorem dX11_addPair_13 : decode cX11_addPair 13 = .ok (.iload_n 1, 1) := by decide +kernel
theorem dX11_addPair_14 : decode cX11_addPair 14 = .ok (.bipush 10, 2) := by decide +kernel
theorem dX11_addPair_16 : decode cX11_addPair 16 = .ok (.idiv, 1) := by decide +kernel
theorem dX11_addPair_17 : decode cX11_addPair 17 = .ok (.ishl, 1) := by decide +kernel
theorem dX11_addPair_18 : decode cX11_addPair 18 = .ok (.iconst 1, 1) := by decide +kernel
theorem dX11_addPair_19 : decode cX11_addPair 19 = .ok (.iload_n 1, 1) := by decide +kernel
theorem dX11_addPair_20 : decode cX11_addPair 20 = .ok (.bipush 10, 2) := by decide +kernel
theorem dX11_addPair_22 : decode cX11_addPair 22 = .ok (.irem, 1) := by decide +kernel
theorem dX11_addPair_23 : decode cX11_addPair 23 = .ok (.ishl, 1) := by decide +kernel
theorem dX11_addPair_24 : decode cX11_addPair 24 = .ok (.ior, 1) := by decide +kernel
theorem dX11_addPair_25 : decode cX11_addPair 25 = .ok (.ior, 1) := by decide +kernel
theorem dX11_addPair_26 : decode cX11_addPair 26 = .ok (.putfield 24, 3) := by decide +kernel
theorem dX11_addPair_29 : decode cX11_addPair 29 = .ok (.aload_n 0, 1) := by decide +kernel
theorem dX11_addPair_30 : decode cX11_addPair 30 = .ok (.getfield 28, 3) := by decide +kernel
theorem dX11_addPair_33 : decode cX11_addPair 33 = .ok (.iload_n 1, 1) := by decide +kernel
theorem dX11_addPair_34 : decode cX11_addPair 34 = .ok (.bipush 10, 2) := by decide +kernel
theorem dX11_addPair_36 : decode cX11_addPair 36 = .ok (.idiv, 1) := by decide +kernel
theorem dX11_addPair_37 : decode cX11_addPair 37 = .ok (.dup2, 1) := by decide +kernel
theorem dX11_addPair_38 : decode cX11_addPair 38 = .ok (.iaload, 1) := by decide +kernel
theorem dX11_addPair_39 : decode cX11_addPair 39 = .ok (.iconst 1, 1) := by decide +kernel
theorem dX11_addPair_40 : decode cX11_addPair 40 = .ok (.iload_n 1, 1) := by decide +kernel
theorem dX11_addPair_41 : decode cX11_addPair 41 = .ok (.bipush 10, 2) := by decide +kernel
theorem dX11_addPair_43 : decode cX11_addPair 43 = .ok (.irem, 1) := by decide +kernel
theorem dX11_addPair_44 : decode cX11_addPair 44 = .ok (.ishl, 1) := by decide +kernel
theorem dX11_addPair_45 : decode cX11_addPair 45 = .ok (.ior, 1) := by decide +kernel
theorem dX11_addPair_46 : decode cX11_addPair 46 = .ok (.iastore, 1) := by decide +kernel
theorem dX11_addPair_47 : decode cX11_addPair 47 = .ok (.return_, 1) := by decide +kernel
theorem dX11_mayComeOn_0 : decode cX11_mayComeOn 0 = .ok (.aload_n 0, 1) := by decide +kernel
theorem dX11_mayComeOn_1 : decode cX11_mayComeOn 1 = .ok (.getfield 24, 3) := by decide +kernel
theorem dX11_mayComeOn_4 : decode cX11_mayComeOn 4 = .ok (.iload_n 2, 1) := by decide +kernel
theorem dX11_mayComeOn_5 : decode cX11_mayComeOn 5 = .ok (.iconst (-1), 1) := by decide +kernel
theorem dX11_mayComeOn_6 : decode cX11_mayComeOn 6 = .ok (.ixor, 1) := by decide +kernel
theorem dX11_mayComeOn_7 : decode cX11_mayComeOn 7 = .ok (.iand, 1) := by decide +kernel
theorem dX11_mayComeOn_8 : decode cX11_mayComeOn 8 = .ok (.iconst 1, 1) := by decide +kernel
theorem dX11_mayComeOn_9 : decode cX11_mayComeOn 9 = .ok (.iload_n 1, 1) := by decide +kernel
theorem dX11_mayComeOn_10 : decode cX11_mayComeOn 10 = .ok (.ishl, 1) := by decide +kernel
theorem dX11_mayComeOn_11 : decode cX11_mayComeOn 11 = .ok (.iand, 1) := by decide +kernel
theorem dX11_mayComeOn_12 : decode cX11_mayComeOn 12 = .ok (.ifCond .eq 20, 3) := by decide +kernel
theorem dX11_mayComeOn_15 : decode cX11_mayComeOn 15 = .ok (.aload_n 0, 1) := by decide +kernel
theorem dX11_mayComeOn_16 : decode cX11_mayComeOn 16 = .ok (.getfield 28, 3) := by decide +kernel
theorem dX11_mayComeOn_19 : decode cX11_mayComeOn 19 = .ok (.iload_n 1, 1) := by decide +kernel
theorem dX11_mayComeOn_20 : decode cX11_mayComeOn 20 = .ok (.iaload, 1) := by decide +kernel
theorem dX11_mayComeOn_21 : decode cX11_mayComeOn 21 = .ok (.iload_n 2, 1) := by decide +kernel
theorem dX11_mayComeOn_22 : decode cX11_mayComeOn 22 = .ok (.iconst (-1), 1) := by decide +kernel
theorem dX11_mayComeOn_23 : decode cX11_mayComeOn 23 = .ok (.ixor, 1) := by decide +kernel
theorem dX11_mayComeOn_24 : decode cX11_mayComeOn 24 = .ok (.iand, 1) := by decide +kernel
theorem dX11_mayComeOn_25 : decode cX11_mayComeOn 25 = .ok (.ifCond .ne 7, 3) := by decide +kernel
theorem dX11_mayComeOn_28 : decode cX11_mayComeOn 28 = .ok (.iconst 1, 1) := by decide +kernel
theorem dX11_mayComeOn_29 : decode cX11_mayComeOn 29 = .ok (.goto 4, 3) := by decide +kernel
theorem dX11_mayComeOn_32 : decode cX11_mayComeOn 32 = .ok (.iconst 0, 1) := by decide +kernel
theorem dX11_mayComeOn_33 : decode cX11_mayComeOn 33 = .ok (.ireturn, 1) := by decide +kernel
theorem dX11_lowestOn_0 : decode cX11_lowestOn 0 = .ok (.iconst 0, 1) := by decide +kernel
theorem dX11_lowestOn_1 : decode cX11_lowestOn 1 = .ok (.istore_n 2, 1) := by decide +kernel
theorem dX11_lowestOn_2 : decode cX11_lowestOn 2 = .ok (.iload_n 2, 1) := by decide +kernel
theorem dX11_lowestOn_3 : decode cX11_lowestOn 3 = .ok (.bipush 8, 2) := by decide +kernel
theorem dX11_lowestOn_5 : decode cX11_lowestOn 5 = .ok (.if_icmp .ge 20, 3) := by decide +kernel
theorem dX11_lowestOn_8 : decode cX11_lowestOn 8 = .ok (.aload_n 0, 1) := by decide +kernel
theorem dX11_lowestOn_9 : decode cX11_lowestOn 9 = .ok (.iload_n 2, 1) := by decide +kernel
theorem dX11_lowestOn_10 : decode cX11_lowestOn 10 = .ok (.iload_n 1, 1) := by decide +kernel
theorem dX11_lowestOn_11 : decode cX11_lowestOn 11 = .ok (.invokevirtual 340, 3) := by decide +kernel
theorem dX11_lowestOn_14 : decode cX11_lowestOn 14 = .ok (.ifCond .eq 5, 3) := by decide +kernel
theorem dX11_lowestOn_17 : decode cX11_lowestOn 17 = .ok (.iload_n 2, 1) := by decide +kernel
theorem dX11_lowestOn_18 : decode cX11_lowestOn 18 = .ok (.ireturn, 1) := by decide +kernel
theorem dX11_lowestOn_19 : decode cX11_lowestOn 19 = .ok (.iinc 2 1, 3) := by decide +kernel
theorem dX11_lowestOn_22 : decode cX11_lowestOn 22 = .ok (.goto (-20), 3) := by decide +kernel
theorem dX11_lowestOn_25 : decode cX11_lowestOn 25 = .ok (.iconst (-1), 1) := by decide +kernel
theorem dX11_lowestOn_26 : decode cX11_lowestOn 26 = .ok (.ireturn, 1) := by decide +kernel
theorem dX11_orderFits_0 : decode cX11_orderFits 0 = .ok (.iconst 0, 1) := by decide +kernel
theorem dX11_orderFits_1 : decode cX11_orderFits 1 = .ok (.istore_n 1, 1) := by decide +kernel
theorem dX11_orderFits_2 : decode cX11_orderFits 2 = .ok (.iconst 0, 1) := by decide +kernel
theorem dX11_orderFits_3 : decode cX11_orderFits 3 = .ok (.istore_n 2, 1) := by decide +kernel
theorem dX11_orderFits_4 : decode cX11_orderFits 4 = .ok (.iload_n 2, 1) := by decide +kernel
theorem dX11_orderFits_5 : decode cX11_orderFits 5 = .ok (.bipush 8, 2) := by decide +kernel
theorem dX11_orderFits_7 : decode cX11_orderFits 7 = .ok (.if_icmp .ge 26, 3) := by decide +kernel
theorem dX11_orderFits_10 : decode cX11_orderFits 10 = .ok (.aload_n 0, 1) := by decide +kernel
theorem dX11_orderFits_11 : decode cX11_orderFits 11 = .ok (.iload_n 1, 1) := by decide +kernel
theorem dX11_orderFits_12 : decode cX11_orderFits 12 = .ok (.invokevirtual 343, 3) := by decide +kernel
theorem dX11_orderFits_15 : decode cX11_orderFits 15 = .ok (.istore_n 3, 1) := by decide +kernel
theorem dX11_orderFits_16 : decode cX11_orderFits 16 = .ok (.iload_n 3, 1) := by decide +kernel
theorem dX11_orderFits_17 : decode cX11_orderFits 17 = .ok (.iconst (-1), 1) := by decide +kernel
theorem dX11_orderFits_18 : decode cX11_orderFits 18 = .ok (.if_icmp .eq 9, 3) := by decide +kernel
theorem dX11_orderFits_21 : decode cX11_orderFits 21 = .ok (.iload_n 1, 1) := by decide +kernel
theorem dX11_orderFits_22 : decode cX11_orderFits 22 = .ok (.iconst 1, 1) := by decide +kernel
theorem dX11_orderFits_23 : decode cX11_orderFits 23 = .ok (.iload_n 3, 1) := by decide +kernel
theorem dX11_orderFits_24 : decode cX11_orderFits 24 = .ok (.ishl, 1) := by decide +kernel
theorem dX11_orderFits_25 : decode cX11_orderFits 25 = .ok (.ior, 1) := by decide +kernel
theorem dX11_orderFits_26 : decode cX11_orderFits 26 = .ok (.istore_n 1, 1) := by decide +kernel
theorem dX11_orderFits_27 : decode cX11_orderFits 27 = .ok (.iinc 2 1, 3) := by decide +kernel
theorem dX11_orderFits_30 : decode cX11_orderFits 30 = .ok (.goto (-26), 3) := by decide +kernel
theorem dX11_orderFits_33 : decode cX11_orderFits 33 = .ok (.iload_n 1, 1) := by decide +kernel
theorem dX11_orderFits_34 : decode cX11_orderFits 34 = .ok (.aload_n 0, 1) := by decide +kernel
theorem dX11_orderFits_35 : decode cX11_orderFits 35 = .ok (.getfield 24, 3) := by decide +kernel
theorem dX11_orderFits_38 : decode cX11_orderFits 38 = .ok (.if_icmp .ne 7, 3) := by decide +kernel
theorem dX11_orderFits_41 : decode cX11_orderFits 41 = .ok (.iconst 1, 1) := by decide +kernel
theorem dX11_orderFits_42 : decode cX11_orderFits 42 = .ok (.goto 4, 3) := by decide +kernel
theorem dX11_orderFits_45 : decode cX11_orderFits 45 = .ok (.iconst 0, 1) := by decide +kernel
theorem dX11_orderFits_46 : decode cX11_orderFits 46 = .ok (.ireturn, 1) := by decide +kernel
theorem dX11_inFirstOrder_0 : decode cX11_inFirstOrder 0 = .ok (.iconst 0, 1) := by decide +kernel
theorem dX11_inFirstOrder_1 : decode cX11_inFirstOrder 1 = .ok (.istore_n 2, 1) := by decide +kernel
theorem dX11_inFirstOrder_2 : decode cX11_inFirstOrder 2 = .ok (.iconst (-1), 1) := by decide +kernel
theorem dX11_inFirstOrder_3 : decode cX11_inFirstOrder 3 = .ok (.istore_n 3, 1) := by decide +kernel
theorem dX11_inFirstOrder_4 : decode cX11_inFirstOrder 4 = .ok (.iconst 0, 1) := by decide +kernel
theorem dX11_inFirstOrder_5 : decode cX11_inFirstOrder 5 = .ok (.istore 4, 2) := by decide +kernel
theorem dX11_inFirstOrder_7 : decode cX11_inFirstOrder 7 = .ok (.iload 4, 2) := by decide +kernel
theorem dX11_inFirstOrder_9 : decode cX11_inFirstOrder 9 = .ok (.iload_n 1, 1) := by decide +kernel
theorem dX11_inFirstOrder_10 : decode cX11_inFirstOrder 10 = .ok (.if_icmp .gt 28, 3) := by decide +kernel
theorem dX11_inFirstOrder_13 : decode cX11_inFirstOrder 13 = .ok (.aload_n 0, 1) := by decide +kernel
theorem dX11_inFirstOrder_14 : decode cX11_inFirstOrder 14 = .ok (.iload_n 2, 1) := by decide +kernel
theorem dX11_inFirstOrder_15 : decode cX11_inFirstOrder 15 = .ok (.invokevirtual 343, 3) := by decide +kernel
theorem dX11_inFirstOrder_18 : decode cX11_inFirstOrder 18 = .ok (.istore_n 3, 1) := by decide +kernel
theorem dX11_inFirstOrder_19 : decode cX11_inFirstOrder 19 = .ok (.iload_n 3, 1) := by decide +kernel
theorem dX11_inFirstOrder_20 : decode cX11_inFirstOrder 20 = .ok (.iconst (-1), 1) := by decide +kernel
theorem dX11_inFirstOrder_21 : decode cX11_inFirstOrder 21 = .ok (.if_icmp .ne 5, 3) := by decide +kernel
theorem dX11_inFirstOrder_24 : decode cX11_inFirstOrder 24 = .ok (.iconst (-1), 1) := by decide +kernel
theorem dX11_inFirstOrder_25 : decode cX11_inFirstOrder 25 = .ok (.ireturn, 1) := by decide +kernel
theorem dX11_inFirstOrder_26 : decode cX11_inFirstOrder 26 = .ok (.iload_n 2, 1) := by decide +kernel
theorem dX11_inFirstOrder_27 : decode cX11_inFirstOrder 27 = .ok (.iconst 1, 1) := by decide +kernel
theorem dX11_inFirstOrder_28 : decode cX11_inFirstOrder 28 = .ok (.iload_n 3, 1) := by decide +kernel
theorem dX11_inFirstOrder_29 : decode cX11_inFirstOrder 29 = .ok (.ishl, 1) := by decide +kernel
theorem dX11_inFirstOrder_30 : decode cX11_inFirstOrder 30 = .ok (.ior, 1) := by decide +kernel
theorem dX11_inFirstOrder_31 : decode cX11_inFirstOrder 31 = .ok (.istore_n 2, 1) := by decide +kernel
theorem dX11_inFirstOrder_32 : decode cX11_inFirstOrder 32 = .ok (.iinc 4 1, 3) := by decide +kernel
theorem dX11_inFirstOrder_35 : decode cX11_inFirstOrder 35 = .ok (.goto (-28), 3) := by decide +kernel
theorem dX11_inFirstOrder_38 : decode cX11_inFirstOrder 38 = .ok (.iload_n 3, 1) := by decide +kernel
theorem dX11_inFirstOrder_39 : decode cX11_inFirstOrder 39 = .ok (.ireturn, 1) := by decide +kernel
theorem dX11_countOrders_0 : decode cX11_countOrders 0 = .ok (.iconst 0, 1) := by decide +kernel
theorem dX11_countOrders_1 : decode cX11_countOrders 1 = .ok (.istore_n 1, 1) := by decide +kernel
theorem dX11_countOrders_2 : decode cX11_countOrders 2 = .ok (.iload_n 1, 1) := by decide +kernel
theorem dX11_countOrders_3 : decode cX11_countOrders 3 = .ok (.aload_n 0, 1) := by decide +kernel
theorem dX11_countOrders_4 : decode cX11_countOrders 4 = .ok (.getfield 31, 3) := by decide +kernel
theorem dX11_countOrders_7 : decode cX11_countOrders 7 = .ok (.arraylength, 1) := by decide +kernel
theorem dX11_countOrders_8 : decode cX11_countOrders 8 = .ok (.if_icmp .ge 16, 3) := by decide +kernel
theorem dX11_countOrders_11 : decode cX11_countOrders 11 = .ok (.aload_n 0, 1) := by decide +kernel
theorem dX11_countOrders_12 : decode cX11_countOrders 12 = .ok (.getfield 31, 3) := by decide +kernel
theorem dX11_countOrders_15 : decode cX11_countOrders 15 = .ok (.iload_n 1, 1) := by decide +kernel
theorem dX11_countOrders_16 : decode cX11_countOrders 16 = .ok (.iconst 0, 1) := by decide +kernel
theorem dX11_countOrders_17 : decode cX11_countOrders 17 = .ok (.iastore, 1) := by decide +kernel
theorem dX11_countOrders_18 : decode cX11_countOrders 18 = .ok (.iinc 1 1, 3) := by decide +kernel
theorem dX11_countOrders_21 : decode cX11_countOrders 21 = .ok (.goto (-19), 3) := by decide +kernel
theorem dX11_countOrders_24 : decode cX11_countOrders 24 = .ok (.aload_n 0, 1) := by decide +kernel
theorem dX11_countOrders_25 : decode cX11_countOrders 25 = .ok (.getfield 31, 3) := by decide +kernel
theorem dX11_countOrders_28 : decode cX11_countOrders 28 = .ok (.iconst 0, 1) := by decide +kernel
theorem dX11_countOrders_29 : decode cX11_countOrders 29 = .ok (.iconst 1, 1) := by decide +kernel
theorem dX11_countOrders_30 : decode cX11_countOrders 30 = .ok (.iastore, 1) := by decide +kernel
theorem dX11_countOrders_31 : decode cX11_countOrders 31 = .ok (.iconst 0, 1) := by decide +kernel
theorem dX11_countOrders_32 : decode cX11_countOrders 32 = .ok (.istore_n 1, 1) := by decide +kernel
theorem dX11_countOrders_33 : decode cX11_countOrders 33 = .ok (.iload_n 1, 1) := by decide +kernel
theorem dX11_countOrders_34 : decode cX11_countOrders 34 = .ok (.aload_n 0, 1) := by decide +kernel
theorem dX11_countOrders_35 : decode cX11_countOrders 35 = .ok (.getfield 31, 3) := by decide +kernel
theorem dX11_countOrders_38 : decode cX11_countOrders 38 = .ok (.arraylength, 1) := by decide +kernel
theorem dX11_countOrders_39 : decode cX11_countOrders 39 = .ok (.if_icmp .ge 60, 3) := by decide +kernel
theorem dX11_countOrders_42 : decode cX11_countOrders 42 = .ok (.iconst 0, 1) := by decide +kernel
theorem dX11_countOrders_43 : decode cX11_countOrders 43 = .ok (.istore_n 2, 1) := by decide +kernel
theorem dX11_countOrders_44 : decode cX11_countOrders 44 = .ok (.iload_n 2, 1) := by decide +kernel
theorem dX11_countOrders_45 : decode cX11_countOrders 45 = .ok (.bipush 8, 2) := by decide +kernel
theorem dX11_countOrders_47 : decode cX11_countOrders 47 = .ok (.if_icmp .ge 46, 3) := by decide +kernel
theorem dX11_countOrders_50 : decode cX11_countOrders 50 = .ok (.aload_n 0, 1) := by decide +kernel
theorem dX11_countOrders_51 : decode cX11_countOrders 51 = .ok (.getfield 31, 3) := by decide +kernel
theorem dX11_countOrders_54 : decode cX11_countOrders 54 = .ok (.iload_n 1, 1) := by decide +kernel
theorem dX11_countOrders_55 : decode cX11_countOrders 55 = .ok (.iaload, 1) := by decide +kernel
theorem dX11_countOrders_56 : decode cX11_countOrders 56 = .ok (.ifCond .le 31, 3) := by decide +kernel
theorem dX11_countOrders_59 : decode cX11_countOrders 59 = .ok (.aload_n 0, 1) := by decide +kernel
theorem dX11_countOrders_60 : decode cX11_countOrders 60 = .ok (.iload_n 2, 1) := by decide +kernel
theorem dX11_countOrders_61 : decode cX11_countOrders 61 = .ok (.iload_n 1, 1) := by decide +kernel
theorem dX11_countOrders_62 : decode cX11_countOrders 62 = .ok (.invokevirtual 340, 3) := by decide +kernel
theorem dX11_countOrders_65 : decode cX11_countOrders 65 = .ok (.ifCond .eq 22, 3) := by decide +kernel
theorem dX11_countOrders_68 : decode cX11_countOrders 68 = .ok (.aload_n 0, 1) := by decide +kernel
theorem dX11_countOrders_69 : decode cX11_countOrders 69 = .ok (.getfield 31, 3) := by decide +kernel
theorem dX11_countOrders_72 : decode cX11_countOrders 72 = .ok (.iload_n 1, 1) := by decide +kernel
theorem dX11_countOrders_73 : decode cX11_countOrders 73 = .ok (.iconst 1, 1) := by decide +kernel
theorem dX11_countOrders_74 : decode cX11_countOrders 74 = .ok (.iload_n 2, 1) := by decide +kernel
theorem dX11_countOrders_75 : decode cX11_countOrders 75 = .ok (.ishl, 1) := by decide +kernel
theorem dX11_countOrders_76 : decode cX11_countOrders 76 = .ok (.ior, 1) := by decide +kernel
theorem dX11_countOrders_77 : decode cX11_countOrders 77 = .ok (.dup2, 1) := by decide +kernel
theorem dX11_countOrders_78 : decode cX11_countOrders 78 = .ok (.iaload, 1) := by decide +kernel
theorem dX11_countOrders_79 : decode cX11_countOrders 79 = .ok (.aload_n 0, 1) := by decide +kernel
theorem dX11_countOrders_80 : decode cX11_countOrders 80 = .ok (.getfield 31, 3) := by decide +kernel
theorem dX11_countOrders_83 : decode cX11_countOrders 83 = .ok (.iload_n 1, 1) := by decide +kernel
theorem dX11_countOrders_84 : decode cX11_countOrders 84 = .ok (.iaload, 1) := by decide +kernel
theorem dX11_countOrders_85 : decode cX11_countOrders 85 = .ok (.iadd, 1) := by decide +kernel
theorem dX11_countOrders_86 : decode cX11_countOrders 86 = .ok (.iastore, 1) := by decide +kernel
theorem dX11_countOrders_87 : decode cX11_countOrders 87 = .ok (.iinc 2 1, 3) := by decide +kernel
theorem dX11_countOrders_90 : decode cX11_countOrders 90 = .ok (.goto (-46), 3) := by decide +kernel
theorem dX11_countOrders_93 : decode cX11_countOrders 93 = .ok (.iinc 1 1, 3) := by decide +kernel
theorem dX11_countOrders_96 : decode cX11_countOrders 96 = .ok (.goto (-63), 3) := by decide +kernel
theorem dX11_countOrders_99 : decode cX11_countOrders 99 = .ok (.aload_n 0, 1) := by decide +kernel
theorem dX11_countOrders_100 : decode cX11_countOrders 100 = .ok (.getfield 31, 3) := by decide +kernel
theorem dX11_countOrders_103 : decode cX11_countOrders 103 = .ok (.aload_n 0, 1) := by decide +kernel
theorem dX11_countOrders_104 : decode cX11_countOrders 104 = .ok (.getfield 24, 3) := by decide +kernel
theorem dX11_countOrders_107 : decode cX11_countOrders 107 = .ok (.iaload, 1) := by decide +kernel
theorem dX11_countOrders_108 : decode cX11_countOrders 108 = .ok (.ireturn, 1) := by decide +kernel
theorem dJ6_highestOneBit_0f7a4_0 : decode cJ6_highestOneBit_0f7a4 0 = .ok (.iload_n 0, 1) := by decide +kernel
theorem dJ6_highestOneBit_0f7a4_1 : decode cJ6_highestOneBit_0f7a4 1 = .ok (.ldc 127, 2) := by decide +kernel
theorem dJ6_highestOneBit_0f7a4_3 : decode cJ6_highestOneBit_0f7a4 3 = .ok (.iload_n 0, 1) := by decide +kernel
theorem dJ6_highestOneBit_0f7a4_4 : decode cJ6_highestOneBit_0f7a4 4 = .ok (.invokestatic 51, 3) := by decide +kernel
theorem dJ6_highestOneBit_0f7a4_7 : decode cJ6_highestOneBit_0f7a4 7 = .ok (.iushr, 1) := by decide +kernel
theorem dJ6_highestOneBit_0f7a4_8 : decode cJ6_highestOneBit_0f7a4 8 = .ok (.iand, 1) := by decide +kernel
theorem dJ6_highestOneBit_0f7a4_9 : decode cJ6_highestOneBit_0f7a4 9 = .ok (.ireturn, 1) := by decide +kernel
theorem dJ6_numberOfLeadingZeros_0f7a4_0 : decode cJ6_numberOfLeadingZeros_0f7a4 0 = .ok (.iload_n 0, 1) := by decide +kernel
theorem dJ6_numberOfLeadingZeros_0f7a4_1 : decode cJ6_numberOfLeadingZeros_0f7a4 1 = .ok (.ifCond .gt 14, 3) := by decide +kernel
theorem dJ6_numberOfLeadingZeros_0f7a4_4 : decode cJ6_numberOfLeadingZeros_0f7a4 4 = .ok (.iload_n 0, 1) := by decide +kernel
theorem dJ6_numberOfLeadingZeros_0f7a4_5 : decode cJ6_numberOfLeadingZeros_0f7a4 5 = .ok (.ifCond .ne 8, 3) := by decide +kernel
theorem dJ6_numberOfLeadingZeros_0f7a4_8 : decode cJ6_numberOfLeadingZeros_0f7a4 8 = .ok (.bipush 32, 2) := by decide +kernel
theorem dJ6_numberOfLeadingZeros_0f7a4_10 : decode cJ6_numberOfLeadingZeros_0f7a4 10 = .ok (.goto 4, 3) := by decide +kernel
theorem dJ6_numberOfLeadingZeros_0f7a4_13 : decode cJ6_numberOfLeadingZeros_0f7a4 13 = .ok (.iconst 0, 1) := by decide +kernel
theorem dJ6_numberOfLeadingZeros_0f7a4_14 : decode cJ6_numberOfLeadingZeros_0f7a4 14 = .ok (.ireturn, 1) := by decide +kernel
theorem dJ6_numberOfLeadingZeros_0f7a4_15 : decode cJ6_numberOfLeadingZeros_0f7a4 15 = .ok (.bipush 31, 2) := by decide +kernel
theorem dJ6_numberOfLeadingZeros_0f7a4_17 : decode cJ6_numberOfLeadingZeros_0f7a4 17 = .ok (.istore_n 1, 1) := by decide +kernel
theorem dJ6_numberOfLeadingZeros_0f7a4_18 : decode cJ6_numberOfLeadingZeros_0f7a4 18 = .ok (.iload_n 0, 1) := by decide +kernel
theorem dJ6_numberOfLeadingZeros_0f7a4_19 : decode cJ6_numberOfLeadingZeros_0f7a4 19 = .ok (.ldc_w 264, 3) := by decide +kernel
theorem dJ6_numberOfLeadingZeros_0f7a4_22 : decode cJ6_numberOfLeadingZeros_0f7a4 22 = .ok (.if_icmp .lt 11, 3) := by decide +kernel
theorem dJ6_numberOfLeadingZeros_0f7a4_25 : decode cJ6_numberOfLeadingZeros_0f7a4 25 = .ok (.iinc 1 (-16), 3) := by decide +kernel
theorem dJ6_numberOfLeadingZeros_0f7a4_28 : decode cJ6_numberOfLeadingZeros_0f7a4 28 = .ok (.iload_n 0, 1) := by decide +kernel
theorem dJ6_numberOfLeadingZeros_0f7a4_29 : decode cJ6_numberOfLeadingZeros_0f7a4 29 = .ok (.bipush 16, 2) := by decide +kernel
theorem dJ6_numberOfLeadingZeros_0f7a4_31 : decode cJ6_numberOfLeadingZeros_0f7a4 31 = .ok (.iushr, 1) := by decide +kernel
theorem dJ6_numberOfLeadingZeros_0f7a4_32 : decode cJ6_numberOfLeadingZeros_0f7a4 32 = .ok (.istore_n 0, 1) := by decide +kernel
theorem dJ6_numberOfLeadingZeros_0f7a4_33 : decode cJ6_numberOfLeadingZeros_0f7a4 33 = .ok (.iload_n 0, 1) := by decide +kernel
theorem dJ6_numberOfLeadingZeros_0f7a4_34 : decode cJ6_numberOfLeadingZeros_0f7a4 34 = .ok (.sipush 256, 3) := by decide +kernel
theorem dJ6_numberOfLeadingZeros_0f7a4_37 : decode cJ6_numberOfLeadingZeros_0f7a4 37 = .ok (.if_icmp .lt 11, 3) := by decide +kernel
theorem dJ6_numberOfLeadingZeros_0f7a4_40 : decode cJ6_numberOfLeadingZeros_0f7a4 40 = .ok (.iinc 1 (-8), 3) := by decide +kernel
theorem dJ6_numberOfLeadingZeros_0f7a4_43 : decode cJ6_numberOfLeadingZeros_0f7a4 43 = .ok (.iload_n 0, 1) := by decide +kernel
theorem dJ6_numberOfLeadingZeros_0f7a4_44 : decode cJ6_numberOfLeadingZeros_0f7a4 44 = .ok (.bipush 8, 2) := by decide +kernel
theorem dJ6_numberOfLeadingZeros_0f7a4_46 : decode cJ6_numberOfLeadingZeros_0f7a4 46 = .ok (.iushr, 1) := by decide +kernel
theorem dJ6_numberOfLeadingZeros_0f7a4_47 : decode cJ6_numberOfLeadingZeros_0f7a4 47 = .ok (.istore_n 0, 1) := by decide +kernel
theorem dJ6_numberOfLeadingZeros_0f7a4_48 : decode cJ6_numberOfLeadingZeros_0f7a4 48 = .ok (.iload_n 0, 1) := by decide +kernel
theorem dJ6_numberOfLeadingZeros_0f7a4_49 : decode cJ6_numberOfLeadingZeros_0f7a4 49 = .ok (.bipush 16, 2) := by decide +kernel
theorem dJ6_numberOfLeadingZeros_0f7a4_51 : decode cJ6_numberOfLeadingZeros_0f7a4 51 = .ok (.if_icmp .lt 10, 3) := by decide +kernel
theorem dJ6_numberOfLeadingZeros_0f7a4_54 : decode cJ6_numberOfLeadingZeros_0f7a4 54 = .ok (.iinc 1 (-4), 3) := by decide +kernel
theorem dJ6_numberOfLeadingZeros_0f7a4_57 : decode cJ6_numberOfLeadingZeros_0f7a4 57 = .ok (.iload_n 0, 1) := by decide +kernel
theorem dJ6_numberOfLeadingZeros_0f7a4_58 : decode cJ6_numberOfLeadingZeros_0f7a4 58 = .ok (.iconst 4, 1) := by decide +kernel
theorem dJ6_numberOfLeadingZeros_0f7a4_59 : decode cJ6_numberOfLeadingZeros_0f7a4 59 = .ok (.iushr, 1) := by decide +kernel
theorem dJ6_numberOfLeadingZeros_0f7a4_60 : decode cJ6_numberOfLeadingZeros_0f7a4 60 = .ok (.istore_n 0, 1) := by decide +kernel
theorem dJ6_numberOfLeadingZeros_0f7a4_61 : decode cJ6_numberOfLeadingZeros_0f7a4 61 = .ok (.iload_n 0, 1) := by decide +kernel
theorem dJ6_numberOfLeadingZeros_0f7a4_62 : decode cJ6_numberOfLeadingZeros_0f7a4 62 = .ok (.iconst 4, 1) := by decide +kernel
theorem dJ6_numberOfLeadingZeros_0f7a4_63 : decode cJ6_numberOfLeadingZeros_0f7a4 63 = .ok (.if_icmp .lt 10, 3) := by decide +kernel
theorem dJ6_numberOfLeadingZeros_0f7a4_66 : decode cJ6_numberOfLeadingZeros_0f7a4 66 = .ok (.iinc 1 (-2), 3) := by decide +kernel
theorem dJ6_numberOfLeadingZeros_0f7a4_69 : decode cJ6_numberOfLeadingZeros_0f7a4 69 = .ok (.iload_n 0, 1) := by decide +kernel
theorem dJ6_numberOfLeadingZeros_0f7a4_70 : decode cJ6_numberOfLeadingZeros_0f7a4 70 = .ok (.iconst 2, 1) := by decide +kernel
theorem dJ6_numberOfLeadingZeros_0f7a4_71 : decode cJ6_numberOfLeadingZeros_0f7a4 71 = .ok (.iushr, 1) := by decide +kernel
theorem dJ6_numberOfLeadingZeros_0f7a4_72 : decode cJ6_numberOfLeadingZeros_0f7a4 72 = .ok (.istore_n 0, 1) := by decide +kernel
theorem dJ6_numberOfLeadingZeros_0f7a4_73 : decode cJ6_numberOfLeadingZeros_0f7a4 73 = .ok (.iload_n 1, 1) := by decide +kernel
theorem dJ6_numberOfLeadingZeros_0f7a4_74 : decode cJ6_numberOfLeadingZeros_0f7a4 74 = .ok (.iload_n 0, 1) := by decide +kernel
theorem dJ6_numberOfLeadingZeros_0f7a4_75 : decode cJ6_numberOfLeadingZeros_0f7a4 75 = .ok (.iconst 1, 1) := by decide +kernel
theorem dJ6_numberOfLeadingZeros_0f7a4_76 : decode cJ6_numberOfLeadingZeros_0f7a4 76 = .ok (.iushr, 1) := by decide +kernel
theorem dJ6_numberOfLeadingZeros_0f7a4_77 : decode cJ6_numberOfLeadingZeros_0f7a4 77 = .ok (.isub, 1) := by decide +kernel
theorem dJ6_numberOfLeadingZeros_0f7a4_78 : decode cJ6_numberOfLeadingZeros_0f7a4 78 = .ok (.ireturn, 1) := by decide +kernel
theorem dJ6_bitCount_0f7a4_0 : decode cJ6_bitCount_0f7a4 0 = .ok (.iload_n 0, 1) := by decide +kernel
theorem dJ6_bitCount_0f7a4_1 : decode cJ6_bitCount_0f7a4 1 = .ok (.iload_n 0, 1) := by decide +kernel
theorem dJ6_bitCount_0f7a4_2 : decode cJ6_bitCount_0f7a4 2 = .ok (.iconst 1, 1) := by decide +kernel
theorem dJ6_bitCount_0f7a4_3 : decode cJ6_bitCount_0f7a4 3 = .ok (.iushr, 1) := by decide +kernel
theorem dJ6_bitCount_0f7a4_4 : decode cJ6_bitCount_0f7a4 4 = .ok (.ldc_w 265, 3) := by decide +kernel
theorem dJ6_bitCount_0f7a4_7 : decode cJ6_bitCount_0f7a4 7 = .ok (.iand, 1) := by decide +kernel
theorem dJ6_bitCount_0f7a4_8 : decode cJ6_bitCount_0f7a4 8 = .ok (.isub, 1) := by decide +kernel
theorem dJ6_bitCount_0f7a4_9 : decode cJ6_bitCount_0f7a4 9 = .ok (.istore_n 0, 1) := by decide +kernel
theorem dJ6_bitCount_0f7a4_10 : decode cJ6_bitCount_0f7a4 10 = .ok (.iload_n 0, 1) := by decide +kernel
theorem dJ6_bitCount_0f7a4_11 : decode cJ6_bitCount_0f7a4 11 = .ok (.ldc_w 266, 3) := by decide +kernel
theorem dJ6_bitCount_0f7a4_14 : decode cJ6_bitCount_0f7a4 14 = .ok (.iand, 1) := by decide +kernel
theorem dJ6_bitCount_0f7a4_15 : decode cJ6_bitCount_0f7a4 15 = .ok (.iload_n 0, 1) := by decide +kernel
theorem dJ6_bitCount_0f7a4_16 : decode cJ6_bitCount_0f7a4 16 = .ok (.iconst 2, 1) := by decide +kernel
theorem dJ6_bitCount_0f7a4_17 : decode cJ6_bitCount_0f7a4 17 = .ok (.iushr, 1) := by decide +kernel
theorem dJ6_bitCount_0f7a4_18 : decode cJ6_bitCount_0f7a4 18 = .ok (.ldc_w 266, 3) := by decide +kernel
theorem dJ6_bitCount_0f7a4_21 : decode cJ6_bitCount_0f7a4 21 = .ok (.iand, 1) := by decide +kernel
theorem dJ6_bitCount_0f7a4_22 : decode cJ6_bitCount_0f7a4 22 = .ok (.iadd, 1) := by decide +kernel
theorem dJ6_bitCount_0f7a4_23 : decode cJ6_bitCount_0f7a4 23 = .ok (.istore_n 0, 1) := by decide +kernel
theorem dJ6_bitCount_0f7a4_24 : decode cJ6_bitCount_0f7a4 24 = .ok (.iload_n 0, 1) := by decide +kernel
theorem dJ6_bitCount_0f7a4_25 : decode cJ6_bitCount_0f7a4 25 = .ok (.iload_n 0, 1) := by decide +kernel
theorem dJ6_bitCount_0f7a4_26 : decode cJ6_bitCount_0f7a4 26 = .ok (.iconst 4, 1) := by decide +kernel
theorem dJ6_bitCount_0f7a4_27 : decode cJ6_bitCount_0f7a4 27 = .ok (.iushr, 1) := by decide +kernel
theorem dJ6_bitCount_0f7a4_28 : decode cJ6_bitCount_0f7a4 28 = .ok (.iadd, 1) := by decide +kernel
theorem dJ6_bitCount_0f7a4_29 : decode cJ6_bitCount_0f7a4 29 = .ok (.ldc_w 267, 3) := by decide +kernel
theorem dJ6_bitCount_0f7a4_32 : decode cJ6_bitCount_0f7a4 32 = .ok (.iand, 1) := by decide +kernel
theorem dJ6_bitCount_0f7a4_33 : decode cJ6_bitCount_0f7a4 33 = .ok (.istore_n 0, 1) := by decide +kernel
theorem dJ6_bitCount_0f7a4_34 : decode cJ6_bitCount_0f7a4 34 = .ok (.iload_n 0, 1) := by decide +kernel
theorem dJ6_bitCount_0f7a4_35 : decode cJ6_bitCount_0f7a4 35 = .ok (.iload_n 0, 1) := by decide +kernel
theorem dJ6_bitCount_0f7a4_36 : decode cJ6_bitCount_0f7a4 36 = .ok (.bipush 8, 2) := by decide +kernel
theorem dJ6_bitCount_0f7a4_38 : decode cJ6_bitCount_0f7a4 38 = .ok (.iushr, 1) := by decide +kernel
theorem dJ6_bitCount_0f7a4_39 : decode cJ6_bitCount_0f7a4 39 = .ok (.iadd, 1) := by decide +kernel
theorem dJ6_bitCount_0f7a4_40 : decode cJ6_bitCount_0f7a4 40 = .ok (.istore_n 0, 1) := by decide +kernel
theorem dJ6_bitCount_0f7a4_41 : decode cJ6_bitCount_0f7a4 41 = .ok (.iload_n 0, 1) := by decide +kernel
theorem dJ6_bitCount_0f7a4_42 : decode cJ6_bitCount_0f7a4 42 = .ok (.iload_n 0, 1) := by decide +kernel
theorem dJ6_bitCount_0f7a4_43 : decode cJ6_bitCount_0f7a4 43 = .ok (.bipush 16, 2) := by decide +kernel
theorem dJ6_bitCount_0f7a4_45 : decode cJ6_bitCount_0f7a4 45 = .ok (.iushr, 1) := by decide +kernel
theorem dJ6_bitCount_0f7a4_46 : decode cJ6_bitCount_0f7a4 46 = .ok (.iadd, 1) := by decide +kernel
theorem dJ6_bitCount_0f7a4_47 : decode cJ6_bitCount_0f7a4 47 = .ok (.istore_n 0, 1) := by decide +kernel
theorem dJ6_bitCount_0f7a4_48 : decode cJ6_bitCount_0f7a4 48 = .ok (.iload_n 0, 1) := by decide +kernel
theorem dJ6_bitCount_0f7a4_49 : decode cJ6_bitCount_0f7a4 49 = .ok (.bipush 63, 2) := by decide +kernel
theorem dJ6_bitCount_0f7a4_51 : decode cJ6_bitCount_0f7a4 51 = .ok (.iand, 1) := by decide +kernel
theorem dJ6_bitCount_0f7a4_52 : decode cJ6_bitCount_0f7a4 52 = .ok (.ireturn, 1) := by decide +kernel
theorem dJ9_max_7cf53_0 : decode cJ9_max_7cf53 0 = .ok (.iload_n 0, 1) := by decide +kernel
theorem dJ9_max_7cf53_1 : decode cJ9_max_7cf53 1 = .ok (.iload_n 1, 1) := by decide +kernel
theorem dJ9_max_7cf53_2 : decode cJ9_max_7cf53 2 = .ok (.if_icmp .lt 7, 3) := by decide +kernel
theorem dJ9_max_7cf53_5 : decode cJ9_max_7cf53 5 = .ok (.iload_n 0, 1) := by decide +kernel
theorem dJ9_max_7cf53_6 : decode cJ9_max_7cf53 6 = .ok (.goto 4, 3) := by decide +kernel
theorem dJ9_max_7cf53_9 : decode cJ9_max_7cf53 9 = .ok (.iload_n 1, 1) := by decide +kernel
theorem dJ9_max_7cf53_10 : decode cJ9_max_7cf53 10 = .ok (.ireturn, 1) := by decide +kernel
theorem dJ0_length_8abf5_0 : decode cJ0_length_8abf5 0 = .ok (.aload_n 0, 1) := by decide +kernel
theorem dJ0_length_8abf5_1 : decode cJ0_length_8abf5 1 = .ok (.getfield 9, 3) := by decide +kernel
theorem dJ0_length_8abf5_4 : decode cJ0_length_8abf5 4 = .ok (.arraylength, 1) := by decide +kernel
theorem dJ0_length_8abf5_5 : decode cJ0_length_8abf5 5 = .ok (.aload_n 0, 1) := by decide +kernel
theorem dJ0_length_8abf5_6 : decode cJ0_length_8abf5 6 = .ok (.invokevirtual 335, 3) := by decide +kernel
theorem dJ0_length_8abf5_9 : decode cJ0_length_8abf5 9 = .ok (.ishr, 1) := by decide +kernel
theorem dJ0_length_8abf5_10 : decode cJ0_length_8abf5 10 = .ok (.ireturn, 1) := by decide +kernel
theorem dJ0_charAt_5068e_0 : decode cJ0_charAt_5068e 0 = .ok (.aload_n 0, 1) := by decide +kernel
theorem dJ0_charAt_5068e_1 : decode cJ0_charAt_5068e 1 = .ok (.invokevirtual 492, 3) := by decide +kernel
theorem dJ0_charAt_5068e_4 : decode cJ0_charAt_5068e 4 = .ok (.ifCond .eq 12, 3) := by decide +kernel
theorem dJ0_charAt_5068e_7 : decode cJ0_charAt_5068e 7 = .ok (.aload_n 0, 1) := by decide +kernel
theorem dJ0_charAt_5068e_8 : decode cJ0_charAt_5068e 8 = .ok (.getfield 9, 3) := by decide +kernel
theorem dJ0_charAt_5068e_11 : decode cJ0_charAt_5068e 11 = .ok (.iload_n 1, 1) := by decide +kernel
theorem dJ0_charAt_5068e_12 : decode cJ0_charAt_5068e 12 = .ok (.invokestatic 495, 3) := by decide +kernel
theorem dJ0_charAt_5068e_15 : decode cJ0_charAt_5068e 15 = .ok (.ireturn, 1) := by decide +kernel
theorem dJ0_charAt_5068e_16 : decode cJ0_charAt_5068e 16 = .ok (.aload_n 0, 1) := by decide +kernel
theorem dJ0_charAt_5068e_17 : decode cJ0_charAt_5068e 17 = .ok (.getfield 9, 3) := by decide +kernel
theorem dJ0_charAt_5068e_20 : decode cJ0_charAt_5068e 20 = .ok (.iload_n 1, 1) := by decide +kernel
theorem dJ0_charAt_5068e_21 : decode cJ0_charAt_5068e 21 = .ok (.invokestatic 498, 3) := by decide +kernel
theorem dJ0_charAt_5068e_24 : decode cJ0_charAt_5068e 24 = .ok (.ireturn, 1) := by decide +kernel
theorem dJ0_coder_7d493_0 : decode cJ0_coder_7d493 0 = .ok (.getstatic 38, 3) := by decide +kernel
theorem dJ0_coder_7d493_3 : decode cJ0_coder_7d493 3 = .ok (.ifCond .eq 10, 3) := by decide +kernel
theorem dJ0_coder_7d493_6 : decode cJ0_coder_7d493 6 = .ok (.aload_n 0, 1) := by decide +kernel
theorem dJ0_coder_7d493_7 : decode cJ0_coder_7d493 7 = .ok (.getfield 15, 3) := by decide +kernel
theorem dJ0_coder_7d493_10 : decode cJ0_coder_7d493 10 = .ok (.goto 4, 3) := by decide +kernel
theorem dJ0_coder_7d493_13 : decode cJ0_coder_7d493 13 = .ok (.iconst 1, 1) := by decide +kernel
theorem dJ0_coder_7d493_14 : decode cJ0_coder_7d493 14 = .ok (.ireturn, 1) := by decide +kernel
theorem dJ0_isLatin1_aae02_0 : decode cJ0_isLatin1_aae02 0 = .ok (.getstatic 38, 3) := by decide +kernel
theorem dJ0_isLatin1_aae02_3 : decode cJ0_isLatin1_aae02 3 = .ok (.ifCond .eq 14, 3) := by decide +kernel
theorem dJ0_isLatin1_aae02_6 : decode cJ0_isLatin1_aae02 6 = .ok (.aload_n 0, 1) := by decide +kernel
theorem dJ0_isLatin1_aae02_7 : decode cJ0_isLatin1_aae02 7 = .ok (.getfield 15, 3) := by decide +kernel
theorem dJ0_isLatin1_aae02_10 : decode cJ0_isLatin1_aae02 10 = .ok (.ifCond .ne 7, 3) := by decide +kernel
theorem dJ0_isLatin1_aae02_13 : decode cJ0_isLatin1_aae02 13 = .ok (.iconst 1, 1) := by decide +kernel
theorem dJ0_isLatin1_aae02_14 : decode cJ0_isLatin1_aae02 14 = .ok (.goto 4, 3) := by decide +kernel
theorem dJ0_isLatin1_aae02_17 : decode cJ0_isLatin1_aae02 17 = .ok (.iconst 0, 1) := by decide +kernel
theorem dJ0_isLatin1_aae02_18 : decode cJ0_isLatin1_aae02 18 = .ok (.ireturn, 1) := by decide +kernel
theorem dJ0_checkIndex_df160_0 : decode cJ0_checkIndex_df160 0 = .ok (.iload_n 0, 1) := by decide +kernel
theorem dJ0_checkIndex_df160_1 : decode cJ0_checkIndex_df160 1 = .ok (.iload_n 1, 1) := by decide +kernel
theorem dJ0_checkIndex_df160_2 : decode cJ0_checkIndex_df160 2 = .ok (.getstatic 1053, 3) := by decide +kernel
theorem dJ0_checkIndex_df160_5 : decode cJ0_checkIndex_df160 5 = .ok (.invokestatic 1059, 3) := by decide +kernel
theorem dJ0_checkIndex_df160_8 : decode cJ0_checkIndex_df160 8 = .ok (.pop, 1) := by decide +kernel
theorem dJ0_checkIndex_df160_9 : decode cJ0_checkIndex_df160 9 = .ok (.return_, 1) := by decide +kernel
theorem dJ1_charAt_3b067_0 : decode cJ1_charAt_3b067 0 = .ok (.iload_n 1, 1) := by decide +kernel
theorem dJ1_charAt_3b067_1 : decode cJ1_charAt_3b067 1 = .ok (.aload_n 0, 1) := by decide +kernel
theorem dJ1_charAt_3b067_2 : decode cJ1_charAt_3b067 2 = .ok (.arraylength, 1) := by decide +kernel
theorem dJ1_charAt_3b067_3 : decode cJ1_charAt_3b067 3 = .ok (.invokestatic 9, 3) := by decide +kernel
theorem dJ1_charAt_3b067_6 : decode cJ1_charAt_3b067 6 = .ok (.aload_n 0, 1) := by decide +kernel
theorem dJ1_charAt_3b067_7 : decode cJ1_charAt_3b067 7 = .ok (.iload_n 1, 1) := by decide +kernel
theorem dJ1_charAt_3b067_8 : decode cJ1_charAt_3b067 8 = .ok (.baload, 1) := by decide +kernel
theorem dJ1_charAt_3b067_9 : decode cJ1_charAt_3b067 9 = .ok (.sipush 255, 3) := by decide +kernel
theorem dJ1_charAt_3b067_12 : decode cJ1_charAt_3b067 12 = .ok (.iand, 1) := by decide +kernel
theorem dJ1_charAt_3b067_13 : decode cJ1_charAt_3b067 13 = .ok (.i2c, 1) := by decide +kernel
theorem dJ1_charAt_3b067_14 : decode cJ1_charAt_3b067 14 = .ok (.ireturn, 1) := by decide +kernel
theorem dJ2_getChar_3b067_0 : decode cJ2_getChar_3b067 0 = .ok (.getstatic 44, 3) := by decide +kernel
theorem dJ2_getChar_3b067_3 : decode cJ2_getChar_3b067 3 = .ok (.ifCond .ne 25, 3) := by decide +kernel
theorem dJ2_getChar_3b067_6 : decode cJ2_getChar_3b067 6 = .ok (.iload_n 1, 1) := by decide +kernel
theorem dJ2_getChar_3b067_7 : decode cJ2_getChar_3b067 7 = .ok (.ifCond .lt 11, 3) := by decide +kernel
theorem dJ2_getChar_3b067_10 : decode cJ2_getChar_3b067 10 = .ok (.iload_n 1, 1) := by decide +kernel
theorem dJ2_getChar_3b067_11 : decode cJ2_getChar_3b067 11 = .ok (.aload_n 0, 1) := by decide +kernel
theorem dJ2_getChar_3b067_12 : decode cJ2_getChar_3b067 12 = .ok (.invokestatic 48, 3) := by decide +kernel
theorem dJ2_getChar_3b067_15 : decode cJ2_getChar_3b067 15 = .ok (.if_icmp .lt 13, 3) := by decide +kernel
theorem dJ2_getChar_3b067_18 : decode cJ2_getChar_3b067 18 = .ok (.new 52, 3) := by decide +kernel
theorem dJ2_getChar_3b067_21 : decode cJ2_getChar_3b067 21 = .ok (.dup, 1) := by decide +kernel
theorem dJ2_getChar_3b067_22 : decode cJ2_getChar_3b067 22 = .ok (.ldc 54, 2) := by decide +kernel
theorem dJ2_getChar_3b067_24 : decode cJ2_getChar_3b067 24 = .ok (.invokespecial 56, 3) := by decide +kernel
theorem dJ2_getChar_3b067_27 : decode cJ2_getChar_3b067 27 = .ok (.athrow, 1) := by decide +kernel
theorem dJ2_getChar_3b067_28 : decode cJ2_getChar_3b067 28 = .ok (.iload_n 1, 1) := by decide +kernel
theorem dJ2_getChar_3b067_29 : decode cJ2_getChar_3b067 29 = .ok (.iconst 1, 1) := by decide +kernel
theorem dJ2_getChar_3b067_30 : decode cJ2_getChar_3b067 30 = .ok (.ishl, 1) := by decide +kernel
theorem dJ2_getChar_3b067_31 : decode cJ2_getChar_3b067 31 = .ok (.istore_n 1, 1) := by decide +kernel
theorem dJ2_getChar_3b067_32 : decode cJ2_getChar_3b067 32 = .ok (.aload_n 0, 1) := by decide +kernel
theorem dJ2_getChar_3b067_33 : decode cJ2_getChar_3b067 33 = .ok (.iload_n 1, 1) := by decide +kernel
theorem dJ2_getChar_3b067_34 : decode cJ2_getChar_3b067 34 = .ok (.iinc 1 1, 3) := by decide +kernel
theorem dJ2_getChar_3b067_37 : decode cJ2_getChar_3b067 37 = .ok (.baload, 1) := by decide +kernel
theorem dJ2_getChar_3b067_38 : decode cJ2_getChar_3b067 38 = .ok (.sipush 255, 3) := by decide +kernel
theorem dJ2_getChar_3b067_41 : decode cJ2_getChar_3b067 41 = .ok (.iand, 1) := by decide +kernel
theorem dJ2_getChar_3b067_42 : decode cJ2_getChar_3b067 42 = .ok (.getstatic 59, 3) := by decide +kernel
theorem dJ2_getChar_3b067_45 : decode cJ2_getChar_3b067 45 = .ok (.ishl, 1) := by decide +kernel
theorem dJ2_getChar_3b067_46 : decode cJ2_getChar_3b067 46 = .ok (.aload_n 0, 1) := by decide +kernel
theorem dJ2_getChar_3b067_47 : decode cJ2_getChar_3b067 47 = .ok (.iload_n 1, 1) := by decide +kernel
theorem dJ2_getChar_3b067_48 : decode cJ2_getChar_3b067 48 = .ok (.baload, 1) := by decide +kernel
theorem dJ2_getChar_3b067_49 : decode cJ2_getChar_3b067 49 = .ok (.sipush 255, 3) := by decide +kernel
theorem dJ2_getChar_3b067_52 : decode cJ2_getChar_3b067 52 = .ok (.iand, 1) := by decide +kernel
theorem dJ2_getChar_3b067_53 : decode cJ2_getChar_3b067 53 = .ok (.getstatic 63, 3) := by decide +kernel
theorem dJ2_getChar_3b067_56 : decode cJ2_getChar_3b067 56 = .ok (.ishl, 1) := by decide +kernel
theorem dJ2_getChar_3b067_57 : decode cJ2_getChar_3b067 57 = .ok (.ior, 1) := by decide +kernel
theorem dJ2_getChar_3b067_58 : decode cJ2_getChar_3b067 58 = .ok (.i2c, 1) := by decide +kernel
theorem dJ2_getChar_3b067_59 : decode cJ2_getChar_3b067 59 = .ok (.ireturn, 1) := by decide +kernel
theorem dJ2_length_9d52b_0 : decode cJ2_length_9d52b 0 = .ok (.aload_n 0, 1) := by decide +kernel
theorem dJ2_length_9d52b_1 : decode cJ2_length_9d52b 1 = .ok (.arraylength, 1) := by decide +kernel
theorem dJ2_length_9d52b_2 : decode cJ2_length_9d52b 2 = .ok (.iconst 1, 1) := by decide +kernel
theorem dJ2_length_9d52b_3 : decode cJ2_length_9d52b 3 = .ok (.ishr, 1) := by decide +kernel
theorem dJ2_length_9d52b_4 : decode cJ2_length_9d52b 4 = .ok (.ireturn, 1) := by decide +kernel
theorem dJ2_charAt_3b067_0 : decode cJ2_charAt_3b067 0 = .ok (.iload_n 1, 1) := by decide +kernel
theorem dJ2_charAt_3b067_1 : decode cJ2_charAt_3b067 1 = .ok (.aload_n 0, 1) := by decide +kernel
theorem dJ2_charAt_3b067_2 : decode cJ2_charAt_3b067 2 = .ok (.invokestatic 67, 3) := by decide +kernel
theorem dJ2_charAt_3b067_5 : decode cJ2_charAt_3b067 5 = .ok (.aload_n 0, 1) := by decide +kernel
theorem dJ2_charAt_3b067_6 : decode cJ2_charAt_3b067 6 = .ok (.iload_n 1, 1) := by decide +kernel
theorem dJ2_charAt_3b067_7 : decode cJ2_charAt_3b067 7 = .ok (.invokestatic 71, 3) := by decide +kernel
theorem dJ2_charAt_3b067_10 : decode cJ2_charAt_3b067 10 = .ok (.ireturn, 1) := by decide +kernel
theorem dJ2_checkIndex_2214a_0 : decode cJ2_checkIndex_2214a 0 = .ok (.iload_n 0, 1) := by decide +kernel
theorem dJ2_checkIndex_2214a_1 : decode cJ2_checkIndex_2214a 1 = .ok (.aload_n 1, 1) := by decide +kernel
theorem dJ2_checkIndex_2214a_2 : decode cJ2_checkIndex_2214a 2 = .ok (.invokestatic 48, 3) := by decide +kernel
theorem dJ2_checkIndex_2214a_5 : decode cJ2_checkIndex_2214a 5 = .ok (.invokestatic 414, 3) := by decide +kernel
theorem dJ2_checkIndex_2214a_8 : decode cJ2_checkIndex_2214a 8 = .ok (.return_, 1) := by decide +kernel
theorem dJ3_checkIndex_8e157_0 : decode cJ3_checkIndex_8e157 0 = .ok (.iload_n 0, 1) := by decide +kernel
theorem dJ3_checkIndex_8e157_1 : decode cJ3_checkIndex_8e157 1 = .ok (.ifCond .lt 8, 3) := by decide +kernel
theorem dJ3_checkIndex_8e157_4 : decode cJ3_checkIndex_8e157 4 = .ok (.iload_n 0, 1) := by decide +kernel
theorem dJ3_checkIndex_8e157_5 : decode cJ3_checkIndex_8e157 5 = .ok (.iload_n 1, 1) := by decide +kernel
theorem dJ3_checkIndex_8e157_6 : decode cJ3_checkIndex_8e157 6 = .ok (.if_icmp .lt 10, 3) := by decide +kernel
theorem dJ3_checkIndex_8e157_9 : decode cJ3_checkIndex_8e157 9 = .ok (.aload_n 2, 1) := by decide +kernel
theorem dJ3_checkIndex_8e157_10 : decode cJ3_checkIndex_8e157 10 = .ok (.iload_n 0, 1) := by decide +kernel
theorem dJ3_checkIndex_8e157_11 : decode cJ3_checkIndex_8e157 11 = .ok (.iload_n 1, 1) := by decide +kernel
theorem dJ3_checkIndex_8e157_12 : decode cJ3_checkIndex_8e157 12 = .ok (.invokestatic 95, 3) := by decide +kernel
theorem dJ3_checkIndex_8e157_15 : decode cJ3_checkIndex_8e157 15 = .ok (.athrow, 1) := by decide +kernel
theorem dJ3_checkIndex_8e157_16 : decode cJ3_checkIndex_8e157 16 = .ok (.iload_n 0, 1) := by decide +kernel
theorem dJ3_checkIndex_8e157_17 : decode cJ3_checkIndex_8e157 17 = .ok (.ireturn, 1) := by decide +kernel
end
section
/-! a layer of my own over the kit's rows: the world as one list of objects at b, b + 1, .., its memory as three functions -/
-- the words that hold on, as one list
def TT : List Cond := lw_tbl.filter goodWord
theorem tt_in {w : Cond} (i : Nat) (h : lw_tbl[i]? = some w) (hg : goodWord w = true) : w ∈ TT := List.mem_filter.mpr ⟨List.mem_of_getElem? h, hg⟩
theorem tt_mem {w : Cond} (h : w ∈ lw_tbl) (hg : goodWord w = true) : w ∈ TT := List.mem_filter.mpr ⟨h, hg⟩
theorem tt_lw {w : Cond} (h : w ∈ TT) : w ∈ lw_tbl := (List.mem_filter.mp h).1
theorem tt_good {w : Cond} (h : w ∈ TT) : (w.onTables && w.keeps) = true ∨ ∃ ty, w = .arrayClass ty := good_of_word (List.mem_filter.mp h).2
theorem tt_goodIn {w : Cond} (h : w ∈ TT) : GoodIn TT (w :: TT) := fun u hu => by
  rcases List.mem_cons.mp hu with rfl | hu
  · exact ⟨h, tt_good h⟩
  · exact ⟨hu, tt_good hu⟩
-- memory: ints, longs, references (by place in the world)
abbrev Mm : Type := (Nat → Nat → Int32) × (Nat → Nat → Int64) × (Nat → Nat → Option Nat)
abbrev Sh : Type := Nat → Nat ⊕ (Nat × Nat)
-- classes and their fields' places, classes of arrays, addresses of the String constants and of their bytes
abbrev Dl : Type := va_G × (Nat → ClassId) × (Nat → Nat) × (Nat → Nat)
def wI (μ : Mm) (o k : Nat) (v : Int32) : Mm := (fun o' k' => if o' = o ∧ k' = k then v else μ.1 o' k', μ.2)
def wL (μ : Mm) (o k : Nat) (v : Int64) : Mm := (μ.1, fun o' k' => if o' = o ∧ k' = k then v else μ.2.1 o' k', μ.2.2)
def wR (μ : Mm) (o k : Nat) (v : Option Nat) : Mm := (μ.1, μ.2.1, fun o' k' => if o' = o ∧ k' = k then v else μ.2.2 o' k')
def w0 (μ : Mm) (o : Nat) : Mm := (fun o' k' => if o' = o then 0 else μ.1 o' k', fun o' k' => if o' = o then 0 else μ.2.1 o' k', fun o' k' => if o' = o then none else μ.2.2 o' k')
def ncf (c : Nat) : Nat := match vwCl[c]? with
  | some q => q.2.2
  | none => 0
def cft (c k : Nat) : FieldType := match c with
  | 3 => tyX3 k
  | 6 => tyX6 k
  | 9 => tyX9 k
  | 10 => tyX10 k
  | 11 => tyX11 k
  | 12 => tyX12 k
  | _ => .int
def fval (b : Nat) (μ : Mm) (o k : Nat) : FieldType → Value
  | .int => .int (μ.1 o k)
  | .boolean => .int (μ.1 o k)
  | .long => .long (μ.2.1 o k)
  | _ => va_rf ((μ.2.2 o k).map (fun j => b + j))
def ent (δ : Dl) (b : Nat) (sh : Sh) (μ : Mm) (o : Nat) : va_E := match sh o with
  | .inl c => .inr (c, (List.range (ncf c)).map (fun k => fval b μ o k (cft c k)))
  | .inr (0, n) => .inl (δ.2.1 0, n, .inl (μ.1 o))
  | .inr (1, n) => .inl (δ.2.1 1, n, .inr (.inl (μ.2.1 o)))
  | .inr (t, n) => .inl (δ.2.1 t, n, .inr (.inr (.inr (.inr (fun j => (μ.2.2 o j).map (fun i => b + i))))))
def wl (δ : Dl) (b : Nat) (sh : Sh) (N : Nat) (μ : Mm) : va_W := (List.range N).map (fun o => (b + o, ent δ b sh μ o))
def tys (δ : Dl) : List (ClassId × FieldType) := [(δ.2.1 0, .int), (δ.2.1 1, .long), (δ.2.1 2, .object "PaintedOver$Front"), (δ.2.1 3, .object "PaintedOver$Kind"), (δ.2.1 4, .array .long)]
def RG (b n : Nat) : Nat → Prop := fun q => b ≤ q ∧ q < b + n
theorem wl_get {δ : Dl} {b : Nat} {sh : Sh} {N : Nat} {μ : Mm} {o : Nat} (h : o < N) : (wl δ b sh N μ)[o]? = some (b + o, ent δ b sh μ o) := by
  unfold wl
  rw [List.getElem?_map, List.getElem?_range h]
  rfl
theorem wl_inv {δ : Dl} {b : Nat} {sh : Sh} {N : Nat} {μ : Mm} {o : Nat} {q : Nat × va_E} (h : (wl δ b sh N μ)[o]? = some q) : o < N ∧ q = (b + o, ent δ b sh μ o) := by
  by_cases ho : o < N
  · rw [wl_get ho] at h
    exact ⟨ho, (Option.some.inj h).symm⟩
  · unfold wl at h
    rw [List.getElem?_map, List.getElem?_eq_none (by rw [List.length_range]; omega)] at h
    cases h
theorem wl_D {δ : Dl} {b n : Nat} {sh : Sh} {N : Nat} {μ : Mm} (h : N ≤ n) : va_D (RG b n) (wl δ b sh N μ) := by
  refine ⟨fun i j p q hi hj hpq => ?_, fun k q hk => ?_⟩
  · obtain ⟨h1, rfl⟩ := wl_inv hi
    obtain ⟨h2, rfl⟩ := wl_inv hj
    have : b + i = b + j := hpq
    omega
  · obtain ⟨h1, rfl⟩ := wl_inv hk
    exact ⟨Nat.le_add_right _ _, by show b + k < b + n; omega⟩
theorem wl_set {δ : Dl} {b : Nat} {sh : Sh} {N : Nat} {μ μ' : Mm} {o : Nat} {e : va_E} (h : o < N) (he : ent δ b sh μ' o = e) (hn : ∀ j, j ≠ o → ent δ b sh μ' j = ent δ b sh μ j) : (wl δ b sh N μ).set o (b + o, e) = wl δ b sh N μ' := by
  apply List.ext_getElem?
  intro j
  rw [List.getElem?_set]
  by_cases hj : o = j
  · subst hj
    rw [if_pos rfl, if_pos (by unfold wl; rw [List.length_map, List.length_range]; exact h), wl_get h, he]
  · rw [if_neg hj]
    by_cases hl : j < N
    · rw [wl_get hl, wl_get hl, hn j (Ne.symm hj)]
    · unfold wl
      rw [List.getElem?_map, List.getElem?_map, List.getElem?_eq_none (by rw [List.length_range]; omega)]
      rfl
theorem ent_wI {δ : Dl} {b : Nat} {sh : Sh} {μ : Mm} {o k j : Nat} {v : Int32} (h : j ≠ o) : ent δ b sh (wI μ o k v) j = ent δ b sh μ j := by
  have e : (wI μ o k v).1 j = μ.1 j := funext fun k' => by simp [wI, h]
  have ef : ∀ (k' : Nat) (ty : FieldType), fval b (wI μ o k v) j k' ty = fval b μ j k' ty := fun k' ty => by
    cases ty <;> simp [fval, wI, h]
  unfold ent
  simp only [e, ef]
  rfl
theorem ent_wL {δ : Dl} {b : Nat} {sh : Sh} {μ : Mm} {o k j : Nat} {v : Int64} (h : j ≠ o) : ent δ b sh (wL μ o k v) j = ent δ b sh μ j := by
  have e : (wL μ o k v).2.1 j = μ.2.1 j := funext fun k' => by simp [wL, h]
  have ef : ∀ (k' : Nat) (ty : FieldType), fval b (wL μ o k v) j k' ty = fval b μ j k' ty := fun k' ty => by
    cases ty <;> simp [fval, wL, h]
  unfold ent
  simp only [e, ef]
  rfl
theorem ent_wR {δ : Dl} {b : Nat} {sh : Sh} {μ : Mm} {o k j : Nat} {v : Option Nat} (h : j ≠ o) : ent δ b sh (wR μ o k v) j = ent δ b sh μ j := by
  have e : (wR μ o k v).2.2 j = μ.2.2 j := funext fun k' => by simp [wR, h]
  have ef : ∀ (k' : Nat) (ty : FieldType), fval b (wR μ o k v) j k' ty = fval b μ j k' ty := fun k' ty => by
    cases ty <;> simp [fval, wR, h]
  unfold ent
  simp only [e, ef]
  rfl
theorem ent_w0 {δ : Dl} {b : Nat} {sh : Sh} {μ : Mm} {o j : Nat} (h : j ≠ o) : ent δ b sh (w0 μ o) j = ent δ b sh μ j := by
  have e1 : (w0 μ o).1 j = μ.1 j := funext fun k' => by simp [w0, h]
  have e2 : (w0 μ o).2.1 j = μ.2.1 j := funext fun k' => by simp [w0, h]
  have e3 : (w0 μ o).2.2 j = μ.2.2 j := funext fun k' => by simp [w0, h]
  have ef : ∀ (k' : Nat) (ty : FieldType), fval b (w0 μ o) j k' ty = fval b μ j k' ty := fun k' ty => by
    cases ty <;> simp [fval, w0, h]
  unfold ent
  simp only [e1, e2, e3, ef]
theorem map_range_set {α : Type} {n k : Nat} {f g : Nat → α} {v : α} (hk : k < n) (hv : g k = v) (h : ∀ j, j ≠ k → g j = f j) : ((List.range n).map f).set k v = (List.range n).map g := by
  apply List.ext_getElem?
  intro j
  rw [List.getElem?_set]
  by_cases hj : k = j
  · subst hj
    rw [if_pos rfl, if_pos (by rw [List.length_map, List.length_range]; exact hk), List.getElem?_map, List.getElem?_range hk, ← hv]
    rfl
  · rw [if_neg hj, List.getElem?_map, List.getElem?_map]
    by_cases hl : j < n
    · rw [List.getElem?_range hl]
      exact congrArg some (h j (Ne.symm hj)).symm
    · rw [List.getElem?_eq_none (by rw [List.length_range]; omega)]
      rfl
-- what stands at a place of the world
def OB (sh : Sh) (N o c : Nat) : Prop := o < N ∧ sh o = .inl c
def AR (sh : Sh) (N o t n : Nat) : Prop := o < N ∧ sh o = .inr (t, n)
theorem ob_get {δ : Dl} {b : Nat} {sh : Sh} {N : Nat} {μ : Mm} {o c : Nat} (h : OB sh N o c) : (wl δ b sh N μ)[o]? = some (b + o, .inr (c, (List.range (ncf c)).map (fun k => fval b μ o k (cft c k)))) := by
  rw [wl_get h.1]
  unfold ent
  rw [h.2]
theorem ar_getI {δ : Dl} {b : Nat} {sh : Sh} {N : Nat} {μ : Mm} {o n : Nat} (h : AR sh N o 0 n) : (wl δ b sh N μ)[o]? = some (b + o, .inl (δ.2.1 0, n, .inl (μ.1 o))) := by
  rw [wl_get h.1]
  unfold ent
  rw [h.2]
  rfl
theorem ar_getL {δ : Dl} {b : Nat} {sh : Sh} {N : Nat} {μ : Mm} {o n : Nat} (h : AR sh N o 1 n) : (wl δ b sh N μ)[o]? = some (b + o, .inl (δ.2.1 1, n, .inr (.inl (μ.2.1 o)))) := by
  rw [wl_get h.1]
  unfold ent
  rw [h.2]
  rfl
theorem ar_getR {δ : Dl} {b : Nat} {sh : Sh} {N : Nat} {μ : Mm} {o t n : Nat} (h : AR sh N o (t + 2) n) : (wl δ b sh N μ)[o]? = some (b + o, .inl (δ.2.1 (t + 2), n, .inr (.inr (.inr (.inr (fun j => (μ.2.2 o j).map (fun i => b + i))))))) := by
  rw [wl_get h.1]
  unfold ent
  rw [h.2]
  rfl
theorem ob_setI {δ : Dl} {b : Nat} {sh : Sh} {N : Nat} {μ : Mm} {o c k : Nat} {v : Int32} (h : OB sh N o c) (hk : k < ncf c) (ht : cft c k = .int ∨ cft c k = .boolean) : (wl δ b sh N μ).set o (b + o, .inr (c, ((List.range (ncf c)).map (fun k => fval b μ o k (cft c k))).set k (.int v))) = wl δ b sh N (wI μ o k v) := by
  refine wl_set h.1 ?_ (fun j hj => ent_wI hj)
  unfold ent
  rw [h.2]
  dsimp only
  rw [map_range_set hk (g := fun k' => fval b (wI μ o k v) o k' (cft c k'))]
  · rcases ht with ht | ht <;> simp [fval, ht, wI]
  · intro j hj
    cases cft c j <;> simp [fval, wI, hj]
theorem ob_setR {δ : Dl} {b : Nat} {sh : Sh} {N : Nat} {μ : Mm} {o c k : Nat} {v : Option Nat} (h : OB sh N o c) (hk : k < ncf c) (ht : ∀ (b : Nat) (μ : Mm) (o : Nat), fval b μ o k (cft c k) = va_rf ((μ.2.2 o k).map (fun j => b + j))) : (wl δ b sh N μ).set o (b + o, .inr (c, ((List.range (ncf c)).map (fun k => fval b μ o k (cft c k))).set k (va_rf (v.map (fun j => b + j))))) = wl δ b sh N (wR μ o k v) := by
  refine wl_set h.1 ?_ (fun j hj => ent_wR hj)
  unfold ent
  rw [h.2]
  dsimp only
  rw [map_range_set hk (g := fun k' => fval b (wR μ o k v) o k' (cft c k'))]
  · rw [ht]
    simp [wR]
  · intro j hj
    cases cft c j <;> simp [fval, wR, hj]
theorem ar_setI {δ : Dl} {b : Nat} {sh : Sh} {N : Nat} {μ : Mm} {o n k : Nat} {v : Int32} (h : AR sh N o 0 n) : (wl δ b sh N μ).set o (b + o, .inl (δ.2.1 0, n, .inl (upd (μ.1 o) k v))) = wl δ b sh N (wI μ o k v) := by
  refine wl_set h.1 ?_ (fun j hj => ent_wI hj)
  unfold ent
  rw [h.2]
  refine congrArg (fun f => Sum.inl (δ.2.1 0, n, Sum.inl f)) (funext fun j => ?_)
  simp [wI, upd]
theorem ar_setL {δ : Dl} {b : Nat} {sh : Sh} {N : Nat} {μ : Mm} {o n k : Nat} {v : Int64} (h : AR sh N o 1 n) : (wl δ b sh N μ).set o (b + o, .inl (δ.2.1 1, n, .inr (.inl (vp_updL (μ.2.1 o) k v)))) = wl δ b sh N (wL μ o k v) := by
  refine wl_set h.1 ?_ (fun j hj => ent_wL hj)
  unfold ent
  rw [h.2]
  refine congrArg (fun f => Sum.inl (δ.2.1 1, n, Sum.inr (Sum.inl f))) (funext fun j => ?_)
  simp [wL, vp_updL]
end
section
/-! locals by their places -/
def lp : Nat → List (Option Value) → List (Nat × Value)
  | _, [] => []
  | k, none :: t => lp (k + 1) t
  | k, some v :: t => (k, v) :: lp (k + 1) t
theorem lp_mem : ∀ (ls : List (Option Value)) (k i : Nat) (v : Value), (i, v) ∈ lp k ls ↔ ∃ j, i = k + j ∧ ls[j]? = some (some v)
  | [], k, i, v => by simp [lp]
  | none :: t, k, i, v => by
    rw [lp, lp_mem t (k + 1) i v]
    constructor
    · rintro ⟨j, rfl, h⟩
      exact ⟨j + 1, by omega, by simpa using h⟩
    · rintro ⟨j, rfl, h⟩
      cases j with
      | zero => simp at h
      | succ j => exact ⟨j, by omega, by simpa using h⟩
  | some w :: t, k, i, v => by
    rw [lp, List.mem_cons, lp_mem t (k + 1) i v]
    constructor
    · rintro (h | ⟨j, rfl, h⟩)
      · cases h
        exact ⟨0, by omega, by simp⟩
      · exact ⟨j + 1, by omega, by simpa using h⟩
    · rintro ⟨j, rfl, h⟩
      cases j with
      | zero => exact Or.inl (by simp at h; rw [h]; rfl)
      | succ j => exact Or.inr ⟨j, by omega, by simpa using h⟩
def lh (lsr : Array Slot) (nL : Nat) (ls : List (Option Value)) : Prop := lv_has lsr nL (lp 0 ls)
theorem lh_at {lsr : Array Slot} {nL : Nat} {ls : List (Option Value)} (h : lh lsr nL ls) {i : Nat} {v : Value} (hi : ls[i]? = some (some v)) : lsr[i]? = some (.val v) :=
  h.2.2 (i, v) ((lp_mem ls 0 i v).mpr ⟨i, by omega, hi⟩)
theorem lh_sub {lsr : Array Slot} {nL : Nat} {l : List (Nat × Value)} {ls : List (Option Value)} (h : lv_has lsr nL l) (hs : ∀ (i : Nat) (v : Value), ls[i]? = some (some v) → (i, v) ∈ l) : lh lsr nL ls :=
  ⟨h.1, h.2.1, fun q hq => by
    obtain ⟨j, hj, hv⟩ := (lp_mem ls 0 q.1 q.2).mp hq
    have e : q.1 = j := by omega
    exact h.2.2 q (hs q.1 q.2 (by rw [e]; exact hv))⟩
/-- forget what some places hold -/
theorem lh_weak {lsr : Array Slot} {nL : Nat} {ls ls' : List (Option Value)} (h : lh lsr nL ls) (hs : ∀ (i : Nat) (v : Value), ls'[i]? = some (some v) → ls[i]? = some (some v)) : lh lsr nL ls' :=
  lh_sub h fun i v hi => (lp_mem ls 0 i v).mpr ⟨i, by omega, hs i v hi⟩
/-- no long ends at place i -/
def okst (ls : List (Option Value)) : Nat → Bool
  | 0 => true
  | i + 1 => match ls[i]? with
    | some (some w) => w.category == 1
    | _ => true
theorem lh_set1 {lsr : Array Slot} {nL i : Nat} {v : Value} {ls : List (Option Value)} (hok : okst ls i = true) (h : lv_has lsr nL ((i, v) :: (lp 0 ls).filter (fun q => !(q.1 == i) && !(q.1 + 1 == i && q.2.category == 2)))) : lh lsr nL (ls.set i (some v)) := by
  refine lh_sub h fun j w hj => ?_
  by_cases e : i = j
  · subst e
    rw [List.getElem?_set] at hj
    simp only [if_true] at hj
    split at hj
    · cases hj
      exact List.mem_cons_self
    · cases hj
  · rw [List.getElem?_set_ne e] at hj
    refine List.mem_cons_of_mem _ (List.mem_filter.mpr ⟨(lp_mem ls 0 j w).mpr ⟨j, by omega, hj⟩, ?_⟩)
    have e' : ¬ j = i := fun z => e z.symm
    by_cases e2 : j + 1 = i
    · subst e2
      simp only [okst, hj] at hok
      have hw : w.category = 1 := by simpa using hok
      simp [hw]
    · simp [e', e2]
def la : List Value → List (Option Value)
  | [] => []
  | v :: r => if v.category = 2 then some v :: none :: la r else some v :: la r
theorem la_args : ∀ (vs : List Value) (k i n : Nat) (v : Value), (la vs ++ List.replicate n none)[i]? = some (some v) → (k + i, v) ∈ lv_args k vs
  | [], k, i, n, v, h => by
    simp only [la, List.nil_append] at h
    rw [List.getElem?_replicate] at h
    split at h <;> cases h
  | w :: r, k, i, n, v, h => by
    unfold la at h
    unfold lv_args
    split at h
    · rename_i hc
      rw [if_pos hc]
      match i, h with
      | 0, h => simp at h; rw [h]; exact List.mem_cons_self
      | 1, h => simp at h
      | j + 2, h =>
        have h2 : (la r ++ List.replicate n none)[j]? = some (some v) := by simpa using h
        have := la_args r (k + 2) j n v h2
        rw [show k + (j + 2) = k + 2 + j by omega]
        exact List.mem_cons_of_mem _ this
    · rename_i hc
      rw [if_neg hc]
      match i, h with
      | 0, h => simp at h; rw [h]; exact List.mem_cons_self
      | j + 1, h =>
        have h2 : (la r ++ List.replicate n none)[j]? = some (some v) := by simpa using h
        have := la_args r (k + 1) j n v h2
        rw [show k + (j + 1) = k + 1 + j by omega]
        exact List.mem_cons_of_mem _ this
/-! what the tables say beside TT: links in a nest, casts, String constants -/
def NW : List Cond := lw_tbl.filter (fun w => match w with
  | .methodLinkNest _ _ _ _ => true
  | .castable _ _ => true
  | _ => false)
def kinds7 : List String := [RX4, RX2, RX5, RX1, RX7, RX8, RX0]
def NC : List (String × String) := (kinds7.flatMap fun C => kinds7.map fun D => (C, D)).filter (fun q => !(q.1 == q.2) && !(q.2 == RX4) && !(q.1 == RX1 && q.2 == RX2) && !(q.1 == RX0 && q.2 == RX5) && !(q.1 == RX8 && q.2 == RX5))
def skey : List (String × Nat × String × List Int32) := [(RX6, 74, "house", [104, 111, 117, 115, 101]), (RX6, 76, "coat", [99, 111, 97, 116]), (RX6, 78, "hides", [104, 105, 100, 101, 115]), (RX6, 79, "costs", [99, 111, 115, 116, 115]), (RX6, 80, "hail", [104, 97, 105, 108]), (RX6, 82, "scratch", [115, 99, 114, 97, 116, 99, 104]), (RX12, 181, "cratch", [99, 114, 97, 116, 99, 104]), (RX12, 197, "ts", [116, 115]), (RX12, 199, "at", [97, 116]), (RX12, 200, "des", [100, 101, 115]), (RX12, 202, "il", [105, 108]), (RX12, 207, "ouse", [111, 117, 115, 101])]
def sbyt : List (List Int32) := skey.map fun q => q.2.2.2
def KX (δ : Dl) (U : State) : Prop := va_K δ.1 vwCl (tys δ) U ∧ (∀ w ∈ NW, va_Nw w U) ∧ (∀ q ∈ NC, va_Nc q.1 q.2 U) ∧ ∀ (i : Nat) (q : String × Nat × String × List Int32), skey[i]? = some q → vk_R q.1 q.2.1 q.2.2.1 (δ.2.2.1 i) U
def KS (δ : Dl) (A : Nat → Prop) (U : State) (H : Heap) : Prop := vk_S 12 (sbyt.map List.length) sbyt δ.2.2.1 δ.2.2.2 A U H
theorem KX.warm {δ : Dl} {s U : State} (hW : s.WarmedH U.vm) (h : KX δ s) : KX δ U := by
  refine ⟨va_K.moved hW.alike h.1, fun w hw => ?_, fun q hq => va_Nc.moved hW.alike (h.2.2.1 q hq), fun i q hq => vk_R.warm hW (h.2.2.2 i q hq)⟩
  have h1 := h.2.1 w hw
  have h2 := (List.mem_filter.mp hw).2
  cases w with
  | methodLinkNest a i x hh => exact va_Nw.warmM hW h1
  | castable a c => exact va_Nw.warmC hW h1
  | _ => cases h2
theorem KX.same {δ : Dl} {u U : State} (hv : u.vm = U.vm) (h : KX δ u) : KX δ U := by
  refine ⟨va_K.moved (by rw [hv]; exact Vm.Alike.refl _) h.1, fun w hw => ?_, fun q hq => va_Nc.moved (by rw [hv]; exact Vm.Alike.refl _) (h.2.2.1 q hq), fun i q hq => vk_R.same hv.symm (h.2.2.2 i q hq)⟩
  have h1 := h.2.1 w hw
  have h2 := (List.mem_filter.mp hw).2
  cases w with
  | methodLinkNest a i x hh => exact va_Nw.same rfl hv h1
  | castable a c => exact va_Nw.same rfl hv h1
  | _ => cases h2
end
section
/-! the judgement: from the frame at pc with these locals and this stack, over a heap that holds this memory, the method comes to its end as it should -/
abbrev Kt : Type := Program × Launch × Env × Room × State × MethodId × Array Value × List Frame × Method × Code
abbrev Wt : Type := Dl × Nat × Nat × Nat × Sh × Prop × (Array Value → State → Outcome → State → Prop) × Nat × Nat
def AW (κ : Kt) (K : Wt) (N cells slots pc : Nat) (ls : List (Option Value)) (st : List Value) (μ : Mm) : Prop :=
  match κ, K with
  | (p, l, e, R, s, m, args, below, meth, c), (δ, b, n, nL, sh, tp, Qc, mc, ms) =>
    ∀ (H : Heap) (locs : List Loc) (lsr : Array Slot), va_P δ.1 vwCl (wl δ b sh N μ) H → (tp → H.size = b + N) → va_S (RG b n) s.heap H locs → lh lsr nL ls →
      W p l e R s m args below meth c H locs cells slots (MQ below Qc args s mc ms (RG b n)) (F0 m pc lsr st)
def rmD (d mc ms : Nat) : Room := { frames := d, cells := mc, slots := ms, locals := 64 * d }
/-- what holds all through a method of class own, named nm, whose bytes are cc -/
def CX (κ : Kt) (K : Wt) (own nm : String) (cc : ByteArray) (ret : Option FieldType) (d : Nat) : Prop :=
  match κ, K with
  | (p, l, e, R, s, m, args, below, meth, c), (δ, b, n, nL, sh, tp, Qc, mc, ms) =>
    p.tables.exec = Jvm.exec ∧ c.code = cc ∧ c.maxLocals = nL ∧ s.vm.findClass own = some m.cls ∧ (∀ w ∈ TT, w.before args s = true) ∧ meth.locks = false ∧ meth.sig.returnType = ret ∧ meth.name = nm ∧ KX δ s ∧ KS δ (RG b n) s s.heap ∧ R = rmD d mc ms
def MQc (δ : Dl) (b n : Nat) (sh : Sh) (N : Nat) (tp : Prop) (post : Option Value → Mm → Prop) : Array Value → State → Outcome → State → Prop := fun _ st oc t =>
  (∃ (v : Option Value) (μ : Mm), oc = .returned v ∧ post v μ ∧ va_P δ.1 vwCl (wl δ b sh N μ) t.heap ∧ (tp → t.heap.size = b + N)) ∧ va_F (RG b n) st t
/-- a method's contract: from the world of N places and memory μ to one of N', with post -/
def MC (l : Launch) (δ : Dl) (b n : Nat) (sh : Sh) (tp : Prop) (y : MethodName) (bytes : ByteArray) (maxL : Nat) (ret : Option FieldType) (d mc ms N N' : Nat) (av : List Value) (μ : Mm) (post : Option Value → Mm → Prop) : Prop :=
  Met l y (Cond.code y bytes maxL ret :: TT) (rmD d mc ms) (va_Pc av (fun U => va_P δ.1 vwCl (wl δ b sh N μ) U.heap ∧ (tp → U.heap.size = b + N) ∧ KX δ U ∧ KS δ (RG b n) U U.heap)) (MQc δ b n sh N' tp post) mc ms (RG b n)
section ROWS
variable {κ : Kt} {δ : Dl} {b n nL : Nat} {sh : Sh} {tp : Prop} {Qc : Array Value → State → Outcome → State → Prop} {mc ms d : Nat} {own nm : String} {cc : ByteArray} {ret : Option FieldType} {N cells slots pc : Nat} {ls : List (Option Value)} {st : List Value} {μ : Mm}
theorem AW.iconst (X : CX κ (δ, b, n, nL, sh, tp, Qc, mc, ms) own nm cc ret d) {i : Int} {v : Int32} (hd : decode cc pc = .ok (.iconst i, 1)) (hv : Int32.ofInt i = v) (k : AW κ (δ, b, n, nL, sh, tp, Qc, mc, ms) N cells slots (pc + 1) ls (.int v :: st) μ) : AW κ (δ, b, n, nL, sh, tp, Qc, mc, ms) N cells slots pc ls st μ := by
  obtain ⟨p, l, e, R, s, m, args, below, meth, c⟩ := κ
  intro H locs lsr hP hT hS h
  exact lv_iconst X.1 X.2.1 hd hv (k H locs lsr hP hT hS h)
theorem AW.bipush (X : CX κ (δ, b, n, nL, sh, tp, Qc, mc, ms) own nm cc ret d) {i : Int} {v : Int32} (hd : decode cc pc = .ok (.bipush i, 2)) (hv : (Int8.ofInt i).toInt32 = v) (k : AW κ (δ, b, n, nL, sh, tp, Qc, mc, ms) N cells slots (pc + 2) ls (.int v :: st) μ) : AW κ (δ, b, n, nL, sh, tp, Qc, mc, ms) N cells slots pc ls st μ := by
  obtain ⟨p, l, e, R, s, m, args, below, meth, c⟩ := κ
  intro H locs lsr hP hT hS h
  exact lv_bipush X.1 X.2.1 hd hv (k H locs lsr hP hT hS h)
theorem AW.sipush (X : CX κ (δ, b, n, nL, sh, tp, Qc, mc, ms) own nm cc ret d) {i : Int} {v : Int32} (hd : decode cc pc = .ok (.sipush i, 3)) (hv : (Int16.ofInt i).toInt32 = v) (k : AW κ (δ, b, n, nL, sh, tp, Qc, mc, ms) N cells slots (pc + 3) ls (.int v :: st) μ) : AW κ (δ, b, n, nL, sh, tp, Qc, mc, ms) N cells slots pc ls st μ := by
  obtain ⟨p, l, e, R, s, m, args, below, meth, c⟩ := κ
  intro H locs lsr hP hT hS h
  exact lv_sipush X.1 X.2.1 hd hv (k H locs lsr hP hT hS h)
theorem AW.lconst (X : CX κ (δ, b, n, nL, sh, tp, Qc, mc, ms) own nm cc ret d) {i : Fin 2} {v : Int64} (hd : decode cc pc = .ok (.lconst i, 1)) (hv : Int64.ofNat (i : Nat) = v) (k : AW κ (δ, b, n, nL, sh, tp, Qc, mc, ms) N cells slots (pc + 1) ls (.long v :: st) μ) : AW κ (δ, b, n, nL, sh, tp, Qc, mc, ms) N cells slots pc ls st μ := by
  obtain ⟨p, l, e, R, s, m, args, below, meth, c⟩ := κ
  intro H locs lsr hP hT hS h
  exact lv_lconst X.1 X.2.1 hd hv (k H locs lsr hP hT hS h)
theorem AW.iadd (X : CX κ (δ, b, n, nL, sh, tp, Qc, mc, ms) own nm cc ret d) {x z : Int32} (hd : decode cc pc = .ok (.iadd, 1)) (k : AW κ (δ, b, n, nL, sh, tp, Qc, mc, ms) N cells slots (pc + 1) ls (.int (x + z) :: st) μ) : AW κ (δ, b, n, nL, sh, tp, Qc, mc, ms) N cells slots pc ls (.int z :: .int x :: st) μ := by
  obtain ⟨p, l, e, R, s, m, args, below, meth, c⟩ := κ
  intro H locs lsr hP hT hS h
  exact lv_iadd X.1 X.2.1 hd (k H locs lsr hP hT hS h)
theorem AW.isub (X : CX κ (δ, b, n, nL, sh, tp, Qc, mc, ms) own nm cc ret d) {x z : Int32} (hd : decode cc pc = .ok (.isub, 1)) (k : AW κ (δ, b, n, nL, sh, tp, Qc, mc, ms) N cells slots (pc + 1) ls (.int (x - z) :: st) μ) : AW κ (δ, b, n, nL, sh, tp, Qc, mc, ms) N cells slots pc ls (.int z :: .int x :: st) μ := by
  obtain ⟨p, l, e, R, s, m, args, below, meth, c⟩ := κ
  intro H locs lsr hP hT hS h
  exact lv_isub X.1 X.2.1 hd (k H locs lsr hP hT hS h)
theorem AW.imul (X : CX κ (δ, b, n, nL, sh, tp, Qc, mc, ms) own nm cc ret d) {x z : Int32} (hd : decode cc pc = .ok (.imul, 1)) (k : AW κ (δ, b, n, nL, sh, tp, Qc, mc, ms) N cells slots (pc + 1) ls (.int (x * z) :: st) μ) : AW κ (δ, b, n, nL, sh, tp, Qc, mc, ms) N cells slots pc ls (.int z :: .int x :: st) μ := by
  obtain ⟨p, l, e, R, s, m, args, below, meth, c⟩ := κ
  intro H locs lsr hP hT hS h
  exact lv_imul X.1 X.2.1 hd (k H locs lsr hP hT hS h)
theorem AW.iand (X : CX κ (δ, b, n, nL, sh, tp, Qc, mc, ms) own nm cc ret d) {x z : Int32} (hd : decode cc pc = .ok (.iand, 1)) (k : AW κ (δ, b, n, nL, sh, tp, Qc, mc, ms) N cells slots (pc + 1) ls (.int (x &&& z) :: st) μ) : AW κ (δ, b, n, nL, sh, tp, Qc, mc, ms) N cells slots pc ls (.int z :: .int x :: st) μ := by
  obtain ⟨p, l, e, R, s, m, args, below, meth, c⟩ := κ
  intro H locs lsr hP hT hS h
  exact lv_iand X.1 X.2.1 hd (k H locs lsr hP hT hS h)
theorem AW.ior (X : CX κ (δ, b, n, nL, sh, tp, Qc, mc, ms) own nm cc ret d) {x z : Int32} (hd : decode cc pc = .ok (.ior, 1)) (k : AW κ (δ, b, n, nL, sh, tp, Qc, mc, ms) N cells slots (pc + 1) ls (.int (x ||| z) :: st) μ) : AW κ (δ, b, n, nL, sh, tp, Qc, mc, ms) N cells slots pc ls (.int z :: .int x :: st) μ := by
  obtain ⟨p, l, e, R, s, m, args, below, meth, c⟩ := κ
  intro H locs lsr hP hT hS h
  exact lv_ior X.1 X.2.1 hd (k H locs lsr hP hT hS h)
theorem AW.ixor (X : CX κ (δ, b, n, nL, sh, tp, Qc, mc, ms) own nm cc ret d) {x z : Int32} (hd : decode cc pc = .ok (.ixor, 1)) (k : AW κ (δ, b, n, nL, sh, tp, Qc, mc, ms) N cells slots (pc + 1) ls (.int (x ^^^ z) :: st) μ) : AW κ (δ, b, n, nL, sh, tp, Qc, mc, ms) N cells slots pc ls (.int z :: .int x :: st) μ := by
  obtain ⟨p, l, e, R, s, m, args, below, meth, c⟩ := κ
  intro H locs lsr hP hT hS h
  exact lv_ixor X.1 X.2.1 hd (k H locs lsr hP hT hS h)
theorem AW.ishl (X : CX κ (δ, b, n, nL, sh, tp, Qc, mc, ms) own nm cc ret d) {x z : Int32} (hd : decode cc pc = .ok (.ishl, 1)) (k : AW κ (δ, b, n, nL, sh, tp, Qc, mc, ms) N cells slots (pc + 1) ls (.int (x <<< (z &&& 31)) :: st) μ) : AW κ (δ, b, n, nL, sh, tp, Qc, mc, ms) N cells slots pc ls (.int z :: .int x :: st) μ := by
  obtain ⟨p, l, e, R, s, m, args, below, meth, c⟩ := κ
  intro H locs lsr hP hT hS h
  exact lv_ishl X.1 X.2.1 hd (k H locs lsr hP hT hS h)
theorem AW.ishr (X : CX κ (δ, b, n, nL, sh, tp, Qc, mc, ms) own nm cc ret d) {x z : Int32} (hd : decode cc pc = .ok (.ishr, 1)) (k : AW κ (δ, b, n, nL, sh, tp, Qc, mc, ms) N cells slots (pc + 1) ls (.int (x >>> (z &&& 31)) :: st) μ) : AW κ (δ, b, n, nL, sh, tp, Qc, mc, ms) N cells slots pc ls (.int z :: .int x :: st) μ := by
  obtain ⟨p, l, e, R, s, m, args, below, meth, c⟩ := κ
  intro H locs lsr hP hT hS h
  exact lv_ishr X.1 X.2.1 hd (k H locs lsr hP hT hS h)
theorem AW.idiv (X : CX κ (δ, b, n, nL, sh, tp, Qc, mc, ms) own nm cc ret d) {x z : Int32} (hd : decode cc pc = .ok (.idiv, 1)) (hne : ¬ z = 0) (k : AW κ (δ, b, n, nL, sh, tp, Qc, mc, ms) N cells slots (pc + 1) ls (.int (x / z) :: st) μ) : AW κ (δ, b, n, nL, sh, tp, Qc, mc, ms) N cells slots pc ls (.int z :: .int x :: st) μ := by
  obtain ⟨p, l, e, R, s, m, args, below, meth, c⟩ := κ
  intro H locs lsr hP hT hS h
  exact lv_idiv X.1 X.2.1 hd hne (k H locs lsr hP hT hS h)
theorem AW.irem (X : CX κ (δ, b, n, nL, sh, tp, Qc, mc, ms) own nm cc ret d) {x z : Int32} (hd : decode cc pc = .ok (.irem, 1)) (hne : ¬ z = 0) (k : AW κ (δ, b, n, nL, sh, tp, Qc, mc, ms) N cells slots (pc + 1) ls (.int (x - x / z * z) :: st) μ) : AW κ (δ, b, n, nL, sh, tp, Qc, mc, ms) N cells slots pc ls (.int z :: .int x :: st) μ := by
  obtain ⟨p, l, e, R, s, m, args, below, meth, c⟩ := κ
  intro H locs lsr hP hT hS h
  exact lv_irem X.1 X.2.1 hd hne (k H locs lsr hP hT hS h)
theorem AW.ineg (X : CX κ (δ, b, n, nL, sh, tp, Qc, mc, ms) own nm cc ret d) {x : Int32} (hd : decode cc pc = .ok (.ineg, 1)) (k : AW κ (δ, b, n, nL, sh, tp, Qc, mc, ms) N cells slots (pc + 1) ls (.int (-x) :: st) μ) : AW κ (δ, b, n, nL, sh, tp, Qc, mc, ms) N cells slots pc ls (.int x :: st) μ := by
  obtain ⟨p, l, e, R, s, m, args, below, meth, c⟩ := κ
  intro H locs lsr hP hT hS h
  exact lv_ineg X.1 X.2.1 hd (k H locs lsr hP hT hS h)
theorem AW.ladd (X : CX κ (δ, b, n, nL, sh, tp, Qc, mc, ms) own nm cc ret d) {x z : Int64} (hd : decode cc pc = .ok (.ladd, 1)) (k : AW κ (δ, b, n, nL, sh, tp, Qc, mc, ms) N cells slots (pc + 1) ls (.long (x + z) :: st) μ) : AW κ (δ, b, n, nL, sh, tp, Qc, mc, ms) N cells slots pc ls (.long z :: .long x :: st) μ := by
  obtain ⟨p, l, e, R, s, m, args, below, meth, c⟩ := κ
  intro H locs lsr hP hT hS h
  exact lv_ladd X.1 X.2.1 hd (k H locs lsr hP hT hS h)
theorem AW.land (X : CX κ (δ, b, n, nL, sh, tp, Qc, mc, ms) own nm cc ret d) {x z : Int64} (hd : decode cc pc = .ok (.land, 1)) (k : AW κ (δ, b, n, nL, sh, tp, Qc, mc, ms) N cells slots (pc + 1) ls (.long (x &&& z) :: st) μ) : AW κ (δ, b, n, nL, sh, tp, Qc, mc, ms) N cells slots pc ls (.long z :: .long x :: st) μ := by
  obtain ⟨p, l, e, R, s, m, args, below, meth, c⟩ := κ
  intro H locs lsr hP hT hS h
  exact lv_land X.1 X.2.1 hd (k H locs lsr hP hT hS h)
theorem AW.lor (X : CX κ (δ, b, n, nL, sh, tp, Qc, mc, ms) own nm cc ret d) {x z : Int64} (hd : decode cc pc = .ok (.lor, 1)) (k : AW κ (δ, b, n, nL, sh, tp, Qc, mc, ms) N cells slots (pc + 1) ls (.long (x ||| z) :: st) μ) : AW κ (δ, b, n, nL, sh, tp, Qc, mc, ms) N cells slots pc ls (.long z :: .long x :: st) μ := by
  obtain ⟨p, l, e, R, s, m, args, below, meth, c⟩ := κ
  intro H locs lsr hP hT hS h
  exact lv_lor X.1 X.2.1 hd (k H locs lsr hP hT hS h)
theorem AW.i2l (X : CX κ (δ, b, n, nL, sh, tp, Qc, mc, ms) own nm cc ret d) {x : Int32} (hd : decode cc pc = .ok (.i2l, 1)) (k : AW κ (δ, b, n, nL, sh, tp, Qc, mc, ms) N cells slots (pc + 1) ls (.long x.toInt64 :: st) μ) : AW κ (δ, b, n, nL, sh, tp, Qc, mc, ms) N cells slots pc ls (.int x :: st) μ := by
  obtain ⟨p, l, e, R, s, m, args, below, meth, c⟩ := κ
  intro H locs lsr hP hT hS h
  exact lv_i2l X.1 X.2.1 hd rfl (k H locs lsr hP hT hS h)
theorem AW.l2i (X : CX κ (δ, b, n, nL, sh, tp, Qc, mc, ms) own nm cc ret d) {x : Int64} (hd : decode cc pc = .ok (.l2i, 1)) (k : AW κ (δ, b, n, nL, sh, tp, Qc, mc, ms) N cells slots (pc + 1) ls (.int x.toInt32 :: st) μ) : AW κ (δ, b, n, nL, sh, tp, Qc, mc, ms) N cells slots pc ls (.long x :: st) μ := by
  obtain ⟨p, l, e, R, s, m, args, below, meth, c⟩ := κ
  intro H locs lsr hP hT hS h
  exact lv_l2i X.1 X.2.1 hd rfl (k H locs lsr hP hT hS h)
theorem AW.i2b (X : CX κ (δ, b, n, nL, sh, tp, Qc, mc, ms) own nm cc ret d) {x : Int32} (hd : decode cc pc = .ok (.i2b, 1)) (k : AW κ (δ, b, n, nL, sh, tp, Qc, mc, ms) N cells slots (pc + 1) ls (.int x.toInt8.toInt32 :: st) μ) : AW κ (δ, b, n, nL, sh, tp, Qc, mc, ms) N cells slots pc ls (.int x :: st) μ := by
  obtain ⟨p, l, e, R, s, m, args, below, meth, c⟩ := κ
  intro H locs lsr hP hT hS h
  exact lv_i2b X.1 X.2.1 hd rfl (k H locs lsr hP hT hS h)
theorem AW.i2s (X : CX κ (δ, b, n, nL, sh, tp, Qc, mc, ms) own nm cc ret d) {x : Int32} (hd : decode cc pc = .ok (.i2s, 1)) (k : AW κ (δ, b, n, nL, sh, tp, Qc, mc, ms) N cells slots (pc + 1) ls (.int x.toInt16.toInt32 :: st) μ) : AW κ (δ, b, n, nL, sh, tp, Qc, mc, ms) N cells slots pc ls (.int x :: st) μ := by
  obtain ⟨p, l, e, R, s, m, args, below, meth, c⟩ := κ
  intro H locs lsr hP hT hS h
  exact lv_i2s X.1 X.2.1 hd rfl (k H locs lsr hP hT hS h)
theorem AW.iushr (X : CX κ (δ, b, n, nL, sh, tp, Qc, mc, ms) own nm cc ret d) {x z : Int32} (hd : decode cc pc = .ok (.iushr, 1)) (k : AW κ (δ, b, n, nL, sh, tp, Qc, mc, ms) N cells slots (pc + 1) ls (.int (x.toUInt32 >>> (z.toUInt32 &&& Int32.toUInt32 31)).toInt32 :: st) μ) : AW κ (δ, b, n, nL, sh, tp, Qc, mc, ms) N cells slots pc ls (.int z :: .int x :: st) μ := by
  obtain ⟨p, l, e, R, s, m, args, below, meth, c⟩ := κ
  intro H locs lsr hP hT hS h
  exact lv_iushr X.1 X.2.1 hd rfl (k H locs lsr hP hT hS h)
theorem AW.lshl (X : CX κ (δ, b, n, nL, sh, tp, Qc, mc, ms) own nm cc ret d) {x : Int64} {z : Int32} (hd : decode cc pc = .ok (.lshl, 1)) (k : AW κ (δ, b, n, nL, sh, tp, Qc, mc, ms) N cells slots (pc + 1) ls (.long (x <<< (z.toInt64 &&& 63)) :: st) μ) : AW κ (δ, b, n, nL, sh, tp, Qc, mc, ms) N cells slots pc ls (.int z :: .long x :: st) μ := by
  obtain ⟨p, l, e, R, s, m, args, below, meth, c⟩ := κ
  intro H locs lsr hP hT hS h
  exact lv_lshl X.1 X.2.1 hd rfl (k H locs lsr hP hT hS h)
theorem AW.lcmp (X : CX κ (δ, b, n, nL, sh, tp, Qc, mc, ms) own nm cc ret d) {x z : Int64} (hd : decode cc pc = .ok (.lcmp, 1)) (k : AW κ (δ, b, n, nL, sh, tp, Qc, mc, ms) N cells slots (pc + 1) ls (.int (lg_cmp x z) :: st) μ) : AW κ (δ, b, n, nL, sh, tp, Qc, mc, ms) N cells slots pc ls (.long z :: .long x :: st) μ := by
  obtain ⟨p, l, e, R, s, m, args, below, meth, c⟩ := κ
  intro H locs lsr hP hT hS h
  exact W.lcmp X.1 X.2.1 hd (k H locs lsr hP hT hS h)
theorem AW.dup (X : CX κ (δ, b, n, nL, sh, tp, Qc, mc, ms) own nm cc ret d) {v : Value} (hd : decode cc pc = .ok (.dup, 1)) (hv : v.category = 1) (k : AW κ (δ, b, n, nL, sh, tp, Qc, mc, ms) N cells slots (pc + 1) ls (v :: v :: st) μ) : AW κ (δ, b, n, nL, sh, tp, Qc, mc, ms) N cells slots pc ls (v :: st) μ := by
  obtain ⟨p, l, e, R, s, m, args, below, meth, c⟩ := κ
  intro H locs lsr hP hT hS h
  exact lv_dup X.1 X.2.1 hd hv (k H locs lsr hP hT hS h)
theorem AW.pop (X : CX κ (δ, b, n, nL, sh, tp, Qc, mc, ms) own nm cc ret d) {v : Value} (hd : decode cc pc = .ok (.pop, 1)) (hv : v.category = 1) (k : AW κ (δ, b, n, nL, sh, tp, Qc, mc, ms) N cells slots (pc + 1) ls st μ) : AW κ (δ, b, n, nL, sh, tp, Qc, mc, ms) N cells slots pc ls (v :: st) μ := by
  obtain ⟨p, l, e, R, s, m, args, below, meth, c⟩ := κ
  intro H locs lsr hP hT hS h
  exact lv_pop X.1 X.2.1 hd hv (k H locs lsr hP hT hS h)
theorem AW.dup_x1 (X : CX κ (δ, b, n, nL, sh, tp, Qc, mc, ms) own nm cc ret d) {v w : Value} (hd : decode cc pc = .ok (.dup_x1, 1)) (hv : v.category = 1) (hw : w.category = 1) (k : AW κ (δ, b, n, nL, sh, tp, Qc, mc, ms) N cells slots (pc + 1) ls (v :: w :: v :: st) μ) : AW κ (δ, b, n, nL, sh, tp, Qc, mc, ms) N cells slots pc ls (v :: w :: st) μ := by
  obtain ⟨p, l, e, R, s, m, args, below, meth, c⟩ := κ
  intro H locs lsr hP hT hS h
  exact lv_dup_x1 X.1 X.2.1 hd hv hw (k H locs lsr hP hT hS h)
theorem AW.dup_x2 (X : CX κ (δ, b, n, nL, sh, tp, Qc, mc, ms) own nm cc ret d) {v w u : Value} (hd : decode cc pc = .ok (.dup_x2, 1)) (hv : v.category = 1) (hw : w.category = 1) (hu : u.category = 1) (k : AW κ (δ, b, n, nL, sh, tp, Qc, mc, ms) N cells slots (pc + 1) ls (v :: w :: u :: v :: st) μ) : AW κ (δ, b, n, nL, sh, tp, Qc, mc, ms) N cells slots pc ls (v :: w :: u :: st) μ := by
  obtain ⟨p, l, e, R, s, m, args, below, meth, c⟩ := κ
  intro H locs lsr hP hT hS h
  exact lv_dup_x2 X.1 X.2.1 hd hv hw hu (k H locs lsr hP hT hS h)
theorem AW.dup2 (X : CX κ (δ, b, n, nL, sh, tp, Qc, mc, ms) own nm cc ret d) {v w : Value} (hd : decode cc pc = .ok (.dup2, 1)) (hv : v.category = 1) (hw : w.category = 1) (k : AW κ (δ, b, n, nL, sh, tp, Qc, mc, ms) N cells slots (pc + 1) ls (v :: w :: v :: w :: st) μ) : AW κ (δ, b, n, nL, sh, tp, Qc, mc, ms) N cells slots pc ls (v :: w :: st) μ := by
  obtain ⟨p, l, e, R, s, m, args, below, meth, c⟩ := κ
  intro H locs lsr hP hT hS h
  exact lv_dup2_11 X.1 X.2.1 hd hv hw (k H locs lsr hP hT hS h)
theorem AW.iload_n (X : CX κ (δ, b, n, nL, sh, tp, Qc, mc, ms) own nm cc ret d) {k0 : Fin 4} {x : Int32} (hd : decode cc pc = .ok (.iload_n k0, 1)) {i : Nat} (hi : (k0 : Nat) = i) (hl : ls[i]? = some (some (.int x))) (k : AW κ (δ, b, n, nL, sh, tp, Qc, mc, ms) N cells slots (pc + 1) ls (.int x :: st) μ) : AW κ (δ, b, n, nL, sh, tp, Qc, mc, ms) N cells slots pc ls st μ := by
  obtain ⟨p, l, e, R, s, m, args, below, meth, c⟩ := κ
  intro H locs lsr hP hT hS h
  exact lv_iload_n X.1 X.2.1 hd hi (lh_at h hl) (k H locs lsr hP hT hS h)
theorem AW.iload (X : CX κ (δ, b, n, nL, sh, tp, Qc, mc, ms) own nm cc ret d) {k0 : Nat} {x : Int32} (hd : decode cc pc = .ok (.iload k0, 2)) (hl : ls[k0]? = some (some (.int x))) (k : AW κ (δ, b, n, nL, sh, tp, Qc, mc, ms) N cells slots (pc + 2) ls (.int x :: st) μ) : AW κ (δ, b, n, nL, sh, tp, Qc, mc, ms) N cells slots pc ls st μ := by
  obtain ⟨p, l, e, R, s, m, args, below, meth, c⟩ := κ
  intro H locs lsr hP hT hS h
  exact lv_iload X.1 X.2.1 hd (lh_at h hl) (k H locs lsr hP hT hS h)
theorem AW.lload_n (X : CX κ (δ, b, n, nL, sh, tp, Qc, mc, ms) own nm cc ret d) {k0 : Fin 4} {x : Int64} (hd : decode cc pc = .ok (.lload_n k0, 1)) {i : Nat} (hi : (k0 : Nat) = i) (hl : ls[i]? = some (some (.long x))) (k : AW κ (δ, b, n, nL, sh, tp, Qc, mc, ms) N cells slots (pc + 1) ls (.long x :: st) μ) : AW κ (δ, b, n, nL, sh, tp, Qc, mc, ms) N cells slots pc ls st μ := by
  obtain ⟨p, l, e, R, s, m, args, below, meth, c⟩ := κ
  intro H locs lsr hP hT hS h
  exact lv_lload_n X.1 X.2.1 hd hi (lh_at h hl) (k H locs lsr hP hT hS h)
theorem AW.lload (X : CX κ (δ, b, n, nL, sh, tp, Qc, mc, ms) own nm cc ret d) {k0 : Nat} {x : Int64} (hd : decode cc pc = .ok (.lload k0, 2)) (hl : ls[k0]? = some (some (.long x))) (k : AW κ (δ, b, n, nL, sh, tp, Qc, mc, ms) N cells slots (pc + 2) ls (.long x :: st) μ) : AW κ (δ, b, n, nL, sh, tp, Qc, mc, ms) N cells slots pc ls st μ := by
  obtain ⟨p, l, e, R, s, m, args, below, meth, c⟩ := κ
  intro H locs lsr hP hT hS h
  exact lv_lload X.1 X.2.1 hd (lh_at h hl) (k H locs lsr hP hT hS h)
theorem AW.aload_n (X : CX κ (δ, b, n, nL, sh, tp, Qc, mc, ms) own nm cc ret d) {k0 : Fin 4} {x : Nat} (hd : decode cc pc = .ok (.aload_n k0, 1)) {i : Nat} (hi : (k0 : Nat) = i) (hl : ls[i]? = some (some (.ref x))) (k : AW κ (δ, b, n, nL, sh, tp, Qc, mc, ms) N cells slots (pc + 1) ls (.ref x :: st) μ) : AW κ (δ, b, n, nL, sh, tp, Qc, mc, ms) N cells slots pc ls st μ := by
  obtain ⟨p, l, e, R, s, m, args, below, meth, c⟩ := κ
  intro H locs lsr hP hT hS h
  exact lv_aload_n X.1 X.2.1 hd hi (lh_at h hl) (k H locs lsr hP hT hS h)
theorem AW.aload (X : CX κ (δ, b, n, nL, sh, tp, Qc, mc, ms) own nm cc ret d) {k0 : Nat} {x : Nat} (hd : decode cc pc = .ok (.aload k0, 2)) (hl : ls[k0]? = some (some (.ref x))) (k : AW κ (δ, b, n, nL, sh, tp, Qc, mc, ms) N cells slots (pc + 2) ls (.ref x :: st) μ) : AW κ (δ, b, n, nL, sh, tp, Qc, mc, ms) N cells slots pc ls st μ := by
  obtain ⟨p, l, e, R, s, m, args, below, meth, c⟩ := κ
  intro H locs lsr hP hT hS h
  exact lv_aload X.1 X.2.1 hd (lh_at h hl) (k H locs lsr hP hT hS h)
theorem AW.istore_n (X : CX κ (δ, b, n, nL, sh, tp, Qc, mc, ms) own nm cc ret d) {k0 : Fin 4} {i : Nat} {x : Int32} (hd : decode cc pc = .ok (.istore_n k0, 1)) (hi : (k0 : Nat) = i) (hl : (decide (i < nL) && okst ls i) = true) (k : AW κ (δ, b, n, nL, sh, tp, Qc, mc, ms) N cells slots (pc + 1) (ls.set i (some (.int x))) st μ) : AW κ (δ, b, n, nL, sh, tp, Qc, mc, ms) N cells slots pc ls (.int x :: st) μ := by
  obtain ⟨p, l, e, R, s, m, args, below, meth, c⟩ := κ
  intro H locs lsr hP hT hS h
  simp only [Bool.and_eq_true, decide_eq_true_eq] at hl
  exact lv_istore_n X.1 X.2.1 hd hi h hl.1 rfl (fun ls2 h2 => k H locs ls2 hP hT hS (lh_set1 hl.2 h2))
theorem AW.istore (X : CX κ (δ, b, n, nL, sh, tp, Qc, mc, ms) own nm cc ret d) {k0 : Nat} {x : Int32} (hd : decode cc pc = .ok (.istore k0, 2)) (hl : (decide (k0 < nL) && okst ls k0) = true) (k : AW κ (δ, b, n, nL, sh, tp, Qc, mc, ms) N cells slots (pc + 2) (ls.set k0 (some (.int x))) st μ) : AW κ (δ, b, n, nL, sh, tp, Qc, mc, ms) N cells slots pc ls (.int x :: st) μ := by
  obtain ⟨p, l, e, R, s, m, args, below, meth, c⟩ := κ
  intro H locs lsr hP hT hS h
  simp only [Bool.and_eq_true, decide_eq_true_eq] at hl
  exact lv_istore X.1 X.2.1 hd h hl.1 rfl (fun ls2 h2 => k H locs ls2 hP hT hS (lh_set1 hl.2 h2))
theorem AW.astore_n (X : CX κ (δ, b, n, nL, sh, tp, Qc, mc, ms) own nm cc ret d) {k0 : Fin 4} {i : Nat} {x : Nat} (hd : decode cc pc = .ok (.astore_n k0, 1)) (hi : (k0 : Nat) = i) (hl : (decide (i < nL) && okst ls i) = true) (k : AW κ (δ, b, n, nL, sh, tp, Qc, mc, ms) N cells slots (pc + 1) (ls.set i (some (.ref x))) st μ) : AW κ (δ, b, n, nL, sh, tp, Qc, mc, ms) N cells slots pc ls (.ref x :: st) μ := by
  obtain ⟨p, l, e, R, s, m, args, below, meth, c⟩ := κ
  intro H locs lsr hP hT hS h
  simp only [Bool.and_eq_true, decide_eq_true_eq] at hl
  exact lv_astore_n X.1 X.2.1 hd hi h hl.1 rfl (fun ls2 h2 => k H locs ls2 hP hT hS (lh_set1 hl.2 h2))
theorem AW.astore (X : CX κ (δ, b, n, nL, sh, tp, Qc, mc, ms) own nm cc ret d) {k0 : Nat} {x : Nat} (hd : decode cc pc = .ok (.astore k0, 2)) (hl : (decide (k0 < nL) && okst ls k0) = true) (k : AW κ (δ, b, n, nL, sh, tp, Qc, mc, ms) N cells slots (pc + 2) (ls.set k0 (some (.ref x))) st μ) : AW κ (δ, b, n, nL, sh, tp, Qc, mc, ms) N cells slots pc ls (.ref x :: st) μ := by
  obtain ⟨p, l, e, R, s, m, args, below, meth, c⟩ := κ
  intro H locs lsr hP hT hS h
  simp only [Bool.and_eq_true, decide_eq_true_eq] at hl
  exact lv_astore X.1 X.2.1 hd h hl.1 rfl (fun ls2 h2 => k H locs ls2 hP hT hS (lh_set1 hl.2 h2))
theorem lh_find {ls : List (Option Value)} {i : Nat} {v : Value} (h : ls[i]? = some (some v)) : ∃ k : Nat, (lp 0 ls)[k]? = some (i, v) := List.getElem?_of_mem ((lp_mem ls 0 i v).mpr ⟨i, by omega, h⟩)
theorem AW.iinc (X : CX κ (δ, b, n, nL, sh, tp, Qc, mc, ms) own nm cc ret d) {k0 : Nat} {i : Int} {x v : Int32} (hd : decode cc pc = .ok (.iinc k0 i, 3)) (hl : ls[k0]? = some (some (.int x))) (hv : Int32.ofInt i = v) (hl2 : (decide (k0 < nL) && okst ls k0) = true) (k : AW κ (δ, b, n, nL, sh, tp, Qc, mc, ms) N cells slots (pc + 3) (ls.set k0 (some (.int (x + v)))) st μ) : AW κ (δ, b, n, nL, sh, tp, Qc, mc, ms) N cells slots pc ls st μ := by
  obtain ⟨p, l, e, R, s, m, args, below, meth, c⟩ := κ
  intro H locs lsr hP hT hS h
  simp only [Bool.and_eq_true, decide_eq_true_eq] at hl2
  obtain ⟨k9, hk9⟩ := lh_find hl
  exact lv_iinc (k := k9) X.1 X.2.1 hd h hk9 (by rw [hv]) hl2.1 rfl (fun ls2 h2 => k H locs ls2 hP hT hS (lh_set1 hl2.2 h2))
theorem AW.if_eq (X : CX κ (δ, b, n, nL, sh, tp, Qc, mc, ms) own nm cc ret d) {x : Int32} {off : Int} {tgt : Nat} (hd : decode cc pc = .ok (.ifCond .eq off, 3)) (ht : (pc : Int) + off = (tgt : Int)) (k1 : x = 0 → AW κ (δ, b, n, nL, sh, tp, Qc, mc, ms) N cells slots tgt ls st μ) (k2 : ¬ (x = 0) → AW κ (δ, b, n, nL, sh, tp, Qc, mc, ms) N cells slots (pc + 3) ls st μ) : AW κ (δ, b, n, nL, sh, tp, Qc, mc, ms) N cells slots pc ls (.int x :: st) μ := by
  obtain ⟨p, l, e, R, s, m, args, below, meth, c⟩ := κ
  intro H locs lsr hP hT hS h
  exact lv_if_eq X.1 X.2.1 hd ht (fun q => k1 q H locs lsr hP hT hS h) (fun q => k2 q H locs lsr hP hT hS h)
theorem AW.icmp_eq (X : CX κ (δ, b, n, nL, sh, tp, Qc, mc, ms) own nm cc ret d) {x z : Int32} {off : Int} {tgt : Nat} (hd : decode cc pc = .ok (.if_icmp .eq off, 3)) (ht : (pc : Int) + off = (tgt : Int)) (k1 : x = z → AW κ (δ, b, n, nL, sh, tp, Qc, mc, ms) N cells slots tgt ls st μ) (k2 : ¬ (x = z) → AW κ (δ, b, n, nL, sh, tp, Qc, mc, ms) N cells slots (pc + 3) ls st μ) : AW κ (δ, b, n, nL, sh, tp, Qc, mc, ms) N cells slots pc ls (.int z :: .int x :: st) μ := by
  obtain ⟨p, l, e, R, s, m, args, below, meth, c⟩ := κ
  intro H locs lsr hP hT hS h
  exact lv_icmp_eq X.1 X.2.1 hd ht (fun q => k1 q H locs lsr hP hT hS h) (fun q => k2 q H locs lsr hP hT hS h)
theorem AW.if_ne (X : CX κ (δ, b, n, nL, sh, tp, Qc, mc, ms) own nm cc ret d) {x : Int32} {off : Int} {tgt : Nat} (hd : decode cc pc = .ok (.ifCond .ne off, 3)) (ht : (pc : Int) + off = (tgt : Int)) (k1 : ¬ x = 0 → AW κ (δ, b, n, nL, sh, tp, Qc, mc, ms) N cells slots tgt ls st μ) (k2 : x = 0 → AW κ (δ, b, n, nL, sh, tp, Qc, mc, ms) N cells slots (pc + 3) ls st μ) : AW κ (δ, b, n, nL, sh, tp, Qc, mc, ms) N cells slots pc ls (.int x :: st) μ := by
  obtain ⟨p, l, e, R, s, m, args, below, meth, c⟩ := κ
  intro H locs lsr hP hT hS h
  exact lv_if_ne X.1 X.2.1 hd ht (fun q => k1 q H locs lsr hP hT hS h) (fun q => k2 q H locs lsr hP hT hS h)
theorem AW.icmp_ne (X : CX κ (δ, b, n, nL, sh, tp, Qc, mc, ms) own nm cc ret d) {x z : Int32} {off : Int} {tgt : Nat} (hd : decode cc pc = .ok (.if_icmp .ne off, 3)) (ht : (pc : Int) + off = (tgt : Int)) (k1 : ¬ x = z → AW κ (δ, b, n, nL, sh, tp, Qc, mc, ms) N cells slots tgt ls st μ) (k2 : x = z → AW κ (δ, b, n, nL, sh, tp, Qc, mc, ms) N cells slots (pc + 3) ls st μ) : AW κ (δ, b, n, nL, sh, tp, Qc, mc, ms) N cells slots pc ls (.int z :: .int x :: st) μ := by
  obtain ⟨p, l, e, R, s, m, args, below, meth, c⟩ := κ
  intro H locs lsr hP hT hS h
  exact lv_icmp_ne X.1 X.2.1 hd ht (fun q => k1 q H locs lsr hP hT hS h) (fun q => k2 q H locs lsr hP hT hS h)
theorem AW.if_lt (X : CX κ (δ, b, n, nL, sh, tp, Qc, mc, ms) own nm cc ret d) {x : Int32} {off : Int} {tgt : Nat} (hd : decode cc pc = .ok (.ifCond .lt off, 3)) (ht : (pc : Int) + off = (tgt : Int)) (k1 : x < 0 → AW κ (δ, b, n, nL, sh, tp, Qc, mc, ms) N cells slots tgt ls st μ) (k2 : ¬ (x < 0) → AW κ (δ, b, n, nL, sh, tp, Qc, mc, ms) N cells slots (pc + 3) ls st μ) : AW κ (δ, b, n, nL, sh, tp, Qc, mc, ms) N cells slots pc ls (.int x :: st) μ := by
  obtain ⟨p, l, e, R, s, m, args, below, meth, c⟩ := κ
  intro H locs lsr hP hT hS h
  exact lv_if_lt X.1 X.2.1 hd ht (fun q => k1 q H locs lsr hP hT hS h) (fun q => k2 q H locs lsr hP hT hS h)
theorem AW.icmp_lt (X : CX κ (δ, b, n, nL, sh, tp, Qc, mc, ms) own nm cc ret d) {x z : Int32} {off : Int} {tgt : Nat} (hd : decode cc pc = .ok (.if_icmp .lt off, 3)) (ht : (pc : Int) + off = (tgt : Int)) (k1 : x < z → AW κ (δ, b, n, nL, sh, tp, Qc, mc, ms) N cells slots tgt ls st μ) (k2 : ¬ (x < z) → AW κ (δ, b, n, nL, sh, tp, Qc, mc, ms) N cells slots (pc + 3) ls st μ) : AW κ (δ, b, n, nL, sh, tp, Qc, mc, ms) N cells slots pc ls (.int z :: .int x :: st) μ := by
  obtain ⟨p, l, e, R, s, m, args, below, meth, c⟩ := κ
  intro H locs lsr hP hT hS h
  exact lv_icmp_lt X.1 X.2.1 hd ht (fun q => k1 q H locs lsr hP hT hS h) (fun q => k2 q H locs lsr hP hT hS h)
theorem AW.if_ge (X : CX κ (δ, b, n, nL, sh, tp, Qc, mc, ms) own nm cc ret d) {x : Int32} {off : Int} {tgt : Nat} (hd : decode cc pc = .ok (.ifCond .ge off, 3)) (ht : (pc : Int) + off = (tgt : Int)) (k1 : 0 ≤ x → AW κ (δ, b, n, nL, sh, tp, Qc, mc, ms) N cells slots tgt ls st μ) (k2 : ¬ (0 ≤ x) → AW κ (δ, b, n, nL, sh, tp, Qc, mc, ms) N cells slots (pc + 3) ls st μ) : AW κ (δ, b, n, nL, sh, tp, Qc, mc, ms) N cells slots pc ls (.int x :: st) μ := by
  obtain ⟨p, l, e, R, s, m, args, below, meth, c⟩ := κ
  intro H locs lsr hP hT hS h
  exact lv_if_ge X.1 X.2.1 hd ht (fun q => k1 q H locs lsr hP hT hS h) (fun q => k2 q H locs lsr hP hT hS h)
theorem AW.icmp_ge (X : CX κ (δ, b, n, nL, sh, tp, Qc, mc, ms) own nm cc ret d) {x z : Int32} {off : Int} {tgt : Nat} (hd : decode cc pc = .ok (.if_icmp .ge off, 3)) (ht : (pc : Int) + off = (tgt : Int)) (k1 : z ≤ x → AW κ (δ, b, n, nL, sh, tp, Qc, mc, ms) N cells slots tgt ls st μ) (k2 : ¬ (z ≤ x) → AW κ (δ, b, n, nL, sh, tp, Qc, mc, ms) N cells slots (pc + 3) ls st μ) : AW κ (δ, b, n, nL, sh, tp, Qc, mc, ms) N cells slots pc ls (.int z :: .int x :: st) μ := by
  obtain ⟨p, l, e, R, s, m, args, below, meth, c⟩ := κ
  intro H locs lsr hP hT hS h
  exact lv_icmp_ge X.1 X.2.1 hd ht (fun q => k1 q H locs lsr hP hT hS h) (fun q => k2 q H locs lsr hP hT hS h)
theorem AW.if_gt (X : CX κ (δ, b, n, nL, sh, tp, Qc, mc, ms) own nm cc ret d) {x : Int32} {off : Int} {tgt : Nat} (hd : decode cc pc = .ok (.ifCond .gt off, 3)) (ht : (pc : Int) + off = (tgt : Int)) (k1 : 0 < x → AW κ (δ, b, n, nL, sh, tp, Qc, mc, ms) N cells slots tgt ls st μ) (k2 : ¬ (0 < x) → AW κ (δ, b, n, nL, sh, tp, Qc, mc, ms) N cells slots (pc + 3) ls st μ) : AW κ (δ, b, n, nL, sh, tp, Qc, mc, ms) N cells slots pc ls (.int x :: st) μ := by
  obtain ⟨p, l, e, R, s, m, args, below, meth, c⟩ := κ
  intro H locs lsr hP hT hS h
  exact lv_if_gt X.1 X.2.1 hd ht (fun q => k1 q H locs lsr hP hT hS h) (fun q => k2 q H locs lsr hP hT hS h)
theorem AW.icmp_gt (X : CX κ (δ, b, n, nL, sh, tp, Qc, mc, ms) own nm cc ret d) {x z : Int32} {off : Int} {tgt : Nat} (hd : decode cc pc = .ok (.if_icmp .gt off, 3)) (ht : (pc : Int) + off = (tgt : Int)) (k1 : z < x → AW κ (δ, b, n, nL, sh, tp, Qc, mc, ms) N cells slots tgt ls st μ) (k2 : ¬ (z < x) → AW κ (δ, b, n, nL, sh, tp, Qc, mc, ms) N cells slots (pc + 3) ls st μ) : AW κ (δ, b, n, nL, sh, tp, Qc, mc, ms) N cells slots pc ls (.int z :: .int x :: st) μ := by
  obtain ⟨p, l, e, R, s, m, args, below, meth, c⟩ := κ
  intro H locs lsr hP hT hS h
  exact lv_icmp_gt X.1 X.2.1 hd ht (fun q => k1 q H locs lsr hP hT hS h) (fun q => k2 q H locs lsr hP hT hS h)
theorem AW.if_le (X : CX κ (δ, b, n, nL, sh, tp, Qc, mc, ms) own nm cc ret d) {x : Int32} {off : Int} {tgt : Nat} (hd : decode cc pc = .ok (.ifCond .le off, 3)) (ht : (pc : Int) + off = (tgt : Int)) (k1 : x ≤ 0 → AW κ (δ, b, n, nL, sh, tp, Qc, mc, ms) N cells slots tgt ls st μ) (k2 : ¬ (x ≤ 0) → AW κ (δ, b, n, nL, sh, tp, Qc, mc, ms) N cells slots (pc + 3) ls st μ) : AW κ (δ, b, n, nL, sh, tp, Qc, mc, ms) N cells slots pc ls (.int x :: st) μ := by
  obtain ⟨p, l, e, R, s, m, args, below, meth, c⟩ := κ
  intro H locs lsr hP hT hS h
  exact lv_if_le X.1 X.2.1 hd ht (fun q => k1 q H locs lsr hP hT hS h) (fun q => k2 q H locs lsr hP hT hS h)
theorem AW.icmp_le (X : CX κ (δ, b, n, nL, sh, tp, Qc, mc, ms) own nm cc ret d) {x z : Int32} {off : Int} {tgt : Nat} (hd : decode cc pc = .ok (.if_icmp .le off, 3)) (ht : (pc : Int) + off = (tgt : Int)) (k1 : x ≤ z → AW κ (δ, b, n, nL, sh, tp, Qc, mc, ms) N cells slots tgt ls st μ) (k2 : ¬ (x ≤ z) → AW κ (δ, b, n, nL, sh, tp, Qc, mc, ms) N cells slots (pc + 3) ls st μ) : AW κ (δ, b, n, nL, sh, tp, Qc, mc, ms) N cells slots pc ls (.int z :: .int x :: st) μ := by
  obtain ⟨p, l, e, R, s, m, args, below, meth, c⟩ := κ
  intro H locs lsr hP hT hS h
  exact lv_icmp_le X.1 X.2.1 hd ht (fun q => k1 q H locs lsr hP hT hS h) (fun q => k2 q H locs lsr hP hT hS h)
theorem AW.goto (X : CX κ (δ, b, n, nL, sh, tp, Qc, mc, ms) own nm cc ret d) {off : Int} {tgt : Nat} (hd : decode cc pc = .ok (.goto off, 3)) (ht : (pc : Int) + off = (tgt : Int)) (k : AW κ (δ, b, n, nL, sh, tp, Qc, mc, ms) N cells slots tgt ls st μ) : AW κ (δ, b, n, nL, sh, tp, Qc, mc, ms) N cells slots pc ls st μ := by
  obtain ⟨p, l, e, R, s, m, args, below, meth, c⟩ := κ
  intro H locs lsr hP hT hS h
  exact lv_goto X.1 X.2.1 hd ht (k H locs lsr hP hT hS h)
theorem AW.tableOut (X : CX κ (δ, b, n, nL, sh, tp, Qc, mc, ms) own nm cc ret d) {dflt lo hi : Int} {offs : Array Int} {len : Nat} {x : Int32} {tgt : Nat} (hd : decode cc pc = .ok (.tableswitch dflt lo hi offs, len)) (hx : x.toInt < lo ∨ hi < x.toInt) (ht : (pc : Int) + dflt = (tgt : Int)) (k : AW κ (δ, b, n, nL, sh, tp, Qc, mc, ms) N cells slots tgt ls st μ) : AW κ (δ, b, n, nL, sh, tp, Qc, mc, ms) N cells slots pc ls (.int x :: st) μ := by
  obtain ⟨p, l, e, R, s, m, args, below, meth, c⟩ := κ
  intro H locs lsr hP hT hS h
  exact lv_tableOut X.1 X.2.1 hd hx ht (k H locs lsr hP hT hS h)
theorem AW.tableIn (X : CX κ (δ, b, n, nL, sh, tp, Qc, mc, ms) own nm cc ret d) {dflt lo hi : Int} {offs : Array Int} {len : Nat} {x : Int32} {off : Int} {tgt : Nat} (hd : decode cc pc = .ok (.tableswitch dflt lo hi offs, len)) (h1 : ¬ x.toInt < lo) (h2 : ¬ hi < x.toInt) (ho : offs[(x.toInt - lo).toNat]? = some off) (ht : (pc : Int) + off = (tgt : Int)) (k : AW κ (δ, b, n, nL, sh, tp, Qc, mc, ms) N cells slots tgt ls st μ) : AW κ (δ, b, n, nL, sh, tp, Qc, mc, ms) N cells slots pc ls (.int x :: st) μ := by
  obtain ⟨p, l, e, R, s, m, args, below, meth, c⟩ := κ
  intro H locs lsr hP hT hS h
  exact lv_tableIn X.1 X.2.1 hd h1 h2 ho ht (k H locs lsr hP hT hS h)
theorem AW.ldci (X : CX κ (δ, b, n, nL, sh, tp, Qc, mc, ms) own nm cc ret d) {i : Nat} {v : Int32} (hd : decode cc pc = .ok (.ldc i, 2)) (hv : Cond.constant own i v ∈ TT) (k : AW κ (δ, b, n, nL, sh, tp, Qc, mc, ms) N cells slots (pc + 2) ls (.int v :: st) μ) : AW κ (δ, b, n, nL, sh, tp, Qc, mc, ms) N cells slots pc ls st μ := by
  obtain ⟨p, l, e, R, s, m, args, below, meth, c⟩ := κ
  intro H locs lsr hP hT hS h
  exact lv_ldc X.1 X.2.1 X.2.2.2.1 (X.2.2.2.2.1 _ hv) hd (k H locs lsr hP hT hS h)
theorem AW.ldciw (X : CX κ (δ, b, n, nL, sh, tp, Qc, mc, ms) own nm cc ret d) {i : Nat} {v : Int32} (hd : decode cc pc = .ok (.ldc_w i, 3)) (hv : Cond.constant own i v ∈ TT) (k : AW κ (δ, b, n, nL, sh, tp, Qc, mc, ms) N cells slots (pc + 3) ls (.int v :: st) μ) : AW κ (δ, b, n, nL, sh, tp, Qc, mc, ms) N cells slots pc ls st μ := by
  obtain ⟨p, l, e, R, s, m, args, below, meth, c⟩ := κ
  intro H locs lsr hP hT hS h
  exact lv_ldcw X.1 X.2.1 X.2.2.2.1 (X.2.2.2.2.1 _ hv) hd (k H locs lsr hP hT hS h)
theorem AW.ldcl (X : CX κ (δ, b, n, nL, sh, tp, Qc, mc, ms) own nm cc ret d) {i : Nat} {v : Int64} (hd : decode cc pc = .ok (.ldc2_w i, 3)) (hv : Cond.constantLong own i v ∈ TT) (k : AW κ (δ, b, n, nL, sh, tp, Qc, mc, ms) N cells slots (pc + 3) ls (.long v :: st) μ) : AW κ (δ, b, n, nL, sh, tp, Qc, mc, ms) N cells slots pc ls st μ := by
  obtain ⟨p, l, e, R, s, m, args, below, meth, c⟩ := κ
  intro H locs lsr hP hT hS h
  exact lv_ldc2 X.1 X.2.1 X.2.2.2.1 (X.2.2.2.2.1 _ hv) hd (k H locs lsr hP hT hS h)
/-- a class of the worlds: its fields, as the tables have them -/
def CF (c : Nat) (C : String) (T : u_T) : Prop := vwCl[c]? = some (C, T, ncf c) ∧ (∀ w ∈ u_ws C T (ncf c), w ∈ TT) ∧ (∀ k, k < ncf c → parseFieldDescriptor (T k).2.2.1 = some (cft c k)) ∧ ∀ a, a < ncf c → ∀ b, b < ncf c → a ≠ b → (T a).2.1 ≠ (T b).2.1
def GF (own : String) (idx c k : Nat) (C : String) (T : u_T) : Prop := CF c C T ∧ k < ncf c ∧ Cond.fieldLink own idx (T k).1 (T k).2.1 (T k).2.2.1 ∈ TT
def isI (c k : Nat) : Bool := match cft c k with
  | .int => true
  | .boolean => true
  | _ => false
def isR (c k : Nat) : Bool := match cft c k with
  | .int => false
  | .boolean => false
  | .long => false
  | .byte => false
  | .short => false
  | .char => false
  | .float => false
  | .double => false
  | _ => true
theorem isI_or {c k : Nat} (h : isI c k = true) : cft c k = .int ∨ cft c k = .boolean := by
  unfold isI at h
  split at h
  · exact Or.inl ‹_›
  · exact Or.inr ‹_›
  · cases h
theorem isR_val {c k : Nat} (h : isR c k = true) (b : Nat) (μ : Mm) (o : Nat) : fval b μ o k (cft c k) = va_rf ((μ.2.2 o k).map (fun j => b + j)) := by
  unfold isR at h
  cases e : cft c k <;> simp [e] at h <;> rfl
theorem isR_fits {c k : Nat} (h : isR c k = true) (r : Option Nat) : narrow (cft c k) (va_rf r) = va_rf r ∧ fits (cft c k) (va_rf r) = true := by
  unfold isR at h
  cases e : cft c k <;> simp [e] at h <;> cases r <;> exact ⟨rfl, rfl⟩
theorem fl_get {b : Nat} {μ : Mm} {o c k : Nat} (hk : k < ncf c) : ((List.range (ncf c)).map (fun k => fval b μ o k (cft c k)))[k]? = some (fval b μ o k (cft c k)) := by
  rw [List.getElem?_map, List.getElem?_range hk]
  rfl
theorem AW.getI (X : CX κ (δ, b, n, nL, sh, tp, Qc, mc, ms) own nm cc ret d) {idx c k0 o : Nat} {C : String} {T : u_T} (hd : decode cc pc = .ok (.getfield idx, 3)) (g : GF own idx c k0 C T) (ht : isI c k0 = true) (ho : OB sh N o c) {v : Int32} (hv : μ.1 o k0 = v) (k : AW κ (δ, b, n, nL, sh, tp, Qc, mc, ms) N cells slots (pc + 3) ls (.int v :: st) μ) : AW κ (δ, b, n, nL, sh, tp, Qc, mc, ms) N cells slots pc ls (.ref (b + o) :: st) μ := by
  obtain ⟨p, l, e, R, s, m, args, below, meth, c⟩ := κ
  intro H locs lsr hP hT hS h
  subst hv
  obtain ⟨⟨g1, g2, g3, g4⟩, g5, g6⟩ := g
  refine va_get X.1 X.2.1 X.2.2.2.2.1 g2 X.2.2.2.1 X.2.2.2.2.2.2.2.2.1.1 hP o (ob_get ho) g1 k0 g5 (X.2.2.2.2.1 _ g6) (fun x hx => hx) (v := .int (μ.1 o k0)) ?_ hd (k H locs lsr hP hT hS h)
  rw [fl_get g5]
  rcases isI_or ht with e | e <;> rw [e] <;> rfl
theorem AW.getR (X : CX κ (δ, b, n, nL, sh, tp, Qc, mc, ms) own nm cc ret d) {idx c k0 o r : Nat} {C : String} {T : u_T} (hd : decode cc pc = .ok (.getfield idx, 3)) (g : GF own idx c k0 C T) (ht : isR c k0 = true) (ho : OB sh N o c) (hr : μ.2.2 o k0 = some r) (k : AW κ (δ, b, n, nL, sh, tp, Qc, mc, ms) N cells slots (pc + 3) ls (.ref (b + r) :: st) μ) : AW κ (δ, b, n, nL, sh, tp, Qc, mc, ms) N cells slots pc ls (.ref (b + o) :: st) μ := by
  obtain ⟨p, l, e, R, s, m, args, below, meth, c⟩ := κ
  intro H locs lsr hP hT hS h
  obtain ⟨⟨g1, g2, g3, g4⟩, g5, g6⟩ := g
  refine va_get X.1 X.2.1 X.2.2.2.2.1 g2 X.2.2.2.1 X.2.2.2.2.2.2.2.2.1.1 hP o (ob_get ho) g1 k0 g5 (X.2.2.2.2.1 _ g6) (fun x hx => hx) (v := .ref (b + r)) ?_ hd (k H locs lsr hP hT hS h)
  rw [fl_get g5, isR_val ht, hr]
  rfl
theorem put_fits {δ : Dl} {s : State} {args : Array Value} (hts : ∀ w ∈ TT, w.before args s = true) (hK : KX δ s) {c k0 : Nat} {C : String} {T : u_T} (g : CF c C T) (g5 : k0 < ncf c) {b : Nat} {sh : Sh} {N o : Nat} {μ : Mm} {H : Heap} (hP : va_P δ.1 vwCl (wl δ b sh N μ) H) (ho : OB sh N o c) :
    ∃ (cf : ClassId) (kf : Class) (fi : Nat) (f : Field) (cell : Cell) (kC : Class), s.fieldFound? (T k0).1 (T k0).2.1 (T k0).2.2.1 = some (cf, kf, fi, f) ∧ f.isStatic = false ∧ s.vm.findClass C = some (δ.1.1 c) ∧ s.vm.classes[δ.1.1 c]? = some kC ∧ kC.kind = .ordinary ∧ H[b + o]? = some cell ∧ cell.cls = δ.1.1 c ∧ cell.vm = .none ∧ f.slot < cell.slots.size ∧
      ∀ (v : Value) (H1 : Heap), H1[b + o]? = some (cell.setSlot f.slot v) → va_at δ.1 vwCl (b + o, .inr (c, ((List.range (ncf c)).map (fun k => fval b μ o k (cft c k))).set k0 v)) H1 := by
  obtain ⟨g1, g2, g3, g4⟩ := g
  have hap := va_apart (own := C) hts g2 (cft c) g3 g4 hK.1 g1
  obtain ⟨r, h1, cell, q1, q2, q3, q4⟩ := hP o _ (ob_get ho)
  have hr : r = (C, T, ncf c) := Option.some.inj (h1.symm.trans g1)
  subst hr
  obtain ⟨hS, hfc, kC, hkC, hkind⟩ := hK.1.1 c _ g1
  obtain ⟨cf, kf, fi, f, hi, hsl⟩ := hS k0 g5
  refine ⟨cf, kf, fi, f, cell, kC, hi, (u_facts hfc hkC (u_lays hts g2 g5) hi).1, hfc, hkC, hkind, q1, q2, q3, by rw [hsl]; exact k2_hasslot (q4 k0 g5), fun v H1 e1 => ?_⟩
  rw [hsl] at e1
  exact ⟨_, g1, t_OB.to (V := updV (vp_V ((List.range (ncf c)).map (fun k => fval b μ o k (cft c k)))) k0 v) ⟨_, e1, q2, q3, t_set q4 hap g5 v⟩ (fun j _ => vp_updV_set (by rw [List.length_map, List.length_range]; exact g5) v j)⟩
theorem AW.putG (X : CX κ (δ, b, n, nL, sh, tp, Qc, mc, ms) own nm cc ret d) {idx ci k0 o : Nat} {C : String} {T : u_T} {v : Value} {μ2 : Mm} (hd : decode cc pc = .ok (.putfield idx, 3)) (g : GF own idx ci k0 C T) (hfin : (T k0).2.2.2 = false) (hf : narrow (cft ci k0) v = v ∧ fits (cft ci k0) v = true) (hset : (wl δ b sh N μ).set o (b + o, .inr (ci, ((List.range (ncf ci)).map (fun k => fval b μ o k (cft ci k))).set k0 v)) = wl δ b sh N μ2) (hn : N ≤ n) (ho : OB sh N o ci) (k : AW κ (δ, b, n, nL, sh, tp, Qc, mc, ms) N cells slots (pc + 3) ls st μ2) : AW κ (δ, b, n, nL, sh, tp, Qc, mc, ms) N cells slots pc ls (v :: .ref (b + o) :: st) μ := by
  obtain ⟨p, l, e, R, s, m, args, below, meth, c⟩ := κ
  intro H locs lsr hP hT hS h
  obtain ⟨g0, g5, g6⟩ := g
  have hts := X.2.2.2.2.1
  obtain ⟨cf, kf, fi, f, cell, kC, hi, hst, hfc, hkC, hkind, q1, q2, q3, hlt, hat⟩ := put_fits hts X.2.2.2.2.2.2.2.2.1 g0 g5 hP ho
  have hlay := hts _ (g0.2.1 _ (u_in_lay g5))
  unfold u_lay at hlay
  rw [if_neg (by rw [hfin]; decide)] at hlay
  have h6 := u_store hfc hkC hkind hlay hi (g0.2.2.1 k0 g5) hf.1 hf.2
  refine W.putK X.1 X.2.1 (f := f) ⟨X.2.2.2.1, hts _ g6, ⟨_, _, _, hi⟩, hst⟩ (by rw [q2]; exact h6) q1 q3 hlt rfl rfl hd fun H1 e1 e2 e3 => ?_
  have hD := wl_D (δ := δ) (b := b) (sh := sh) (μ := μ) hn
  have hP1 := hP.set hD (ob_get ho) (hat v H1 e1) e3
  rw [hset] at hP1
  exact k H1 _ lsr hP1 (fun q => e2.trans (hT q)) (hS.put e2 e3 (hD.2 o _ (ob_get ho))) h
theorem AW.putGF (X : CX κ (δ, b, n, nL, sh, tp, Qc, mc, ms) own nm cc ret d) {idx ci k0 o : Nat} {C : String} {T : u_T} {v : Value} {μ2 : Mm} (hd : decode cc pc = .ok (.putfield idx, 3)) (g : GF own idx ci k0 C T) (hfin : (T k0).2.2.2 = true) (hdecl : (T k0).1 = own) (hnm : nm = "<init>") (hf : narrow (cft ci k0) v = v ∧ fits (cft ci k0) v = true) (hset : (wl δ b sh N μ).set o (b + o, .inr (ci, ((List.range (ncf ci)).map (fun k => fval b μ o k (cft ci k))).set k0 v)) = wl δ b sh N μ2) (hn : N ≤ n) (ho : OB sh N o ci) (k : AW κ (δ, b, n, nL, sh, tp, Qc, mc, ms) N cells slots (pc + 3) ls st μ2) : AW κ (δ, b, n, nL, sh, tp, Qc, mc, ms) N cells slots pc ls (v :: .ref (b + o) :: st) μ := by
  obtain ⟨p, l, e, R, s, m, args, below, meth, c⟩ := κ
  intro H locs lsr hP hT hS h
  obtain ⟨g0, g5, g6⟩ := g
  have hts := X.2.2.2.2.1
  obtain ⟨cf, kf, fi, f, cell, kC, hi, hst, hfc, hkC, hkind, q1, q2, q3, hlt, hat⟩ := put_fits hts X.2.2.2.2.2.2.2.2.1 g0 g5 hP ho
  have hlay := hts _ (g0.2.1 _ (u_in_lay g5))
  unfold u_lay at hlay
  rw [if_pos hfin] at hlay
  have hcf : m.cls = cf := by
    obtain ⟨_, _, c', _, _, _, -, -, hf', -, -, -, hown2, -⟩ := Cond.laysFinal_spec hlay
    have e1 : c' = cf := by have := hi.symm.trans hf'; simp at this; exact this.1.symm
    rw [hdecl] at hown2
    rw [← e1]; exact Option.some.inj (X.2.2.2.1.symm.trans hown2)
  have h6 := u_fits hfc hkC hkind (Or.inr hlay) hi (g0.2.2.1 k0 g5) hf.1 hf.2
  refine W.putFinK X.1 X.2.1 X.2.2.2.1 (hts _ g6) hi hst hcf (X.2.2.2.2.2.2.2.1.trans hnm) (by rw [q2]; exact h6) q1 q3 hlt rfl rfl hd fun H1 e1 e2 e3 => ?_
  have hD := wl_D (δ := δ) (b := b) (sh := sh) (μ := μ) hn
  have hP1 := hP.set hD (ob_get ho) (hat v H1 e1) e3
  rw [hset] at hP1
  exact k H1 _ lsr hP1 (fun q => e2.trans (hT q)) (hS.put e2 e3 (hD.2 o _ (ob_get ho))) h
theorem AW.putI (X : CX κ (δ, b, n, nL, sh, tp, Qc, mc, ms) own nm cc ret d) {idx ci k0 o : Nat} {C : String} {T : u_T} {v : Int32} (hd : decode cc pc = .ok (.putfield idx, 3)) (g : GF own idx ci k0 C T) (ht : isI ci k0 = true) (hfin : (T k0).2.2.2 = false) (hf : narrow (cft ci k0) (.int v) = .int v ∧ fits (cft ci k0) (.int v) = true) (hn : N ≤ n) (ho : OB sh N o ci) (k : AW κ (δ, b, n, nL, sh, tp, Qc, mc, ms) N cells slots (pc + 3) ls st (wI μ o k0 v)) : AW κ (δ, b, n, nL, sh, tp, Qc, mc, ms) N cells slots pc ls (.int v :: .ref (b + o) :: st) μ :=
  AW.putG X hd g hfin hf (ob_setI ho g.2.1 (isI_or ht)) hn ho k
theorem AW.putR (X : CX κ (δ, b, n, nL, sh, tp, Qc, mc, ms) own nm cc ret d) {idx ci k0 o r : Nat} {C : String} {T : u_T} (hd : decode cc pc = .ok (.putfield idx, 3)) (g : GF own idx ci k0 C T) (ht : isR ci k0 = true) (hfin : (T k0).2.2.2 = false) (hn : N ≤ n) (ho : OB sh N o ci) (k : AW κ (δ, b, n, nL, sh, tp, Qc, mc, ms) N cells slots (pc + 3) ls st (wR μ o k0 (some r))) : AW κ (δ, b, n, nL, sh, tp, Qc, mc, ms) N cells slots pc ls (.ref (b + r) :: .ref (b + o) :: st) μ :=
  AW.putG (v := .ref (b + r)) X hd g hfin (isR_fits ht (some (b + r))) (ob_setR (v := some r) ho g.2.1 (isR_val ht)) hn ho k
theorem AW.putIF (X : CX κ (δ, b, n, nL, sh, tp, Qc, mc, ms) own nm cc ret d) {idx ci k0 o : Nat} {C : String} {T : u_T} {v : Int32} (hd : decode cc pc = .ok (.putfield idx, 3)) (g : GF own idx ci k0 C T) (ht : isI ci k0 = true) (hfin : (T k0).2.2.2 = true) (hdecl : (T k0).1 = own) (hnm : nm = "<init>") (hf : narrow (cft ci k0) (.int v) = .int v ∧ fits (cft ci k0) (.int v) = true) (hn : N ≤ n) (ho : OB sh N o ci) (k : AW κ (δ, b, n, nL, sh, tp, Qc, mc, ms) N cells slots (pc + 3) ls st (wI μ o k0 v)) : AW κ (δ, b, n, nL, sh, tp, Qc, mc, ms) N cells slots pc ls (.int v :: .ref (b + o) :: st) μ :=
  AW.putGF X hd g hfin hdecl hnm hf (ob_setI ho g.2.1 (isI_or ht)) hn ho k
theorem AW.putRF (X : CX κ (δ, b, n, nL, sh, tp, Qc, mc, ms) own nm cc ret d) {idx ci k0 o r : Nat} {C : String} {T : u_T} (hd : decode cc pc = .ok (.putfield idx, 3)) (g : GF own idx ci k0 C T) (ht : isR ci k0 = true) (hfin : (T k0).2.2.2 = true) (hdecl : (T k0).1 = own) (hnm : nm = "<init>") (hn : N ≤ n) (ho : OB sh N o ci) (k : AW κ (δ, b, n, nL, sh, tp, Qc, mc, ms) N cells slots (pc + 3) ls st (wR μ o k0 (some r))) : AW κ (δ, b, n, nL, sh, tp, Qc, mc, ms) N cells slots pc ls (.ref (b + r) :: .ref (b + o) :: st) μ :=
  AW.putGF (v := .ref (b + r)) X hd g hfin hdecl hnm (isR_fits ht (some (b + r))) (ob_setR (v := some r) ho g.2.1 (isR_val ht)) hn ho k
theorem storeI (cA : ClassId) (a9 : Nat) (f : Nat → Int32) (k : Nat) (v : Int32) : (vp_cell cA (a9, .inl f)).setSlot k (.int v) = vp_cell cA (a9, .inl (upd f k v)) := by
  rw [vp_cell_i, vp_cell_i, arrV_store]
  congr 1
  funext j
  simp only [updV, upd]
  split <;> rfl
theorem storeL (cA : ClassId) (a9 : Nat) (f : Nat → Int64) (k : Nat) (v : Int64) : (vp_cell cA (a9, .inr (.inl f))).setSlot k (.long v) = vp_cell cA (a9, .inr (.inl (vp_updL f k v))) := by
  rw [vp_cell_l, vp_cell_l, arrV_store]
  congr 1
  funext j
  simp only [updV, vp_updL]
  split <;> rfl
theorem AW.iaload (X : CX κ (δ, b, n, nL, sh, tp, Qc, mc, ms) own nm cc ret d) {o a9 : Nat} {i : Int32} (hd : decode cc pc = .ok (.iaload, 1)) (ho : AR sh N o 0 a9) (hi : vp_in i a9) {v : Int32} (hv : μ.1 o i.toNatClampNeg = v) (k : AW κ (δ, b, n, nL, sh, tp, Qc, mc, ms) N cells slots (pc + 1) ls (.int v :: st) μ) : AW κ (δ, b, n, nL, sh, tp, Qc, mc, ms) N cells slots pc ls (.int i :: .ref (b + o) :: st) μ := by
  obtain ⟨p, l, e, R, s, m, args, below, meth, c⟩ := κ
  intro H locs lsr hP hT hS h
  subst hv
  exact va_iald X.1 X.2.1 X.2.2.2.2.2.2.2.2.1.1 hP o 0 (ar_getI ho) rfl hi hd (k H locs lsr hP hT hS h)
theorem AW.laload (X : CX κ (δ, b, n, nL, sh, tp, Qc, mc, ms) own nm cc ret d) {o a9 : Nat} {i : Int32} (hd : decode cc pc = .ok (.laload, 1)) (ho : AR sh N o 1 a9) (hi : vp_in i a9) {v : Int64} (hv : μ.2.1 o i.toNatClampNeg = v) (k : AW κ (δ, b, n, nL, sh, tp, Qc, mc, ms) N cells slots (pc + 1) ls (.long v :: st) μ) : AW κ (δ, b, n, nL, sh, tp, Qc, mc, ms) N cells slots pc ls (.int i :: .ref (b + o) :: st) μ := by
  obtain ⟨p, l, e, R, s, m, args, below, meth, c⟩ := κ
  intro H locs lsr hP hT hS h
  subst hv
  exact va_lald X.1 X.2.1 X.2.2.2.2.2.2.2.2.1.1 hP o 1 (ar_getL ho) rfl hi hd (k H locs lsr hP hT hS h)
theorem AW.aaload (X : CX κ (δ, b, n, nL, sh, tp, Qc, mc, ms) own nm cc ret d) {o t9 a9 r : Nat} {i : Int32} {ty : FieldType} (hd : decode cc pc = .ok (.aaload, 1)) (ht : (tys δ)[t9 + 2]? = some (δ.2.1 (t9 + 2), ty)) (hty : ty.isReference = true) (ho : AR sh N o (t9 + 2) a9) (hi : vp_in i a9) (hr : μ.2.2 o i.toNatClampNeg = some r) (k : AW κ (δ, b, n, nL, sh, tp, Qc, mc, ms) N cells slots (pc + 1) ls (.ref (b + r) :: st) μ) : AW κ (δ, b, n, nL, sh, tp, Qc, mc, ms) N cells slots pc ls (.int i :: .ref (b + o) :: st) μ := by
  obtain ⟨p, l, e, R, s, m, args, below, meth, c⟩ := κ
  intro H locs lsr hP hT hS h
  have hlt : i.toNatClampNeg < a9 := Nat.not_le.mp fun q => hi (Or.inr q)
  refine W.aald (v := .ref (b + r)) X.1 X.2.1 (hP o _ (ar_getR ho)) ((X.2.2.2.2.2.2.2.2.1.1.2 _ _ ht).1 a9 (fun j => va_rf ((μ.2.2 o j).map (fun i => b + i)))) hty (fun q => by cases q) (by show ¬ (i < 0 ∨ (arrV _ _ _).slots.size ≤ _); rw [arrV_size]; exact hi) ?_ rfl rfl hd (k H locs lsr hP hT hS h)
  show (arrV _ _ _).slots[_]? = _
  rw [arrV_read _ _ hlt]
  show some (va_rf ((μ.2.2 o i.toNatClampNeg).map (fun i => b + i))) = _
  rw [hr]
  rfl
theorem AW.iastore (X : CX κ (δ, b, n, nL, sh, tp, Qc, mc, ms) own nm cc ret d) {o a9 : Nat} {i : Int32} {v : Int32} (hd : decode cc pc = .ok (.iastore, 1)) (hn : N ≤ n) (ho : AR sh N o 0 a9) (hi : vp_in i a9) (k : AW κ (δ, b, n, nL, sh, tp, Qc, mc, ms) N cells slots (pc + 1) ls st (wI μ o i.toNatClampNeg v)) : AW κ (δ, b, n, nL, sh, tp, Qc, mc, ms) N cells slots pc ls (.int v :: .int i :: .ref (b + o) :: st) μ := by
  obtain ⟨p, l, e, R, s, m, args, below, meth, c⟩ := κ
  intro H locs lsr hP hT hS h
  refine W.iast X.1 X.2.1 (hP o _ (ar_getI ho)) ((X.2.2.2.2.2.2.2.2.1.1.2 0 _ rfl).1 a9 _) (fun q => by cases q) (by show ¬ (i < 0 ∨ (arrV _ _ _).slots.size ≤ _); rw [arrV_size]; exact hi) rfl rfl hd fun H1 e z oq => ?_
  have hD := wl_D (δ := δ) (b := b) (sh := sh) (μ := μ) hn
  have hP1 := hP.set hD (ar_getI ho) (e := .inl (δ.2.1 0, a9, .inl (upd (μ.1 o) i.toNatClampNeg v))) (by show H1[b + o]? = some (vp_cell _ _); rw [e]; exact congrArg some (storeI _ _ _ _ _)) oq
  exact k H1 _ lsr (by rw [ar_setI ho] at hP1; exact hP1) (fun q => z.trans (hT q)) (hS.put z oq (hD.2 o _ (ar_getI ho))) h
theorem AW.lastore (X : CX κ (δ, b, n, nL, sh, tp, Qc, mc, ms) own nm cc ret d) {o a9 : Nat} {i : Int32} {v : Int64} (hd : decode cc pc = .ok (.lastore, 1)) (hn : N ≤ n) (ho : AR sh N o 1 a9) (hi : vp_in i a9) (k : AW κ (δ, b, n, nL, sh, tp, Qc, mc, ms) N cells slots (pc + 1) ls st (wL μ o i.toNatClampNeg v)) : AW κ (δ, b, n, nL, sh, tp, Qc, mc, ms) N cells slots pc ls (.long v :: .int i :: .ref (b + o) :: st) μ := by
  obtain ⟨p, l, e, R, s, m, args, below, meth, c⟩ := κ
  intro H locs lsr hP hT hS h
  refine W.last X.1 X.2.1 (hP o _ (ar_getL ho)) ((X.2.2.2.2.2.2.2.2.1.1.2 1 _ rfl).1 a9 _) (fun q => by cases q) (by show ¬ (i < 0 ∨ (arrV _ _ _).slots.size ≤ _); rw [arrV_size]; exact hi) rfl rfl hd fun H1 e z oq => ?_
  have hD := wl_D (δ := δ) (b := b) (sh := sh) (μ := μ) hn
  have hP1 := hP.set hD (ar_getL ho) (e := .inl (δ.2.1 1, a9, .inr (.inl (vp_updL (μ.2.1 o) i.toNatClampNeg v)))) (by show H1[b + o]? = some (vp_cell _ _); rw [e]; exact congrArg some (storeL _ _ _ _ _)) oq
  exact k H1 _ lsr (by rw [ar_setL ho] at hP1; exact hP1) (fun q => z.trans (hT q)) (hS.put z oq (hD.2 o _ (ar_getL ho))) h
theorem AW.alen (X : CX κ (δ, b, n, nL, sh, tp, Qc, mc, ms) own nm cc ret d) {o t9 a9 : Nat} {ty : FieldType} (hd : decode cc pc = .ok (.arraylength, 1)) (ht : (tys δ)[t9]? = some (δ.2.1 t9, ty)) (ho : AR sh N o t9 a9) (k : AW κ (δ, b, n, nL, sh, tp, Qc, mc, ms) N cells slots (pc + 1) ls (.int (nI a9) :: st) μ) : AW κ (δ, b, n, nL, sh, tp, Qc, mc, ms) N cells slots pc ls (.ref (b + o) :: st) μ := by
  obtain ⟨p, l, e, R, s, m, args, below, meth, c⟩ := κ
  intro H locs lsr hP hT hS h
  have key : ∃ z : Nat → Value, va_at δ.1 vwCl (b + o, ent δ b sh μ o) H → H[b + o]? = some (arrV (δ.2.1 t9) a9 z) := by
    unfold ent
    rw [ho.2]
    match t9 with
    | 0 => exact ⟨fun j => .int (μ.1 o j), fun q => q⟩
    | 1 => exact ⟨fun j => .long (μ.2.1 o j), fun q => q⟩
    | t + 2 => exact ⟨fun j => va_rf ((μ.2.2 o j).map (fun i => b + i)), fun q => q⟩
  obtain ⟨z, hz⟩ := key
  refine W.alen X.1 X.2.1 (hz (hP o _ (wl_get ho.1))) ((X.2.2.2.2.2.2.2.2.1.1.2 _ _ ht).1 a9 z) ?_ rfl rfl hd (k H locs lsr hP hT hS h)
  rw [arrV_size]
  rfl
theorem AW.iret (X : CX κ (δ, b, n, nL, sh, tp, Qc, mc, ms) own nm cc (some .int) d) {post : Option Value → Mm → Prop} {v : Int32} (hQ : Qc = MQc δ b n sh N tp post) (hd : decode cc pc = .ok (.ireturn, 1)) (hp : post (some (.int v)) μ) : AW κ (δ, b, n, nL, sh, tp, Qc, mc, ms) N mc ms pc ls [.int v] μ := by
  obtain ⟨p, l, e, R, s, m, args, below, meth, c⟩ := κ
  intro H locs lsr hP hT hS h
  subst hQ
  exact W.iret X.1 X.2.1 X.2.2.2.2.2.2.1 (fun t ht hW => ⟨⟨_, μ, rfl, hp, by rw [ht]; exact hP, fun q => by rw [ht]; exact hT q⟩, hS.F ht⟩) hS.2.2 hd X.2.2.2.2.2.1
theorem AW.zret {ty : FieldType} (X : CX κ (δ, b, n, nL, sh, tp, Qc, mc, ms) own nm cc (some ty) d) {post : Option Value → Mm → Prop} {v : Int32} (hv : narrow ty (.int v) = .int v) (hQ : Qc = MQc δ b n sh N tp post) (hd : decode cc pc = .ok (.ireturn, 1)) (hp : post (some (.int v)) μ) : AW κ (δ, b, n, nL, sh, tp, Qc, mc, ms) N mc ms pc ls [.int v] μ := by
  obtain ⟨p, l, e, R, s, m, args, below, meth, c⟩ := κ
  intro H locs lsr hP hT hS h
  subst hQ
  exact W.zret X.1 X.2.1 X.2.2.2.2.2.2.1 hv (fun t ht hW => ⟨⟨_, μ, rfl, hp, by rw [ht]; exact hP, fun q => by rw [ht]; exact hT q⟩, hS.F ht⟩) hS.2.2 hd X.2.2.2.2.2.1
theorem AW.lret (X : CX κ (δ, b, n, nL, sh, tp, Qc, mc, ms) own nm cc (some .long) d) {post : Option Value → Mm → Prop} {v : Int64} (hQ : Qc = MQc δ b n sh N tp post) (hd : decode cc pc = .ok (.lreturn, 1)) (hp : post (some (.long v)) μ) : AW κ (δ, b, n, nL, sh, tp, Qc, mc, ms) N mc ms pc ls [.long v] μ := by
  obtain ⟨p, l, e, R, s, m, args, below, meth, c⟩ := κ
  intro H locs lsr hP hT hS h
  subst hQ
  exact W.lret X.1 X.2.1 X.2.2.2.2.2.2.1 (fun t ht hW => ⟨⟨_, μ, rfl, hp, by rw [ht]; exact hP, fun q => by rw [ht]; exact hT q⟩, hS.F ht⟩) hS.2.2 hd X.2.2.2.2.2.1
theorem AW.vret (X : CX κ (δ, b, n, nL, sh, tp, Qc, mc, ms) own nm cc (none) d) {post : Option Value → Mm → Prop} (hQ : Qc = MQc δ b n sh N tp post) (hd : decode cc pc = .ok (.return_, 1)) (hp : post (none) μ) : AW κ (δ, b, n, nL, sh, tp, Qc, mc, ms) N mc ms pc ls [] μ := by
  obtain ⟨p, l, e, R, s, m, args, below, meth, c⟩ := κ
  intro H locs lsr hP hT hS h
  subst hQ
  exact W.vret X.1 X.2.1 X.2.2.2.2.2.2.1 (fun t ht hW => ⟨⟨_, μ, rfl, hp, by rw [ht]; exact hP, fun q => by rw [ht]; exact hT q⟩, hS.F ht⟩) hS.2.2 hd X.2.2.2.2.2.1
theorem AW.aret {C : String} (X : CX κ (δ, b, n, nL, sh, tp, Qc, mc, ms) own nm cc (some (.object C)) d) {post : Option Value → Mm → Prop} {v : Nat} (hQ : Qc = MQc δ b n sh N tp post) (hd : decode cc pc = .ok (.areturn, 1)) (hp : post (some (.ref v)) μ) : AW κ (δ, b, n, nL, sh, tp, Qc, mc, ms) N mc ms pc ls [.ref v] μ := by
  obtain ⟨p, l, e, R, s, m, args, below, meth, c⟩ := κ
  intro H locs lsr hP hT hS h
  subst hQ
  exact W.aret X.1 X.2.1 X.2.2.2.2.2.2.1 (Or.inl ⟨C, rfl⟩) (Or.inr ⟨v, rfl⟩) (fun t ht hW => ⟨⟨_, μ, rfl, hp, by rw [ht]; exact hP, fun q => by rw [ht]; exact hT q⟩, hS.F ht⟩) hS.2.2 hd X.2.2.2.2.2.1
theorem nI_adds (a b : Nat) : nI a + nI b = nI (a + b) := nI_add a b
theorem n2_clamp {a : Nat} (h : a < 2147483648) : (nI a).toNatClampNeg = a := nI_clamp h
theorem n2_in {a N : Nat} (h : a < N) (hN : N < 2147483648) : vp_in (nI a) N := vp_in_nI h hN
theorem n2_eq {a b : Nat} (ha : a < 2147483648) (hb : b < 2147483648) : nI a = nI b ↔ a = b := nI_eq ha hb
theorem n2_le {a b : Nat} (ha : a < 2147483648) (hb : b < 2147483648) : nI a ≤ nI b ↔ a ≤ b := nI_leI ha hb
theorem n2_lt {a b : Nat} (ha : a < 2147483648) (hb : b < 2147483648) : nI a < nI b ↔ a < b := nI_ltI ha hb
theorem AW.iconstN (X : CX κ (δ, b, n, nL, sh, tp, Qc, mc, ms) own nm cc ret d) {i : Int} (a : Nat) (hd : decode cc pc = .ok (.iconst i, 1)) (hv : Int32.ofInt i = nI a) (k : AW κ (δ, b, n, nL, sh, tp, Qc, mc, ms) N cells slots (pc + 1) ls (.int (nI a) :: st) μ) : AW κ (δ, b, n, nL, sh, tp, Qc, mc, ms) N cells slots pc ls st μ := by
  obtain ⟨p, l, e, R, s, m, args, below, meth, c⟩ := κ
  intro H locs lsr hP hT hS h
  exact lv_iconst X.1 X.2.1 hd hv (k H locs lsr hP hT hS h)
theorem AW.bipushN (X : CX κ (δ, b, n, nL, sh, tp, Qc, mc, ms) own nm cc ret d) {i : Int} (a : Nat) (hd : decode cc pc = .ok (.bipush i, 2)) (hv : (Int8.ofInt i).toInt32 = nI a) (k : AW κ (δ, b, n, nL, sh, tp, Qc, mc, ms) N cells slots (pc + 2) ls (.int (nI a) :: st) μ) : AW κ (δ, b, n, nL, sh, tp, Qc, mc, ms) N cells slots pc ls st μ := by
  obtain ⟨p, l, e, R, s, m, args, below, meth, c⟩ := κ
  intro H locs lsr hP hT hS h
  exact lv_bipush X.1 X.2.1 hd hv (k H locs lsr hP hT hS h)
theorem AW.sipushN (X : CX κ (δ, b, n, nL, sh, tp, Qc, mc, ms) own nm cc ret d) {i : Int} (a : Nat) (hd : decode cc pc = .ok (.sipush i, 3)) (hv : (Int16.ofInt i).toInt32 = nI a) (k : AW κ (δ, b, n, nL, sh, tp, Qc, mc, ms) N cells slots (pc + 3) ls (.int (nI a) :: st) μ) : AW κ (δ, b, n, nL, sh, tp, Qc, mc, ms) N cells slots pc ls st μ := by
  obtain ⟨p, l, e, R, s, m, args, below, meth, c⟩ := κ
  intro H locs lsr hP hT hS h
  exact lv_sipush X.1 X.2.1 hd hv (k H locs lsr hP hT hS h)
theorem AW.iaddN (X : CX κ (δ, b, n, nL, sh, tp, Qc, mc, ms) own nm cc ret d) {a c : Nat} (hd : decode cc pc = .ok (.iadd, 1)) (k : AW κ (δ, b, n, nL, sh, tp, Qc, mc, ms) N cells slots (pc + 1) ls (.int (nI (a + c)) :: st) μ) : AW κ (δ, b, n, nL, sh, tp, Qc, mc, ms) N cells slots pc ls (.int (nI c) :: .int (nI a) :: st) μ := by
  obtain ⟨p, l, e, R, s, m, args, below, meth, c⟩ := κ
  intro H locs lsr hP hT hS h
  exact lv_iadd X.1 X.2.1 hd (by rw [nI_add]; exact (k H locs lsr hP hT hS h))
theorem AW.imulN (X : CX κ (δ, b, n, nL, sh, tp, Qc, mc, ms) own nm cc ret d) {a c : Nat} (hd : decode cc pc = .ok (.imul, 1)) (k : AW κ (δ, b, n, nL, sh, tp, Qc, mc, ms) N cells slots (pc + 1) ls (.int (nI (a * c)) :: st) μ) : AW κ (δ, b, n, nL, sh, tp, Qc, mc, ms) N cells slots pc ls (.int (nI c) :: .int (nI a) :: st) μ := by
  obtain ⟨p, l, e, R, s, m, args, below, meth, c⟩ := κ
  intro H locs lsr hP hT hS h
  exact lv_imul X.1 X.2.1 hd (by rw [pk_mul]; exact (k H locs lsr hP hT hS h))
theorem AW.isubN (X : CX κ (δ, b, n, nL, sh, tp, Qc, mc, ms) own nm cc ret d) {a c : Nat} (hd : decode cc pc = .ok (.isub, 1)) (hle : c ≤ a) (k : AW κ (δ, b, n, nL, sh, tp, Qc, mc, ms) N cells slots (pc + 1) ls (.int (nI (a - c)) :: st) μ) : AW κ (δ, b, n, nL, sh, tp, Qc, mc, ms) N cells slots pc ls (.int (nI c) :: .int (nI a) :: st) μ := by
  obtain ⟨p, l, e, R, s, m, args, below, meth, c⟩ := κ
  intro H locs lsr hP hT hS h
  exact lv_isub X.1 X.2.1 hd (by rw [pk_sub hle]; exact (k H locs lsr hP hT hS h))
theorem AW.iincN (X : CX κ (δ, b, n, nL, sh, tp, Qc, mc, ms) own nm cc ret d) {k0 a c : Nat} {i : Int} (hd : decode cc pc = .ok (.iinc k0 i, 3)) (hl : ls[k0]? = some (some (.int (nI a)))) (hv : nI a + Int32.ofInt i = nI c) (hl2 : (decide (k0 < nL) && okst ls k0) = true) (k : AW κ (δ, b, n, nL, sh, tp, Qc, mc, ms) N cells slots (pc + 3) (ls.set k0 (some (.int (nI c)))) st μ) : AW κ (δ, b, n, nL, sh, tp, Qc, mc, ms) N cells slots pc ls st μ := AW.iinc X hd hl rfl hl2 (by rw [hv]; exact k)
theorem inc_1 (a : Nat) : nI a + Int32.ofInt 1 = nI (a + 1) := nI_1 a
theorem dec_1 (a : Nat) : nI (a + 1) + Int32.ofInt (-1) = nI a := pk_m1 a
theorem AW.icmp_eqN (X : CX κ (δ, b, n, nL, sh, tp, Qc, mc, ms) own nm cc ret d) {a c : Nat} {off : Int} {tgt : Nat} (hd : decode cc pc = .ok (.if_icmp .eq off, 3)) (ht : (pc : Int) + off = (tgt : Int)) (ha : a < 2147483648) (hc : c < 2147483648) (k1 : a = c → AW κ (δ, b, n, nL, sh, tp, Qc, mc, ms) N cells slots tgt ls st μ) (k2 : a ≠ c → AW κ (δ, b, n, nL, sh, tp, Qc, mc, ms) N cells slots (pc + 3) ls st μ) : AW κ (δ, b, n, nL, sh, tp, Qc, mc, ms) N cells slots pc ls (.int (nI c) :: .int (nI a) :: st) μ := AW.icmp_eq X hd ht (fun q => k1 ((n2_eq ha hc).mp q)) (fun q => k2 (fun z => q ((n2_eq ha hc).mpr z)))
theorem AW.icmp_neN (X : CX κ (δ, b, n, nL, sh, tp, Qc, mc, ms) own nm cc ret d) {a c : Nat} {off : Int} {tgt : Nat} (hd : decode cc pc = .ok (.if_icmp .ne off, 3)) (ht : (pc : Int) + off = (tgt : Int)) (ha : a < 2147483648) (hc : c < 2147483648) (k1 : a ≠ c → AW κ (δ, b, n, nL, sh, tp, Qc, mc, ms) N cells slots tgt ls st μ) (k2 : a = c → AW κ (δ, b, n, nL, sh, tp, Qc, mc, ms) N cells slots (pc + 3) ls st μ) : AW κ (δ, b, n, nL, sh, tp, Qc, mc, ms) N cells slots pc ls (.int (nI c) :: .int (nI a) :: st) μ := AW.icmp_ne X hd ht (fun q => k1 (fun z => q ((n2_eq ha hc).mpr z))) (fun q => k2 ((n2_eq ha hc).mp q))
theorem AW.icmp_ltN (X : CX κ (δ, b, n, nL, sh, tp, Qc, mc, ms) own nm cc ret d) {a c : Nat} {off : Int} {tgt : Nat} (hd : decode cc pc = .ok (.if_icmp .lt off, 3)) (ht : (pc : Int) + off = (tgt : Int)) (ha : a < 2147483648) (hc : c < 2147483648) (k1 : a < c → AW κ (δ, b, n, nL, sh, tp, Qc, mc, ms) N cells slots tgt ls st μ) (k2 : c ≤ a → AW κ (δ, b, n, nL, sh, tp, Qc, mc, ms) N cells slots (pc + 3) ls st μ) : AW κ (δ, b, n, nL, sh, tp, Qc, mc, ms) N cells slots pc ls (.int (nI c) :: .int (nI a) :: st) μ := AW.icmp_lt X hd ht (fun q => k1 ((n2_lt ha hc).mp q)) (fun q => k2 (by have := mt (n2_lt ha hc).mpr q; omega))
theorem AW.icmp_geN (X : CX κ (δ, b, n, nL, sh, tp, Qc, mc, ms) own nm cc ret d) {a c : Nat} {off : Int} {tgt : Nat} (hd : decode cc pc = .ok (.if_icmp .ge off, 3)) (ht : (pc : Int) + off = (tgt : Int)) (ha : a < 2147483648) (hc : c < 2147483648) (k1 : c ≤ a → AW κ (δ, b, n, nL, sh, tp, Qc, mc, ms) N cells slots tgt ls st μ) (k2 : a < c → AW κ (δ, b, n, nL, sh, tp, Qc, mc, ms) N cells slots (pc + 3) ls st μ) : AW κ (δ, b, n, nL, sh, tp, Qc, mc, ms) N cells slots pc ls (.int (nI c) :: .int (nI a) :: st) μ := AW.icmp_ge X hd ht (fun q => k1 ((n2_le hc ha).mp q)) (fun q => k2 (by have := mt (n2_le hc ha).mpr q; omega))
theorem AW.icmp_gtN (X : CX κ (δ, b, n, nL, sh, tp, Qc, mc, ms) own nm cc ret d) {a c : Nat} {off : Int} {tgt : Nat} (hd : decode cc pc = .ok (.if_icmp .gt off, 3)) (ht : (pc : Int) + off = (tgt : Int)) (ha : a < 2147483648) (hc : c < 2147483648) (k1 : c < a → AW κ (δ, b, n, nL, sh, tp, Qc, mc, ms) N cells slots tgt ls st μ) (k2 : a ≤ c → AW κ (δ, b, n, nL, sh, tp, Qc, mc, ms) N cells slots (pc + 3) ls st μ) : AW κ (δ, b, n, nL, sh, tp, Qc, mc, ms) N cells slots pc ls (.int (nI c) :: .int (nI a) :: st) μ := AW.icmp_gt X hd ht (fun q => k1 ((n2_lt hc ha).mp q)) (fun q => k2 (by have := mt (n2_lt hc ha).mpr q; omega))
theorem AW.icmp_leN (X : CX κ (δ, b, n, nL, sh, tp, Qc, mc, ms) own nm cc ret d) {a c : Nat} {off : Int} {tgt : Nat} (hd : decode cc pc = .ok (.if_icmp .le off, 3)) (ht : (pc : Int) + off = (tgt : Int)) (ha : a < 2147483648) (hc : c < 2147483648) (k1 : a ≤ c → AW κ (δ, b, n, nL, sh, tp, Qc, mc, ms) N cells slots tgt ls st μ) (k2 : c < a → AW κ (δ, b, n, nL, sh, tp, Qc, mc, ms) N cells slots (pc + 3) ls st μ) : AW κ (δ, b, n, nL, sh, tp, Qc, mc, ms) N cells slots pc ls (.int (nI c) :: .int (nI a) :: st) μ := AW.icmp_le X hd ht (fun q => k1 ((n2_le ha hc).mp q)) (fun q => k2 (by have := mt (n2_le ha hc).mpr q; omega))
def bI (p : Bool) : Int32 := if p then 1 else 0
theorem bI_0 {p : Bool} : bI p = 0 ↔ p = false := by cases p <;> simp [bI]
theorem bI_t : bI true = 1 := rfl
theorem bI_f : bI false = 0 := rfl
theorem bI_n (p : Bool) : narrow .boolean (.int (bI p)) = .int (bI p) := by cases p <;> rfl
theorem n0_eq {a : Nat} (ha : a < 2147483648) : nI a = 0 ↔ a = 0 := n2_eq (b := 0) ha (by decide)
theorem AW.if_eqB (X : CX κ (δ, b, n, nL, sh, tp, Qc, mc, ms) own nm cc ret d) {p : Bool} {off : Int} {tgt : Nat} (hd : decode cc pc = .ok (.ifCond .eq off, 3)) (ht : (pc : Int) + off = (tgt : Int)) (k1 : p = false → AW κ (δ, b, n, nL, sh, tp, Qc, mc, ms) N cells slots tgt ls st μ) (k2 : p = true → AW κ (δ, b, n, nL, sh, tp, Qc, mc, ms) N cells slots (pc + 3) ls st μ) : AW κ (δ, b, n, nL, sh, tp, Qc, mc, ms) N cells slots pc ls (.int (bI p) :: st) μ := AW.if_eq X hd ht (fun q => k1 (bI_0.mp q)) (fun q => k2 (by cases p <;> simp [bI] at q ⊢))
theorem AW.if_eqN (X : CX κ (δ, b, n, nL, sh, tp, Qc, mc, ms) own nm cc ret d) {a : Nat} {off : Int} {tgt : Nat} (hd : decode cc pc = .ok (.ifCond .eq off, 3)) (ht : (pc : Int) + off = (tgt : Int)) (ha : a < 2147483648) (k1 : a = 0 → AW κ (δ, b, n, nL, sh, tp, Qc, mc, ms) N cells slots tgt ls st μ) (k2 : a ≠ 0 → AW κ (δ, b, n, nL, sh, tp, Qc, mc, ms) N cells slots (pc + 3) ls st μ) : AW κ (δ, b, n, nL, sh, tp, Qc, mc, ms) N cells slots pc ls (.int (nI a) :: st) μ := AW.if_eq X hd ht (fun q => k1 ((n0_eq ha).mp q)) (fun q => k2 (fun z => q ((n0_eq ha).mpr z)))
theorem AW.if_neB (X : CX κ (δ, b, n, nL, sh, tp, Qc, mc, ms) own nm cc ret d) {p : Bool} {off : Int} {tgt : Nat} (hd : decode cc pc = .ok (.ifCond .ne off, 3)) (ht : (pc : Int) + off = (tgt : Int)) (k1 : p = true → AW κ (δ, b, n, nL, sh, tp, Qc, mc, ms) N cells slots tgt ls st μ) (k2 : p = false → AW κ (δ, b, n, nL, sh, tp, Qc, mc, ms) N cells slots (pc + 3) ls st μ) : AW κ (δ, b, n, nL, sh, tp, Qc, mc, ms) N cells slots pc ls (.int (bI p) :: st) μ := AW.if_ne X hd ht (fun q => k1 (by cases p <;> simp [bI] at q ⊢)) (fun q => k2 (bI_0.mp q))
theorem AW.if_neN (X : CX κ (δ, b, n, nL, sh, tp, Qc, mc, ms) own nm cc ret d) {a : Nat} {off : Int} {tgt : Nat} (hd : decode cc pc = .ok (.ifCond .ne off, 3)) (ht : (pc : Int) + off = (tgt : Int)) (ha : a < 2147483648) (k1 : a ≠ 0 → AW κ (δ, b, n, nL, sh, tp, Qc, mc, ms) N cells slots tgt ls st μ) (k2 : a = 0 → AW κ (δ, b, n, nL, sh, tp, Qc, mc, ms) N cells slots (pc + 3) ls st μ) : AW κ (δ, b, n, nL, sh, tp, Qc, mc, ms) N cells slots pc ls (.int (nI a) :: st) μ := AW.if_ne X hd ht (fun q => k1 (fun z => q ((n0_eq ha).mpr z))) (fun q => k2 ((n0_eq ha).mp q))
theorem AW.if_ltN (X : CX κ (δ, b, n, nL, sh, tp, Qc, mc, ms) own nm cc ret d) {a : Nat} {off : Int} {tgt : Nat} (hd : decode cc pc = .ok (.ifCond .lt off, 3)) (ht : (pc : Int) + off = (tgt : Int)) (ha : a < 2147483648) (k1 : False → AW κ (δ, b, n, nL, sh, tp, Qc, mc, ms) N cells slots tgt ls st μ) (k2 : True → AW κ (δ, b, n, nL, sh, tp, Qc, mc, ms) N cells slots (pc + 3) ls st μ) : AW κ (δ, b, n, nL, sh, tp, Qc, mc, ms) N cells slots pc ls (.int (nI a) :: st) μ := AW.if_lt X hd ht (fun q => k1 (by have := (n2_lt (b := 0) ha (by decide)).mp q; omega)) (fun q => k2 trivial)
theorem AW.if_geN (X : CX κ (δ, b, n, nL, sh, tp, Qc, mc, ms) own nm cc ret d) {a : Nat} {off : Int} {tgt : Nat} (hd : decode cc pc = .ok (.ifCond .ge off, 3)) (ht : (pc : Int) + off = (tgt : Int)) (ha : a < 2147483648) (k1 : True → AW κ (δ, b, n, nL, sh, tp, Qc, mc, ms) N cells slots tgt ls st μ) (k2 : False → AW κ (δ, b, n, nL, sh, tp, Qc, mc, ms) N cells slots (pc + 3) ls st μ) : AW κ (δ, b, n, nL, sh, tp, Qc, mc, ms) N cells slots pc ls (.int (nI a) :: st) μ := AW.if_ge X hd ht (fun q => k1 trivial) (fun q => k2 (by have := mt (n2_le (a := 0) (by decide) ha).mpr q; omega))
theorem AW.if_gtN (X : CX κ (δ, b, n, nL, sh, tp, Qc, mc, ms) own nm cc ret d) {a : Nat} {off : Int} {tgt : Nat} (hd : decode cc pc = .ok (.ifCond .gt off, 3)) (ht : (pc : Int) + off = (tgt : Int)) (ha : a < 2147483648) (k1 : 0 < a → AW κ (δ, b, n, nL, sh, tp, Qc, mc, ms) N cells slots tgt ls st μ) (k2 : a = 0 → AW κ (δ, b, n, nL, sh, tp, Qc, mc, ms) N cells slots (pc + 3) ls st μ) : AW κ (δ, b, n, nL, sh, tp, Qc, mc, ms) N cells slots pc ls (.int (nI a) :: st) μ := AW.if_gt X hd ht (fun q => k1 ((n2_lt (a := 0) (by decide) ha).mp q)) (fun q => k2 (by have := mt (n2_lt (a := 0) (by decide) ha).mpr q; omega))
theorem AW.if_leN (X : CX κ (δ, b, n, nL, sh, tp, Qc, mc, ms) own nm cc ret d) {a : Nat} {off : Int} {tgt : Nat} (hd : decode cc pc = .ok (.ifCond .le off, 3)) (ht : (pc : Int) + off = (tgt : Int)) (ha : a < 2147483648) (k1 : a = 0 → AW κ (δ, b, n, nL, sh, tp, Qc, mc, ms) N cells slots tgt ls st μ) (k2 : 0 < a → AW κ (δ, b, n, nL, sh, tp, Qc, mc, ms) N cells slots (pc + 3) ls st μ) : AW κ (δ, b, n, nL, sh, tp, Qc, mc, ms) N cells slots pc ls (.int (nI a) :: st) μ := AW.if_le X hd ht (fun q => k1 (by have := (n2_le (b := 0) ha (by decide)).mp q; omega)) (fun q => k2 (by have := mt (n2_le (b := 0) ha (by decide)).mpr q; omega))
/-- the forms of a contract's end -/
def pI (q : Int32 → Mm → Prop) : Option Value → Mm → Prop := fun v μ => ∃ r, v = some (.int r) ∧ q r μ
def pL (q : Int64 → Mm → Prop) : Option Value → Mm → Prop := fun v μ => ∃ r, v = some (.long r) ∧ q r μ
def pV (q : Mm → Prop) : Option Value → Mm → Prop := fun v μ => v = none ∧ q μ
def pA (q : Nat → Mm → Prop) : Option Value → Mm → Prop := fun v μ => ∃ r, v = some (.ref r) ∧ q r μ
end ROWS
end
section
theorem la_len : ∀ vs : List Value, (lg_sl vs).length = (la vs).length
  | [] => rfl
  | v :: r => by
    have ih := la_len r
    unfold lg_sl at ih ⊢
    rw [List.flatMap_cons, List.length_append, ih, la]
    split
    · simp only [List.length_cons, List.length_nil]; omega
    · simp only [List.length_cons, List.length_nil]; omega
theorem KS.at {δ : Dl} {b n : Nat} {s U : State} {H : Heap} {locs : List Loc} (h : KS δ (RG b n) s s.heap) (hS : va_S (RG b n) s.heap H locs) (hU : U.heap = H) (hW : s.WarmedH U.vm) : KS δ (RG b n) U U.heap := by
  rw [hU]
  exact vk_S.moved hW.alike (vk_S.kept h hS.2.1)
theorem MC.intro {l : Launch} {δ : Dl} {b n : Nat} {sh : Sh} {tp : Prop} {y : MethodName} {bytes : ByteArray} {nL : Nat} {ret : Option FieldType} {d mc ms N N' : Nat} {av : List Value} {μ : Mm} {post : Option Value → Mm → Prop} (ls : List (Option Value)) (hy : plainName y.cls = true) (hls : la av ++ List.replicate (nL - (la av).length) none = ls) (hlen : Nat.ble (la av).length nL = true)
    (body : ∀ (κ : Kt) (Qc : Array Value → State → Outcome → State → Prop), κ.2.1 = l → Qc = MQc δ b n sh N' tp post → CX κ (δ, b, n, nL, sh, tp, Qc, mc, ms) y.cls y.name bytes ret d → AW κ (δ, b, n, nL, sh, tp, Qc, mc, ms) N 0 0 0 ls [] μ) : MC l δ b n sh tp y bytes nL ret d mc ms N N' av μ post := by
  refine Met.ofW (cc := bytes) (maxL := nL) (ret := ret) hy rfl ?_
  intro p e s m args below meth c s₁ B hml hv
  obtain ⟨rfl, hP, hT, hK, hS⟩ := hv
  have hw := body (p, l, e, rmD d mc ms, s, m, av.toArray, below, meth, c) _ rfl rfl ⟨B.exec, B.bytes, hml, findClass_of_methodNamed B.named, fun w hw => atoms_spec (ws := Cond.code y bytes nL ret :: TT) B.pre w (List.mem_cons_of_mem _ hw), B.notSynchronized, B.returns, (name_of_methodNamed B.named B.method).1, hK, hS, rfl⟩
  rw [lg_entry_eq]
  refine hw s.heap [] _ hP hT va_S.rf ?_
  have he := lv_entry av (n := nL) (by rw [la_len]; exact Nat.le_of_ble_eq_true hlen)
  refine lh_sub he fun i v hi => ?_
  rw [← hls] at hi
  have := la_args av 0 i _ v hi
  simpa using this
section CALLS
variable {κ : Kt} {δ : Dl} {b n nL : Nat} {sh : Sh} {tp : Prop} {Qc : Array Value → State → Outcome → State → Prop} {mc ms d : Nat} {own nm : String} {cc : ByteArray} {ret : Option FieldType} {N cells slots pc : Nat} {ls : List (Option Value)} {st st0 : List Value} {μ : Mm}
variable {idx : Nat} {y' : MethodName} {bytes : ByteArray} {maxL : Nat} {ret' : Option FieldType} {d' mc' ms' N2 k0 : Nat} {av : List Value} {post : Option Value → Mm → Prop}
theorem run_core {p : Program} {l : Launch} {e : Env} {R : Room} {s : State} {m : MethodId} {args : Array Value} {below : List Frame} {meth : Method} {c : Code} {H : Heap} {locs : List Loc} {lsr : Array Slot} {Q : State → Prop} {a : Array Value}
    (hr : va_Run p l e R s m args below meth c H locs cells slots mc' ms' (F0 m pc lsr st0) st (MQc δ b n sh N2 tp post a) (RG b n)) (hS : va_S (RG b n) s.heap H locs)
    (kk : ∀ (v : Option Value) (μ' : Mm) (H1 : Heap) (locs1 : List Loc), post v μ' → va_P δ.1 vwCl (wl δ b sh N2 μ') H1 → (tp → H1.size = b + N2) → va_S (RG b n) s.heap H1 locs1 → W p l e R s m args below meth c H1 locs1 (cells + mc') (slots + ms') Q (F0 m (pc + 3) lsr (v.toList ++ st))) : W p l e R s m args below meth c H locs cells slots Q (F0 m pc lsr st0) := by
  intro T hT X
  obtain ⟨v, st₀, t, T', L, h0, X', hL, e1, e2, ⟨⟨v', μ', hv, hp, hb, hz0⟩, hz, hk⟩, step⟩ := hr T hT X
  cases hv
  rw [h0] at hz hk
  rw [← e1] at hz hk hb hz0
  obtain ⟨t2, a1, b1⟩ := kk v μ' T'.heap (locs ++ L) hp hb hz0 ⟨Nat.le_trans hS.1 hz, fun q h1 h2 => (hk q (Nat.lt_of_lt_of_le h1 hS.1) h2).trans (hS.2.1 q h1 h2), fun q hq => by
    rcases List.mem_append.mp hq with h | h
    · exact hS.2.2 q h
    · exact hL q h⟩ T' rfl X'
  exact ⟨t2, step t2 a1, b1⟩
theorem pc_blind (av : List Value) (μ : Mm) (tp : Prop) (N : Nat) : FrameBlind (va_Pc av (fun U => va_P δ.1 vwCl (wl δ b sh N μ) U.heap ∧ (tp → U.heap.size = b + N) ∧ KX δ U ∧ KS δ (RG b n) U U.heap)) := fun a U g mk q => ⟨q.1, q.2.1, q.2.2.1, KX.same (u := U) (U := U.calling g mk a) rfl q.2.2.2.1, vk_S.moved (u := U) (U := U.calling g mk a) (Vm.Alike.refl U.vm) q.2.2.2.2⟩
/-- what a call asks of the tables: by invokevirtual on an object of C, of a method of C -/
def LV (own : String) (idx : Nat) (C : String) (y' : MethodName) (bytes : ByteArray) (maxL : Nat) (ret' : Option FieldType) (k0 : Nat) : Prop :=
  Cond.methodLink own idx y' ∈ TT ∧ Cond.instanceMethod y' ∈ TT ∧ Cond.selects C y' y' ∈ TT ∧ Cond.initialized C ∈ TT ∧ Cond.code y' bytes maxL ret' ∈ TT ∧ maxL ≤ 45 ∧ (y'.cls = C ∧ y'.cls ≠ "java/lang/invoke/MethodHandle" ∧ y'.cls ≠ "java/lang/invoke/VarHandle" ∧ (parseMethodDescriptor y'.desc).map (fun d => d.parameters.length) = some k0)
/-- invokestatic -/
def LSt (own : String) (idx : Nat) (y' : MethodName) (bytes : ByteArray) (maxL : Nat) (ret' : Option FieldType) (k0 : Nat) : Prop :=
  Cond.methodLink own idx y' ∈ TT ∧ Cond.static y' ∈ TT ∧ Cond.initialized y'.cls ∈ TT ∧ Cond.code y' bytes maxL ret' ∈ TT ∧ maxL ≤ 45 ∧ (y'.cls ≠ "java/lang/invoke/MethodHandle" ∧ y'.cls ≠ "java/lang/invoke/VarHandle" ∧ (parseMethodDescriptor y'.desc).map (fun d => d.parameters.length) = some k0)
/-- invokestatic of a nest mate's private method -/
def LSN (own : String) (idx : Nat) (y' : MethodName) (host : String) (bytes : ByteArray) (maxL : Nat) (ret' : Option FieldType) (k0 : Nat) : Prop :=
  Cond.methodLinkNest own idx y' host ∈ NW ∧ Cond.static y' ∈ TT ∧ Cond.initialized y'.cls ∈ TT ∧ Cond.code y' bytes maxL ret' ∈ TT ∧ maxL ≤ 45 ∧ (y'.cls ≠ "java/lang/invoke/MethodHandle" ∧ y'.cls ≠ "java/lang/invoke/VarHandle" ∧ (parseMethodDescriptor y'.desc).map (fun d => d.parameters.length) = some k0)
/-- invokevirtual of x on an object of C that inherits or overrides it: y' runs -/
def LU (own : String) (idx : Nat) (C owner : String) (x y' : MethodName) (bytes : ByteArray) (maxL : Nat) (ret' : Option FieldType) (k0 : Nat) : Prop :=
  (Cond.methodLink own idx x ∈ TT ∧ Cond.sameMethod x.cls owner x.name x.desc ∈ TT ∧ Cond.selects C x y' ∈ TT ∧ Cond.instanceMethod y' ∈ TT ∧ Cond.initialized y'.cls ∈ TT ∧ Cond.code y' bytes maxL ret' ∈ TT ∧ maxL ≤ 45) ∧ (y' = ⟨owner, x.name, x.desc⟩ ∨ (Cond.instanceMethod ⟨owner, x.name, x.desc⟩ ∈ TT ∧ ∃ (b0 : ByteArray) (m0 : Nat) (r0 : Option FieldType), Cond.code ⟨owner, x.name, x.desc⟩ b0 m0 r0 ∈ TT)) ∧ (owner ≠ "java/lang/invoke/MethodHandle" ∧ owner ≠ "java/lang/invoke/VarHandle" ∧ (parseMethodDescriptor x.desc).map (fun d => d.parameters.length) = some k0)
/-- super.y' -/
def LSU (own : String) (idx : Nat) (y' : MethodName) (bytes : ByteArray) (maxL : Nat) (ret' : Option FieldType) (k0 : Nat) : Prop :=
  Cond.methodLink own idx y' ∈ TT ∧ Cond.sameMethod y'.cls y'.cls y'.name y'.desc ∈ TT ∧ Cond.superclass own y'.cls ∈ TT ∧ Cond.instanceMethod y' ∈ TT ∧ Cond.initialized y'.cls ∈ TT ∧ Cond.code y' bytes maxL ret' ∈ TT ∧ maxL ≤ 45 ∧ (y'.name ≠ "<init>" ∧ (parseMethodDescriptor y'.desc).map (fun d => d.parameters.length) = some k0)
/-- a constructor -/
def LI (own : String) (idx : Nat) (y' : MethodName) (bytes : ByteArray) (maxL : Nat) (k0 : Nat) : Prop :=
  Cond.methodLink own idx y' ∈ TT ∧ Cond.instanceMethod y' ∈ TT ∧ Cond.initialized y'.cls ∈ TT ∧ Cond.code y' bytes maxL none ∈ TT ∧ maxL ≤ 45 ∧ y'.name = "<init>" ∧ (y'.cls ≠ "java/lang/invoke/MethodHandle" ∧ y'.cls ≠ "java/lang/invoke/VarHandle" ∧ (parseMethodDescriptor y'.desc).map (fun d => d.parameters.length) = some k0)
/-- a nest mate's private constructor -/
def LIN (own : String) (idx : Nat) (y' : MethodName) (host : String) (bytes : ByteArray) (maxL : Nat) (k0 : Nat) : Prop :=
  Cond.methodLinkNest own idx y' host ∈ NW ∧ Cond.instanceMethod y' ∈ TT ∧ Cond.initialized y'.cls ∈ TT ∧ Cond.code y' bytes maxL none ∈ TT ∧ maxL ≤ 45 ∧ y'.name = "<init>" ∧ (y'.cls ≠ "java/lang/invoke/MethodHandle" ∧ y'.cls ≠ "java/lang/invoke/VarHandle" ∧ (parseMethodDescriptor y'.desc).map (fun d => d.parameters.length) = some k0)
theorem rm_fit {d d' mc ms mc' ms' maxL : Nat} (h : d' + 1 ≤ d) (hm : maxL ≤ 45) : (rmD d' mc' ms').frames + 1 ≤ (rmD d mc ms).frames ∧ 8 + (maxL + 11) + (rmD d' mc' ms').locals ≤ (rmD d mc ms).locals := by
  unfold rmD
  dsimp only
  omega
theorem cat_fit {m : MethodId} {pc : Nat} {lsr : Array Slot} {st0 st : List Value} (h : (st.map fun v => v.category).sum ≤ 8) : 2 * (F0 m pc lsr st0).monitorRoom + (st.map fun v => v.category).sum ≤ 8 := lv_room h
theorem AW.callV (X : CX κ (δ, b, n, nL, sh, tp, Qc, mc, ms) own nm cc ret d) {C : String} {T : u_T} {o ci : Nat} (hd : decode cc pc = .ok (.invokevirtual idx, 3)) (L : LV own idx C y' bytes maxL ret' k0) (hC : CF ci C T) (hM : MC κ.2.1 δ b n sh tp y' bytes maxL ret' d' mc' ms' N N2 (.ref (b + o) :: av) μ post) (ho : OB sh N o ci) (hav : av.length = k0) (hst : st0 = av.reverse ++ .ref (b + o) :: st) (hcat : Nat.ble (st.map fun v => v.category).sum 8 = true) (hd' : Nat.ble (d' + 1) d = true) (hr : Nat.ble (cells + mc') mc = true ∧ Nat.ble (slots + ms') ms = true)
    (kk : ∀ (v : Option Value) (μ' : Mm), post v μ' → AW κ (δ, b, n, nL, sh, tp, Qc, mc, ms) N2 (cells + mc') (slots + ms') (pc + 3) ls (v.toList ++ st) μ') : AW κ (δ, b, n, nL, sh, tp, Qc, mc, ms) N cells slots pc ls st0 μ := by
  obtain ⟨p, l, e, R, s, m, args, below, meth, c⟩ := κ
  intro H locs lsr hP hT hS h
  subst hst
  obtain ⟨x1, x2, x3, x4, hts, x6, x7, x8, hK, hKS, hR⟩ := X
  obtain ⟨l1, l2, l3, l4, l5, l6, l7⟩ := L
  subst hR
  refine run_core (va_runV (As := av) (rest := st) ⟨x1, x2, x3, x4, hts⟩ hM (cwV k0 hts (fun w hw => ?_) rfl rfl rfl l7 (rm_fit (Nat.le_of_ble_eq_true hd') l6)) ⟨pc_blind _ _ _ _, va_recv hK.1 hP hC.1 (ob_get ho), fun U hU hW => ⟨rfl, by rw [hU]; exact hP, by rw [hU]; exact hT, KX.warm hW hK, KS.at hKS hS hU hW⟩⟩ rfl hav h.1 rfl (cat_fit (Nat.le_of_ble_eq_true hcat)) hd ⟨Nat.le_of_ble_eq_true hr.1, Nat.le_of_ble_eq_true hr.2⟩) hS (fun v μ' H1 locs1 hp hP1 hT1 hS1 => kk v μ' hp H1 locs1 lsr hP1 hT1 hS1 h)
  have key : w ∈ TT := by
    simp only [wsV, List.cons_append, List.nil_append, List.mem_cons] at hw
    rcases hw with rfl | rfl | rfl | rfl | rfl | hw <;> assumption
  exact ⟨key, tt_good key⟩
theorem AW.callS (X : CX κ (δ, b, n, nL, sh, tp, Qc, mc, ms) own nm cc ret d) (hd : decode cc pc = .ok (.invokestatic idx, 3)) (L : LSt own idx y' bytes maxL ret' k0) (hM : MC κ.2.1 δ b n sh tp y' bytes maxL ret' d' mc' ms' N N2 av μ post) (hav : av.length = k0) (hst : st0 = av.reverse ++ st) (hcat : Nat.ble (st.map fun v => v.category).sum 8 = true) (hd' : Nat.ble (d' + 1) d = true) (hr : Nat.ble (cells + mc') mc = true ∧ Nat.ble (slots + ms') ms = true)
    (kk : ∀ (v : Option Value) (μ' : Mm), post v μ' → AW κ (δ, b, n, nL, sh, tp, Qc, mc, ms) N2 (cells + mc') (slots + ms') (pc + 3) ls (v.toList ++ st) μ') : AW κ (δ, b, n, nL, sh, tp, Qc, mc, ms) N cells slots pc ls st0 μ := by
  obtain ⟨p, l, e, R, s, m, args, below, meth, c⟩ := κ
  intro H locs lsr hP hT hS h
  subst hst
  obtain ⟨x1, x2, x3, x4, hts, x6, x7, x8, hK, hKS, hR⟩ := X
  obtain ⟨l1, l2, l3, l4, l5, l6⟩ := L
  subst hR
  refine run_core (va_runS (As := av) (rest := st) ⟨x1, x2, x3, x4, hts⟩ hM (va_cwS k0 hts (fun w hw => ?_) rfl rfl rfl l6 (rm_fit (Nat.le_of_ble_eq_true hd') l5)) ⟨pc_blind _ _ _ _, fun U hU hW => ⟨rfl, by rw [hU]; exact hP, by rw [hU]; exact hT, KX.warm hW hK, KS.at hKS hS hU hW⟩⟩ rfl hav h.1 rfl (cat_fit (Nat.le_of_ble_eq_true hcat)) hd ⟨Nat.le_of_ble_eq_true hr.1, Nat.le_of_ble_eq_true hr.2⟩) hS (fun v μ' H1 locs1 hp hP1 hT1 hS1 => kk v μ' hp H1 locs1 lsr hP1 hT1 hS1 h)
  have key : w ∈ TT := by
    simp only [va_wsS, List.cons_append, List.nil_append, List.mem_cons] at hw
    rcases hw with rfl | rfl | rfl | rfl | hw <;> assumption
  exact ⟨key, tt_good key⟩
theorem AW.callSN (X : CX κ (δ, b, n, nL, sh, tp, Qc, mc, ms) own nm cc ret d) {host : String} (hd : decode cc pc = .ok (.invokestatic idx, 3)) (L : LSN own idx y' host bytes maxL ret' k0) (hM : MC κ.2.1 δ b n sh tp y' bytes maxL ret' d' mc' ms' N N2 av μ post) (hav : av.length = k0) (hst : st0 = av.reverse ++ st) (hcat : Nat.ble (st.map fun v => v.category).sum 8 = true) (hd' : Nat.ble (d' + 1) d = true) (hr : Nat.ble (cells + mc') mc = true ∧ Nat.ble (slots + ms') ms = true)
    (kk : ∀ (v : Option Value) (μ' : Mm), post v μ' → AW κ (δ, b, n, nL, sh, tp, Qc, mc, ms) N2 (cells + mc') (slots + ms') (pc + 3) ls (v.toList ++ st) μ') : AW κ (δ, b, n, nL, sh, tp, Qc, mc, ms) N cells slots pc ls st0 μ := by
  obtain ⟨p, l, e, R, s, m, args, below, meth, c⟩ := κ
  intro H locs lsr hP hT hS h
  subst hst
  obtain ⟨x1, x2, x3, x4, hts, x6, x7, x8, hK, hKS, hR⟩ := X
  obtain ⟨l1, l2, l3, l4, l5, l6⟩ := L
  subst hR
  exact run_core (va_runSN (As := av) (rest := st) ⟨x1, x2, x3, x4, hts⟩ hM ⟨va_cnB k0 hts (tt_goodIn l4) rfl rfl rfl (hK.2.1 _ l1) (hts _ l3) l6 (rm_fit (Nat.le_of_ble_eq_true hd') l5), hts _ l2, trivial⟩ ⟨pc_blind _ _ _ _, fun U hU hW => ⟨rfl, by rw [hU]; exact hP, by rw [hU]; exact hT, KX.warm hW hK, KS.at hKS hS hU hW⟩⟩ rfl hav h.1 rfl (cat_fit (Nat.le_of_ble_eq_true hcat)) hd ⟨Nat.le_of_ble_eq_true hr.1, Nat.le_of_ble_eq_true hr.2⟩) hS (fun v μ' H1 locs1 hp hP1 hT1 hS1 => kk v μ' hp H1 locs1 lsr hP1 hT1 hS1 h)
theorem AW.callU (X : CX κ (δ, b, n, nL, sh, tp, Qc, mc, ms) own nm cc ret d) {C owner : String} {T : u_T} {x : MethodName} {o ci : Nat} (hd : decode cc pc = .ok (.invokevirtual idx, 3)) (L : LU own idx C owner x y' bytes maxL ret' k0) (hC : CF ci C T) (hM : MC κ.2.1 δ b n sh tp y' bytes maxL ret' d' mc' ms' N N2 (.ref (b + o) :: av) μ post) (ho : OB sh N o ci) (hav : av.length = k0) (hst : st0 = av.reverse ++ .ref (b + o) :: st) (hcat : Nat.ble (st.map fun v => v.category).sum 8 = true) (hd' : Nat.ble (d' + 1) d = true) (hr : Nat.ble (cells + mc') mc = true ∧ Nat.ble (slots + ms') ms = true)
    (kk : ∀ (v : Option Value) (μ' : Mm), post v μ' → AW κ (δ, b, n, nL, sh, tp, Qc, mc, ms) N2 (cells + mc') (slots + ms') (pc + 3) ls (v.toList ++ st) μ') : AW κ (δ, b, n, nL, sh, tp, Qc, mc, ms) N cells slots pc ls st0 μ := by
  obtain ⟨p, l, e, R, s, m, args, below, meth, c⟩ := κ
  intro H locs lsr hP hT hS h
  subst hst
  obtain ⟨x1, x2, x3, x4, hts, x6, x7, x8, hK, hKS, hR⟩ := X
  obtain ⟨⟨l1, l2, l3, l4, l5, l6, l7⟩, l8, l9⟩ := L
  subst hR
  have cu : va_CU (rmD d mc ms) s args own C owner idx x y' bytes maxL ret' (Cond.code y' bytes maxL ret' :: TT) (rmD d' mc' ms') mc' ms' k0 := by
    rcases l8 with l8 | ⟨l8, b0, m0, r0, l10⟩
    · refine va_cwU k0 hts (fun w hw => ?_) rfl rfl rfl l8 l9 (rm_fit (Nat.le_of_ble_eq_true hd') l7)
      have key : w ∈ TT := by
        simp only [va_wsU, List.cons_append, List.nil_append, List.mem_cons] at hw
        rcases hw with rfl | rfl | rfl | rfl | rfl | rfl | hw <;> assumption
      exact ⟨key, tt_good key⟩
    · refine va_cwO k0 hts (fun w hw => ?_) rfl rfl rfl l10 l9 (rm_fit (Nat.le_of_ble_eq_true hd') l7)
      have key : w ∈ TT := by
        simp only [va_wsO, List.cons_append, List.nil_append, List.mem_cons] at hw
        rcases hw with rfl | rfl | rfl | rfl | rfl | rfl | rfl | hw <;> assumption
      exact ⟨key, tt_good key⟩
  exact run_core (va_runU (As := av) (rest := st) ⟨x1, x2, x3, x4, hts⟩ hM cu ⟨pc_blind _ _ _ _, va_recv hK.1 hP hC.1 (ob_get ho), fun U hU hW => ⟨rfl, by rw [hU]; exact hP, by rw [hU]; exact hT, KX.warm hW hK, KS.at hKS hS hU hW⟩⟩ rfl hav h.1 rfl (cat_fit (Nat.le_of_ble_eq_true hcat)) hd ⟨Nat.le_of_ble_eq_true hr.1, Nat.le_of_ble_eq_true hr.2⟩) hS (fun v μ' H1 locs1 hp hP1 hT1 hS1 => kk v μ' hp H1 locs1 lsr hP1 hT1 hS1 h)
theorem AW.callSU (X : CX κ (δ, b, n, nL, sh, tp, Qc, mc, ms) own nm cc ret d) {C : String} {T : u_T} {o ci : Nat} (hd : decode cc pc = .ok (.invokespecial idx, 3)) (L : LSU own idx y' bytes maxL ret' k0) (hC : CF ci C T) (hM : MC κ.2.1 δ b n sh tp y' bytes maxL ret' d' mc' ms' N N2 (.ref (b + o) :: av) μ post) (ho : OB sh N o ci) (hav : av.length = k0) (hst : st0 = av.reverse ++ .ref (b + o) :: st) (hcat : Nat.ble (st.map fun v => v.category).sum 8 = true) (hd' : Nat.ble (d' + 1) d = true) (hr : Nat.ble (cells + mc') mc = true ∧ Nat.ble (slots + ms') ms = true)
    (kk : ∀ (v : Option Value) (μ' : Mm), post v μ' → AW κ (δ, b, n, nL, sh, tp, Qc, mc, ms) N2 (cells + mc') (slots + ms') (pc + 3) ls (v.toList ++ st) μ') : AW κ (δ, b, n, nL, sh, tp, Qc, mc, ms) N cells slots pc ls st0 μ := by
  obtain ⟨p, l, e, R, s, m, args, below, meth, c⟩ := κ
  intro H locs lsr hP hT hS h
  subst hst
  obtain ⟨x1, x2, x3, x4, hts, x6, x7, x8, hK, hKS, hR⟩ := X
  obtain ⟨l1, l2, l3, l4, l5, l6, l7, l8⟩ := L
  subst hR
  refine run_core (va_runSU (As := av) (rest := st) (hK.1.1 ci _ hC.1).2 ⟨x1, x2, x3, x4, hts⟩ hM (va_cwSU k0 hts (fun w hw => ?_) rfl rfl rfl l8 (rm_fit (Nat.le_of_ble_eq_true hd') l7)) ⟨pc_blind _ _ _ _, va_recv hK.1 hP hC.1 (ob_get ho), fun U hU hW => ⟨rfl, by rw [hU]; exact hP, by rw [hU]; exact hT, KX.warm hW hK, KS.at hKS hS hU hW⟩⟩ rfl hav h.1 rfl (cat_fit (Nat.le_of_ble_eq_true hcat)) hd ⟨Nat.le_of_ble_eq_true hr.1, Nat.le_of_ble_eq_true hr.2⟩) hS (fun v μ' H1 locs1 hp hP1 hT1 hS1 => kk v μ' hp H1 locs1 lsr hP1 hT1 hS1 h)
  have key : w ∈ TT := by
    simp only [va_wsSU, List.cons_append, List.nil_append, List.mem_cons] at hw
    rcases hw with rfl | rfl | rfl | rfl | rfl | rfl | hw <;> assumption
  exact ⟨key, tt_good key⟩
theorem AW.callI (X : CX κ (δ, b, n, nL, sh, tp, Qc, mc, ms) own nm cc ret d) {o : Nat} (hd : decode cc pc = .ok (.invokespecial idx, 3)) (L : LI own idx y' bytes maxL k0) (hM : MC κ.2.1 δ b n sh tp y' bytes maxL none d' mc' ms' N N2 (.ref (b + o) :: av) μ post) (hav : av.length = k0) (hst : st0 = av.reverse ++ .ref (b + o) :: st) (hcat : Nat.ble (st.map fun v => v.category).sum 8 = true) (hd' : Nat.ble (d' + 1) d = true) (hr : Nat.ble (cells + mc') mc = true ∧ Nat.ble (slots + ms') ms = true)
    (kk : ∀ (v : Option Value) (μ' : Mm), post v μ' → AW κ (δ, b, n, nL, sh, tp, Qc, mc, ms) N2 (cells + mc') (slots + ms') (pc + 3) ls (v.toList ++ st) μ') : AW κ (δ, b, n, nL, sh, tp, Qc, mc, ms) N cells slots pc ls st0 μ := by
  obtain ⟨p, l, e, R, s, m, args, below, meth, c⟩ := κ
  intro H locs lsr hP hT hS h
  subst hst
  obtain ⟨x1, x2, x3, x4, hts, x6, x7, x8, hK, hKS, hR⟩ := X
  obtain ⟨l1, l2, l3, l4, l5, l6, l7⟩ := L
  subst hR
  exact run_core (va_runI (As := av) (rest := st) ⟨x1, x2, x3, x4, hts⟩ hM ⟨callB_of k0 hts (tt_goodIn l4) rfl rfl rfl (hts _ l3) (hts _ l1) l7 (rm_fit (Nat.le_of_ble_eq_true hd') l5), l6, hts _ l2⟩ ⟨pc_blind _ _ _ _, fun U hU hW => ⟨rfl, by rw [hU]; exact hP, by rw [hU]; exact hT, KX.warm hW hK, KS.at hKS hS hU hW⟩⟩ rfl hav h.1 rfl (cat_fit (Nat.le_of_ble_eq_true hcat)) hd ⟨Nat.le_of_ble_eq_true hr.1, Nat.le_of_ble_eq_true hr.2⟩) hS (fun v μ' H1 locs1 hp hP1 hT1 hS1 => kk v μ' hp H1 locs1 lsr hP1 hT1 hS1 h)
theorem AW.callIN (X : CX κ (δ, b, n, nL, sh, tp, Qc, mc, ms) own nm cc ret d) {host : String} {o : Nat} (hd : decode cc pc = .ok (.invokespecial idx, 3)) (L : LIN own idx y' host bytes maxL k0) (hM : MC κ.2.1 δ b n sh tp y' bytes maxL none d' mc' ms' N N2 (.ref (b + o) :: av) μ post) (hav : av.length = k0) (hst : st0 = av.reverse ++ .ref (b + o) :: st) (hcat : Nat.ble (st.map fun v => v.category).sum 8 = true) (hd' : Nat.ble (d' + 1) d = true) (hr : Nat.ble (cells + mc') mc = true ∧ Nat.ble (slots + ms') ms = true)
    (kk : ∀ (v : Option Value) (μ' : Mm), post v μ' → AW κ (δ, b, n, nL, sh, tp, Qc, mc, ms) N2 (cells + mc') (slots + ms') (pc + 3) ls (v.toList ++ st) μ') : AW κ (δ, b, n, nL, sh, tp, Qc, mc, ms) N cells slots pc ls st0 μ := by
  obtain ⟨p, l, e, R, s, m, args, below, meth, c⟩ := κ
  intro H locs lsr hP hT hS h
  subst hst
  obtain ⟨x1, x2, x3, x4, hts, x6, x7, x8, hK, hKS, hR⟩ := X
  obtain ⟨l1, l2, l3, l4, l5, l6, l7⟩ := L
  subst hR
  exact run_core (va_runIN (As := av) (rest := st) ⟨x1, x2, x3, x4, hts⟩ hM ⟨va_cnB k0 hts (tt_goodIn l4) rfl rfl rfl (hK.2.1 _ l1) (hts _ l3) l7 (rm_fit (Nat.le_of_ble_eq_true hd') l5), l6, hts _ l2⟩ ⟨pc_blind _ _ _ _, fun U hU hW => ⟨rfl, by rw [hU]; exact hP, by rw [hU]; exact hT, KX.warm hW hK, KS.at hKS hS hU hW⟩⟩ rfl hav h.1 rfl (cat_fit (Nat.le_of_ble_eq_true hcat)) hd ⟨Nat.le_of_ble_eq_true hr.1, Nat.le_of_ble_eq_true hr.2⟩) hS (fun v μ' H1 locs1 hp hP1 hT1 hS1 => kk v μ' hp H1 locs1 lsr hP1 hT1 hS1 h)
end CALLS
section FORMS
variable {κ : Kt} {K : Wt} {N cells slots pc : Nat} {ls : List (Option Value)} {st : List Value}
theorem pI_k {q : Int32 → Mm → Prop} (k : ∀ (r : Int32) (μ' : Mm), q r μ' → AW κ K N cells slots pc ls (.int r :: st) μ') : ∀ (v : Option Value) (μ' : Mm), pI q v μ' → AW κ K N cells slots pc ls (v.toList ++ st) μ' := by
  rintro v μ' ⟨r, rfl, h⟩
  exact k r μ' h
theorem pL_k {q : Int64 → Mm → Prop} (k : ∀ (r : Int64) (μ' : Mm), q r μ' → AW κ K N cells slots pc ls (.long r :: st) μ') : ∀ (v : Option Value) (μ' : Mm), pL q v μ' → AW κ K N cells slots pc ls (v.toList ++ st) μ' := by
  rintro v μ' ⟨r, rfl, h⟩
  exact k r μ' h
theorem pA_k {q : Nat → Mm → Prop} (k : ∀ (r : Nat) (μ' : Mm), q r μ' → AW κ K N cells slots pc ls (.ref r :: st) μ') : ∀ (v : Option Value) (μ' : Mm), pA q v μ' → AW κ K N cells slots pc ls (v.toList ++ st) μ' := by
  rintro v μ' ⟨r, rfl, h⟩
  exact k r μ' h
theorem pV_k {q : Mm → Prop} (k : ∀ (μ' : Mm), q μ' → AW κ K N cells slots pc ls st μ') : ∀ (v : Option Value) (μ' : Mm), pV q v μ' → AW κ K N cells slots pc ls (v.toList ++ st) μ' := by
  rintro v μ' ⟨rfl, h⟩
  exact k μ' h
/-- an answer that reads alone -/
theorem pR_k {f : Int32} {μ : Mm} (k : AW κ K N cells slots pc ls (.int f :: st) μ) : ∀ (v : Option Value) (μ' : Mm), pI (fun r μ' => r = f ∧ μ' = μ) v μ' → AW κ K N cells slots pc ls (v.toList ++ st) μ' := by
  rintro v μ' ⟨r, rfl, rfl, rfl⟩
  exact k
theorem pR_ke {f f' : Int32} {μ : Mm} (e : f = f') (k : AW κ K N cells slots pc ls (.int f' :: st) μ) : ∀ (v : Option Value) (μ' : Mm), pI (fun r μ' => r = f ∧ μ' = μ) v μ' → AW κ K N cells slots pc ls (v.toList ++ st) μ' := by
  subst e
  exact pR_k k
end FORMS
end
section
/-! what the tables say of each class, field and call: by program -/
theorem tt_lays {C : String} {T : u_T} {N : Nat} (h : ∀ w ∈ u_ws C T N, w ∈ lw_tbl) : ∀ w ∈ u_ws C T N, w ∈ TT := fun w hw => tt_mem (h w hw) (by
  obtain ⟨k, -, rfl⟩ := List.mem_map.mp hw
  unfold u_lay
  split <;> rfl)
theorem tt_c1 {w : Cond} (i : Nat) (h : tables_1_1[i]? = some w) (hg : goodWord w = true) : w ∈ TT := tt_mem (List.mem_append_right _ (List.mem_append_left _ (List.mem_of_getElem? h))) hg
theorem tt_c2 {w : Cond} (i : Nat) (h : tables_1_2[i]? = some w) (hg : goodWord w = true) : w ∈ TT := tt_mem (List.mem_append_right _ (List.mem_append_right _ (List.mem_append_left _ (List.mem_of_getElem? h)))) hg
theorem tt_c3 {w : Cond} (i : Nat) (h : tables_1_3[i]? = some w) (hg : goodWord w = true) : w ∈ TT := tt_mem (List.mem_append_right _ (List.mem_append_right _ (List.mem_append_right _ (List.mem_append_left _ (List.mem_of_getElem? h))))) hg
theorem tt_c4 {w : Cond} (i : Nat) (h : tables_1_4[i]? = some w) (hg : goodWord w = true) : w ∈ TT := tt_mem (List.mem_append_right _ (List.mem_append_right _ (List.mem_append_right _ (List.mem_append_right _ (List.mem_append_left _ (List.mem_of_getElem? h)))))) hg
theorem tt_c5 {w : Cond} (i : Nat) (h : tables_1_5[i]? = some w) (hg : goodWord w = true) : w ∈ TT := tt_mem (List.mem_append_right _ (List.mem_append_right _ (List.mem_append_right _ (List.mem_append_right _ (List.mem_append_right _ (List.mem_append_left _ (List.mem_of_getElem? h))))))) hg
theorem tt_c6 {w : Cond} (i : Nat) (h : tables_1_6[i]? = some w) (hg : goodWord w = true) : w ∈ TT := tt_mem (List.mem_append_right _ (List.mem_append_right _ (List.mem_append_right _ (List.mem_append_right _ (List.mem_append_right _ (List.mem_append_right _ (List.mem_of_getElem? h))))))) hg
theorem cfX0 : CF 0 RX0 TX0 := ⟨rfl, (fun w hw => absurd (show w ∈ ([] : List Cond) from hw) List.not_mem_nil), (fun k hk => absurd hk (Nat.not_lt_zero k)), (fun a ha => absurd ha (Nat.not_lt_zero a))⟩
theorem cfX1 : CF 1 RX1 TX1 := ⟨rfl, (fun w hw => absurd (show w ∈ ([] : List Cond) from hw) List.not_mem_nil), (fun k hk => absurd hk (Nat.not_lt_zero k)), (fun a ha => absurd ha (Nat.not_lt_zero a))⟩
theorem cfX2 : CF 2 RX2 TX2 := ⟨rfl, (fun w hw => absurd (show w ∈ ([] : List Cond) from hw) List.not_mem_nil), (fun k hk => absurd hk (Nat.not_lt_zero k)), (fun a ha => absurd ha (Nat.not_lt_zero a))⟩
theorem cfX3 : CF 3 RX3 TX3 := ⟨rfl, tt_lays (fun w hw => List.mem_of_getElem? (i := ([247, 249, 251, 253, 255, 257, 259, 261, 263, 265] : List Nat).getD ((u_ws RX3 TX3 10).idxOf w) 0) (by
  obtain ⟨k, hk, rfl⟩ := List.mem_map.mp hw
  have hk : k < 10 := List.mem_range.mp hk
  revert k
  decide +kernel)), by decide +kernel, by decide +kernel⟩
theorem cfX4 : CF 4 RX4 TX4 := ⟨rfl, (fun w hw => absurd (show w ∈ ([] : List Cond) from hw) List.not_mem_nil), (fun k hk => absurd hk (Nat.not_lt_zero k)), (fun a ha => absurd ha (Nat.not_lt_zero a))⟩
theorem cfX5 : CF 5 RX5 TX5 := ⟨rfl, (fun w hw => absurd (show w ∈ ([] : List Cond) from hw) List.not_mem_nil), (fun k hk => absurd hk (Nat.not_lt_zero k)), (fun a ha => absurd ha (Nat.not_lt_zero a))⟩
theorem cfX6 : CF 6 RX6 TX6 := ⟨rfl, tt_lays (fun w hw => List.mem_of_getElem? (i := ([115, 117, 119, 121, 123, 125] : List Nat).getD ((u_ws RX6 TX6 6).idxOf w) 0) (by
  obtain ⟨k, hk, rfl⟩ := List.mem_map.mp hw
  have hk : k < 6 := List.mem_range.mp hk
  revert k
  decide +kernel)), by decide +kernel, by decide +kernel⟩
theorem cfX7 : CF 7 RX7 TX7 := ⟨rfl, (fun w hw => absurd (show w ∈ ([] : List Cond) from hw) List.not_mem_nil), (fun k hk => absurd hk (Nat.not_lt_zero k)), (fun a ha => absurd ha (Nat.not_lt_zero a))⟩
theorem cfX8 : CF 8 RX8 TX8 := ⟨rfl, (fun w hw => absurd (show w ∈ ([] : List Cond) from hw) List.not_mem_nil), (fun k hk => absurd hk (Nat.not_lt_zero k)), (fun a ha => absurd ha (Nat.not_lt_zero a))⟩
theorem cfX9 : CF 9 RX9 TX9 := ⟨rfl, tt_lays (fun w hw => List.mem_of_getElem? (i := ([292, 294, 296, 298, 300, 302, 304, 306, 308, 310] : List Nat).getD ((u_ws RX9 TX9 10).idxOf w) 0) (by
  obtain ⟨k, hk, rfl⟩ := List.mem_map.mp hw
  have hk : k < 10 := List.mem_range.mp hk
  revert k
  decide +kernel)), by decide +kernel, by decide +kernel⟩
theorem cfX10 : CF 10 RX10 TX10 := ⟨rfl, tt_lays (fun w hw => List.mem_of_getElem? (i := ([149, 151, 153, 155] : List Nat).getD ((u_ws RX10 TX10 4).idxOf w) 0) (by
  obtain ⟨k, hk, rfl⟩ := List.mem_map.mp hw
  have hk : k < 4 := List.mem_range.mp hk
  revert k
  decide +kernel)), by decide +kernel, by decide +kernel⟩
theorem cfX11 : CF 11 RX11 TX11 := ⟨rfl, tt_lays (fun w hw => List.mem_of_getElem? (i := ([327, 329, 331, 333, 335, 337, 339, 341, 343, 345, 347, 349, 351, 353] : List Nat).getD ((u_ws RX11 TX11 14).idxOf w) 0) (by
  obtain ⟨k, hk, rfl⟩ := List.mem_map.mp hw
  have hk : k < 14 := List.mem_range.mp hk
  revert k
  decide +kernel)), by decide +kernel, by decide +kernel⟩
theorem cfX12 : CF 12 RX12 TX12 := ⟨rfl, tt_lays (fun w hw => List.mem_of_getElem? (i := ([1024, 1026, 1028, 1030, 1032, 1034, 1036, 1038, 1040, 1042, 1044, 1046, 1048, 1050, 1052, 1054, 1056, 1058, 1060, 1062, 1064, 1066, 1068, 1070, 1072, 1074, 1076, 1078, 1080, 1082, 1084, 1086, 1088] : List Nat).getD ((u_ws RX12 TX12 33).idxOf w) 0) (by
  obtain ⟨k, hk, rfl⟩ := List.mem_map.mp hw
  have hk : k < 33 := List.mem_range.mp hk
  revert k
  decide +kernel)), by decide +kernel, by decide +kernel⟩
set_option maxRecDepth 100000 in
theorem lL_9 : LI "PaintedOverLaw" 9 yX11_init cX11_init 2 0 := ⟨tt_c1 23 (by decide +kernel) rfl, tt_c1 24 (by decide +kernel) rfl, tt_c1 1 (by decide +kernel) rfl, tt_c1 25 rfl rfl, by decide, rfl, by decide +kernel⟩
set_option maxRecDepth 100000 in
theorem lX11_40 : LIN RX11 40 yX6_init "PaintedOver" cX6_init 1 0 := ⟨List.mem_filter.mpr ⟨List.mem_of_getElem? (i := 104) (by decide +kernel), rfl⟩, tt_c1 34 (by decide +kernel) rfl, tt_c1 2 (by decide +kernel) rfl, tt_c1 35 rfl rfl, by decide, rfl, by decide +kernel⟩
theorem fX6_24 : GF RX6 24 6 0 RX6 TX6 := ⟨cfX6, by decide, tt_c1 37 (by decide +kernel) rfl⟩
theorem fX6_28 : GF RX6 28 6 1 RX6 TX6 := ⟨cfX6, by decide, tt_c1 38 (by decide +kernel) rfl⟩
theorem fX6_9 : GF RX6 9 6 2 RX6 TX6 := ⟨cfX6, by decide, tt_c1 39 (by decide +kernel) rfl⟩
theorem fX6_15 : GF RX6 15 6 3 RX6 TX6 := ⟨cfX6, by decide, tt_c1 40 (by decide +kernel) rfl⟩
theorem fX6_18 : GF RX6 18 6 4 RX6 TX6 := ⟨cfX6, by decide, tt_c1 41 (by decide +kernel) rfl⟩
theorem fX6_21 : GF RX6 21 6 5 RX6 TX6 := ⟨cfX6, by decide, tt_c1 42 (by decide +kernel) rfl⟩
theorem fX11_218 : GF RX11 218 6 5 RX6 TX6 := ⟨cfX6, by decide, tt_c1 43 (by decide +kernel) rfl⟩
set_option maxRecDepth 100000 in
theorem lX11_50 : LIN RX11 50 yX10_init "PaintedOver" cX10_init 1 0 := ⟨List.mem_filter.mpr ⟨List.mem_of_getElem? (i := 132) (by decide +kernel), rfl⟩, tt_c1 62 (by decide +kernel) rfl, tt_c1 3 (by decide +kernel) rfl, tt_c1 63 rfl rfl, by decide, rfl, by decide +kernel⟩
theorem fX10_9 : GF RX10 9 10 0 RX10 TX10 := ⟨cfX10, by decide, tt_c1 65 (by decide +kernel) rfl⟩
theorem fX7_20 : GF RX7 20 10 0 RX10 TX10 := ⟨cfX10, by decide, tt_c1 66 (by decide +kernel) rfl⟩
theorem fX4_13 : GF RX4 13 10 0 RX10 TX10 := ⟨cfX10, by decide, tt_c1 67 (by decide +kernel) rfl⟩
theorem fX11_308 : GF RX11 308 10 0 RX10 TX10 := ⟨cfX10, by decide, tt_c1 68 (by decide +kernel) rfl⟩
theorem fX10_15 : GF RX10 15 10 1 RX10 TX10 := ⟨cfX10, by decide, tt_c1 69 (by decide +kernel) rfl⟩
theorem fX2_17 : GF RX2 17 10 1 RX10 TX10 := ⟨cfX10, by decide, tt_c1 70 (by decide +kernel) rfl⟩
theorem fX0_21 : GF RX0 21 10 1 RX10 TX10 := ⟨cfX10, by decide, tt_c1 71 (by decide +kernel) rfl⟩
theorem fX4_26 : GF RX4 26 10 1 RX10 TX10 := ⟨cfX10, by decide, tt_c1 72 (by decide +kernel) rfl⟩
theorem fX11_311 : GF RX11 311 10 1 RX10 TX10 := ⟨cfX10, by decide, tt_c1 73 (by decide +kernel) rfl⟩
theorem fX10_18 : GF RX10 18 10 2 RX10 TX10 := ⟨cfX10, by decide, tt_c1 74 (by decide +kernel) rfl⟩
theorem fX11_305 : GF RX11 305 10 2 RX10 TX10 := ⟨cfX10, by decide, tt_c1 75 (by decide +kernel) rfl⟩
theorem fX10_21 : GF RX10 21 10 3 RX10 TX10 := ⟨cfX10, by decide, tt_c1 76 (by decide +kernel) rfl⟩
theorem fX11_324 : GF RX11 324 10 3 RX10 TX10 := ⟨cfX10, by decide, tt_c1 77 (by decide +kernel) rfl⟩
set_option maxRecDepth 100000 in
theorem lX11_57 : LIN RX11 57 yX4_init "PaintedOver" cX4_init 1 0 := ⟨List.mem_filter.mpr ⟨List.mem_of_getElem? (i := 161) (by decide +kernel), rfl⟩, tt_c1 91 (by decide +kernel) rfl, tt_c1 4 (by decide +kernel) rfl, tt_c1 92 rfl rfl, by decide, rfl, by decide +kernel⟩
set_option maxRecDepth 100000 in
theorem lX11_60 : LIN RX11 60 yX2_init "PaintedOver" cX2_init 1 0 := ⟨List.mem_filter.mpr ⟨List.mem_of_getElem? (i := 168) (by decide +kernel), rfl⟩, tt_c1 98 (by decide +kernel) rfl, tt_c1 5 (by decide +kernel) rfl, tt_c1 99 rfl rfl, by decide, rfl, by decide +kernel⟩
set_option maxRecDepth 100000 in
theorem lX2_1 : LIN RX2 1 yX4_init "PaintedOver" cX4_init 1 0 := ⟨List.mem_filter.mpr ⟨List.mem_of_getElem? (i := 171) (by decide +kernel), rfl⟩, tt_c1 91 (by decide +kernel) rfl, tt_c1 4 (by decide +kernel) rfl, tt_c1 92 rfl rfl, by decide, rfl, by decide +kernel⟩
set_option maxRecDepth 100000 in
theorem lX11_63 : LIN RX11 63 yX5_init "PaintedOver" cX5_init 1 0 := ⟨List.mem_filter.mpr ⟨List.mem_of_getElem? (i := 175) (by decide +kernel), rfl⟩, tt_c1 105 (by decide +kernel) rfl, tt_c1 6 (by decide +kernel) rfl, tt_c1 106 rfl rfl, by decide, rfl, by decide +kernel⟩
set_option maxRecDepth 100000 in
theorem lX5_1 : LIN RX5 1 yX4_init "PaintedOver" cX4_init 1 0 := ⟨List.mem_filter.mpr ⟨List.mem_of_getElem? (i := 178) (by decide +kernel), rfl⟩, tt_c1 91 (by decide +kernel) rfl, tt_c1 4 (by decide +kernel) rfl, tt_c1 92 rfl rfl, by decide, rfl, by decide +kernel⟩
set_option maxRecDepth 100000 in
theorem lX11_66 : LIN RX11 66 yX1_init "PaintedOver" cX1_init 1 0 := ⟨List.mem_filter.mpr ⟨List.mem_of_getElem? (i := 182) (by decide +kernel), rfl⟩, tt_c1 112 (by decide +kernel) rfl, tt_c1 7 (by decide +kernel) rfl, tt_c1 113 rfl rfl, by decide, rfl, by decide +kernel⟩
set_option maxRecDepth 100000 in
theorem lX1_3 : LIN RX1 3 yX2_init "PaintedOver" cX2_init 1 0 := ⟨List.mem_filter.mpr ⟨List.mem_of_getElem? (i := 185) (by decide +kernel), rfl⟩, tt_c1 98 (by decide +kernel) rfl, tt_c1 5 (by decide +kernel) rfl, tt_c1 99 rfl rfl, by decide, rfl, by decide +kernel⟩
set_option maxRecDepth 100000 in
theorem lX11_69 : LIN RX11 69 yX7_init "PaintedOver" cX7_init 1 0 := ⟨List.mem_filter.mpr ⟨List.mem_of_getElem? (i := 189) (by decide +kernel), rfl⟩, tt_c1 119 (by decide +kernel) rfl, tt_c1 8 (by decide +kernel) rfl, tt_c1 120 rfl rfl, by decide, rfl, by decide +kernel⟩
set_option maxRecDepth 100000 in
theorem lX7_1 : LIN RX7 1 yX4_init "PaintedOver" cX4_init 1 0 := ⟨List.mem_filter.mpr ⟨List.mem_of_getElem? (i := 192) (by decide +kernel), rfl⟩, tt_c1 91 (by decide +kernel) rfl, tt_c1 4 (by decide +kernel) rfl, tt_c1 92 rfl rfl, by decide, rfl, by decide +kernel⟩
set_option maxRecDepth 100000 in
theorem lX11_72 : LIN RX11 72 yX8_init "PaintedOver" cX8_init 1 0 := ⟨List.mem_filter.mpr ⟨List.mem_of_getElem? (i := 196) (by decide +kernel), rfl⟩, tt_c1 126 (by decide +kernel) rfl, tt_c1 9 (by decide +kernel) rfl, tt_c1 127 rfl rfl, by decide, rfl, by decide +kernel⟩
set_option maxRecDepth 100000 in
theorem lX8_3 : LIN RX8 3 yX5_init "PaintedOver" cX5_init 1 0 := ⟨List.mem_filter.mpr ⟨List.mem_of_getElem? (i := 199) (by decide +kernel), rfl⟩, tt_c1 105 (by decide +kernel) rfl, tt_c1 6 (by decide +kernel) rfl, tt_c1 106 rfl rfl, by decide, rfl, by decide +kernel⟩
set_option maxRecDepth 100000 in
theorem lX11_75 : LIN RX11 75 yX0_init "PaintedOver" cX0_init 1 0 := ⟨List.mem_filter.mpr ⟨List.mem_of_getElem? (i := 203) (by decide +kernel), rfl⟩, tt_c1 133 (by decide +kernel) rfl, tt_c1 10 (by decide +kernel) rfl, tt_c1 134 rfl rfl, by decide, rfl, by decide +kernel⟩
set_option maxRecDepth 100000 in
theorem lX0_1 : LIN RX0 1 yX5_init "PaintedOver" cX5_init 1 0 := ⟨List.mem_filter.mpr ⟨List.mem_of_getElem? (i := 206) (by decide +kernel), rfl⟩, tt_c1 105 (by decide +kernel) rfl, tt_c1 6 (by decide +kernel) rfl, tt_c1 106 rfl rfl, by decide, rfl, by decide +kernel⟩
set_option maxRecDepth 100000 in
theorem lX11_78 : LI RX11 78 yX9_init cX9_init 3 1 := ⟨tt_c1 139 (by decide +kernel) rfl, tt_c1 140 (by decide +kernel) rfl, tt_c1 11 (by decide +kernel) rfl, tt_c1 141 rfl rfl, by decide, rfl, by decide +kernel⟩
set_option maxRecDepth 100000 in
theorem lX9_47 : LI RX9 47 yX3_init cX3_init 2 1 := ⟨tt_c1 146 (by decide +kernel) rfl, tt_c1 147 (by decide +kernel) rfl, tt_c1 12 (by decide +kernel) rfl, tt_c1 148 rfl rfl, by decide, rfl, by decide +kernel⟩
theorem fX3_40 : GF RX3 40 3 0 RX3 TX3 := ⟨cfX3, by decide, tt_c1 150 (by decide +kernel) rfl⟩
theorem fX9_67 : GF RX9 67 3 0 RX3 TX3 := ⟨cfX3, by decide, tt_c1 151 (by decide +kernel) rfl⟩
theorem fX11_130 : GF RX11 130 3 0 RX3 TX3 := ⟨cfX3, by decide, tt_c1 152 (by decide +kernel) rfl⟩
theorem fX3_9 : GF RX3 9 3 1 RX3 TX3 := ⟨cfX3, by decide, tt_c1 153 (by decide +kernel) rfl⟩
theorem fX9_71 : GF RX9 71 3 1 RX3 TX3 := ⟨cfX3, by decide, tt_c1 154 (by decide +kernel) rfl⟩
theorem fX11_151 : GF RX11 151 3 1 RX3 TX3 := ⟨cfX3, by decide, tt_c1 155 (by decide +kernel) rfl⟩
theorem fX3_15 : GF RX3 15 3 2 RX3 TX3 := ⟨cfX3, by decide, tt_c1 156 (by decide +kernel) rfl⟩
theorem fX9_74 : GF RX9 74 3 2 RX3 TX3 := ⟨cfX3, by decide, tt_c1 157 (by decide +kernel) rfl⟩
theorem fX11_154 : GF RX11 154 3 2 RX3 TX3 := ⟨cfX3, by decide, tt_c1 158 (by decide +kernel) rfl⟩
theorem fX3_18 : GF RX3 18 3 3 RX3 TX3 := ⟨cfX3, by decide, tt_c1 159 (by decide +kernel) rfl⟩
theorem fX9_77 : GF RX9 77 3 3 RX3 TX3 := ⟨cfX3, by decide, tt_c1 160 (by decide +kernel) rfl⟩
theorem fX6_119 : GF RX6 119 3 3 RX3 TX3 := ⟨cfX3, by decide, tt_c1 161 (by decide +kernel) rfl⟩
theorem fX11_157 : GF RX11 157 3 3 RX3 TX3 := ⟨cfX3, by decide, tt_c1 162 (by decide +kernel) rfl⟩
theorem fX3_21 : GF RX3 21 3 4 RX3 TX3 := ⟨cfX3, by decide, tt_c1 163 (by decide +kernel) rfl⟩
theorem fX11_189 : GF RX11 189 3 4 RX3 TX3 := ⟨cfX3, by decide, tt_c1 164 (by decide +kernel) rfl⟩
theorem fX3_25 : GF RX3 25 3 5 RX3 TX3 := ⟨cfX3, by decide, tt_c1 165 (by decide +kernel) rfl⟩
theorem fX9_90 : GF RX9 90 3 5 RX3 TX3 := ⟨cfX3, by decide, tt_c1 166 (by decide +kernel) rfl⟩
theorem fX11_192 : GF RX11 192 3 5 RX3 TX3 := ⟨cfX3, by decide, tt_c1 167 (by decide +kernel) rfl⟩
theorem fX3_28 : GF RX3 28 3 6 RX3 TX3 := ⟨cfX3, by decide, tt_c1 168 (by decide +kernel) rfl⟩
theorem fX9_93 : GF RX9 93 3 6 RX3 TX3 := ⟨cfX3, by decide, tt_c1 169 (by decide +kernel) rfl⟩
theorem fX11_195 : GF RX11 195 3 6 RX3 TX3 := ⟨cfX3, by decide, tt_c1 170 (by decide +kernel) rfl⟩
theorem fX3_31 : GF RX3 31 3 7 RX3 TX3 := ⟨cfX3, by decide, tt_c1 171 (by decide +kernel) rfl⟩
theorem fX11_198 : GF RX11 198 3 7 RX3 TX3 := ⟨cfX3, by decide, tt_c1 172 (by decide +kernel) rfl⟩
theorem fX3_34 : GF RX3 34 3 8 RX3 TX3 := ⟨cfX3, by decide, tt_c1 173 (by decide +kernel) rfl⟩
theorem fX11_201 : GF RX11 201 3 8 RX3 TX3 := ⟨cfX3, by decide, tt_c1 174 (by decide +kernel) rfl⟩
theorem fX3_37 : GF RX3 37 3 9 RX3 TX3 := ⟨cfX3, by decide, tt_c1 175 (by decide +kernel) rfl⟩
theorem fX9_43 : GF RX9 43 9 0 RX9 TX9 := ⟨cfX9, by decide, tt_c1 197 (by decide +kernel) rfl⟩
theorem fX9_11 : GF RX9 11 9 1 RX9 TX9 := ⟨cfX9, by decide, tt_c1 198 (by decide +kernel) rfl⟩
theorem fX6_115 : GF RX6 115 9 1 RX9 TX9 := ⟨cfX9, by decide, tt_c1 199 (by decide +kernel) rfl⟩
theorem fX11_126 : GF RX11 126 9 1 RX9 TX9 := ⟨cfX9, by decide, tt_c1 200 (by decide +kernel) rfl⟩
theorem fX9_17 : GF RX9 17 9 2 RX9 TX9 := ⟨cfX9, by decide, tt_c1 201 (by decide +kernel) rfl⟩
theorem fX6_109 : GF RX6 109 9 2 RX9 TX9 := ⟨cfX9, by decide, tt_c1 202 (by decide +kernel) rfl⟩
theorem fX11_144 : GF RX11 144 9 2 RX9 TX9 := ⟨cfX9, by decide, tt_c1 203 (by decide +kernel) rfl⟩
theorem fX9_21 : GF RX9 21 9 3 RX9 TX9 := ⟨cfX9, by decide, tt_c1 204 (by decide +kernel) rfl⟩
theorem fX6_50 : GF RX6 50 9 3 RX9 TX9 := ⟨cfX9, by decide, tt_c1 205 (by decide +kernel) rfl⟩
theorem fX11_167 : GF RX11 167 9 3 RX9 TX9 := ⟨cfX9, by decide, tt_c1 206 (by decide +kernel) rfl⟩
theorem fX9_25 : GF RX9 25 9 4 RX9 TX9 := ⟨cfX9, by decide, tt_c1 207 (by decide +kernel) rfl⟩
theorem fX6_60 : GF RX6 60 9 4 RX9 TX9 := ⟨cfX9, by decide, tt_c1 208 (by decide +kernel) rfl⟩
theorem fX11_170 : GF RX11 170 9 4 RX9 TX9 := ⟨cfX9, by decide, tt_c1 209 (by decide +kernel) rfl⟩
theorem fX9_28 : GF RX9 28 9 5 RX9 TX9 := ⟨cfX9, by decide, tt_c1 210 (by decide +kernel) rfl⟩
theorem fX11_173 : GF RX11 173 9 5 RX9 TX9 := ⟨cfX9, by decide, tt_c1 211 (by decide +kernel) rfl⟩
theorem fX9_31 : GF RX9 31 9 6 RX9 TX9 := ⟨cfX9, by decide, tt_c1 212 (by decide +kernel) rfl⟩
theorem fX11_176 : GF RX11 176 9 6 RX9 TX9 := ⟨cfX9, by decide, tt_c1 213 (by decide +kernel) rfl⟩
theorem fX9_34 : GF RX9 34 9 7 RX9 TX9 := ⟨cfX9, by decide, tt_c1 214 (by decide +kernel) rfl⟩
theorem fX6_124 : GF RX6 124 9 7 RX9 TX9 := ⟨cfX9, by decide, tt_c1 215 (by decide +kernel) rfl⟩
theorem fX11_179 : GF RX11 179 9 7 RX9 TX9 := ⟨cfX9, by decide, tt_c1 216 (by decide +kernel) rfl⟩
theorem fX9_37 : GF RX9 37 9 8 RX9 TX9 := ⟨cfX9, by decide, tt_c1 217 (by decide +kernel) rfl⟩
theorem fX11_296 : GF RX11 296 9 8 RX9 TX9 := ⟨cfX9, by decide, tt_c1 218 (by decide +kernel) rfl⟩
theorem fX9_40 : GF RX9 40 9 9 RX9 TX9 := ⟨cfX9, by decide, tt_c1 219 (by decide +kernel) rfl⟩
theorem fX11_302 : GF RX11 302 9 9 RX9 TX9 := ⟨cfX9, by decide, tt_c1 220 (by decide +kernel) rfl⟩
theorem fX11_9 : GF RX11 9 11 0 RX11 TX11 := ⟨cfX11, by decide, tt_c2 2 (by decide +kernel) rfl⟩
theorem fX11_13 : GF RX11 13 11 1 RX11 TX11 := ⟨cfX11, by decide, tt_c2 3 (by decide +kernel) rfl⟩
theorem fX11_18 : GF RX11 18 11 2 RX11 TX11 := ⟨cfX11, by decide, tt_c2 4 (by decide +kernel) rfl⟩
theorem fX11_21 : GF RX11 21 11 3 RX11 TX11 := ⟨cfX11, by decide, tt_c2 5 (by decide +kernel) rfl⟩
theorem fX11_24 : GF RX11 24 11 4 RX11 TX11 := ⟨cfX11, by decide, tt_c2 6 (by decide +kernel) rfl⟩
theorem fX11_28 : GF RX11 28 11 5 RX11 TX11 := ⟨cfX11, by decide, tt_c2 7 (by decide +kernel) rfl⟩
theorem fX11_31 : GF RX11 31 11 6 RX11 TX11 := ⟨cfX11, by decide, tt_c2 8 (by decide +kernel) rfl⟩
theorem fX11_81 : GF RX11 81 11 7 RX11 TX11 := ⟨cfX11, by decide, tt_c2 9 (by decide +kernel) rfl⟩
theorem fX11_85 : GF RX11 85 11 8 RX11 TX11 := ⟨cfX11, by decide, tt_c2 10 (by decide +kernel) rfl⟩
theorem fX11_88 : GF RX11 88 11 9 RX11 TX11 := ⟨cfX11, by decide, tt_c2 11 (by decide +kernel) rfl⟩
theorem fX11_34 : GF RX11 34 11 10 RX11 TX11 := ⟨cfX11, by decide, tt_c2 12 (by decide +kernel) rfl⟩
theorem fX11_41 : GF RX11 41 11 11 RX11 TX11 := ⟨cfX11, by decide, tt_c2 13 (by decide +kernel) rfl⟩
theorem fX11_45 : GF RX11 45 11 12 RX11 TX11 := ⟨cfX11, by decide, tt_c2 14 (by decide +kernel) rfl⟩
theorem fX11_51 : GF RX11 51 11 13 RX11 TX11 := ⟨cfX11, by decide, tt_c2 15 (by decide +kernel) rfl⟩
set_option maxRecDepth 100000 in
theorem lL_13 : LV "PaintedOverLaw" 13 RX11 yX11_row cX11_row 5 (some .int) 3 := ⟨tt_c2 45 (by decide +kernel) rfl, tt_c2 46 (by decide +kernel) rfl, tt_c2 47 (by decide +kernel) rfl, tt_c1 1 (by decide +kernel) rfl, tt_c2 48 rfl rfl, by decide, by decide +kernel⟩
set_option maxRecDepth 100000 in
theorem lX11_91 : LSt RX11 91 yX11_outside cX11_outside 2 (some .boolean) 2 := ⟨tt_c2 49 (by decide +kernel) rfl, tt_c2 50 (by decide +kernel) rfl, tt_c1 1 (by decide +kernel) rfl, tt_c2 51 rfl rfl, by decide, by decide +kernel⟩
set_option maxRecDepth 100000 in
theorem lX11_95 : LV RX11 95 RX11 yX11_refuse cX11_refuse 2 (some .int) 1 := ⟨tt_c2 52 (by decide +kernel) rfl, tt_c2 54 (by decide +kernel) rfl, tt_in 0 (by decide +kernel) rfl, tt_c1 1 (by decide +kernel) rfl, tt_c2 55 rfl rfl, by decide, by decide +kernel⟩
set_option maxRecDepth 100000 in
theorem lX11_221 : LV RX11 221 RX11 yX11_refuseDown cX11_refuseDown 3 (some .int) 2 := ⟨tt_c2 56 (by decide +kernel) rfl, tt_c2 58 (by decide +kernel) rfl, tt_in 1 (by decide +kernel) rfl, tt_c1 1 (by decide +kernel) rfl, tt_c2 59 rfl rfl, by decide, by decide +kernel⟩
set_option maxRecDepth 100000 in
theorem lL_20 : LV "PaintedOverLaw" 20 RX11 yX11_set cX11_set 6 (some .int) 3 := ⟨tt_c2 60 (by decide +kernel) rfl, tt_c2 61 (by decide +kernel) rfl, tt_c2 62 (by decide +kernel) rfl, tt_c1 1 (by decide +kernel) rfl, tt_c2 63 rfl rfl, by decide, by decide +kernel⟩
set_option maxRecDepth 100000 in
theorem lX11_99 : LV RX11 99 RX11 yX11_rowTrouble cX11_rowTrouble 2 (some .int) 1 := ⟨tt_c2 64 (by decide +kernel) rfl, tt_c2 66 (by decide +kernel) rfl, tt_in 2 (by decide +kernel) rfl, tt_c1 1 (by decide +kernel) rfl, tt_c2 67 rfl rfl, by decide, by decide +kernel⟩
set_option maxRecDepth 100000 in
theorem lX11_106 : LV RX11 106 RX11 yX11_holdsHouse cX11_holdsHouse 2 (some .boolean) 1 := ⟨tt_c2 68 (by decide +kernel) rfl, tt_c2 70 (by decide +kernel) rfl, tt_in 3 (by decide +kernel) rfl, tt_c1 1 (by decide +kernel) rfl, tt_c2 71 rfl rfl, by decide, by decide +kernel⟩
set_option maxRecDepth 100000 in
theorem lX11_110 : LV RX11 110 RX11 yX11_holdsRow cX11_holdsRow 2 (some .boolean) 1 := ⟨tt_c2 72 (by decide +kernel) rfl, tt_c2 74 (by decide +kernel) rfl, tt_in 4 (by decide +kernel) rfl, tt_c1 1 (by decide +kernel) rfl, tt_c2 75 rfl rfl, by decide, by decide +kernel⟩
set_option maxRecDepth 100000 in
theorem lX11_102 : LSt RX11 102 yX11_lowestBits cX11_lowestBits 3 (some .long) 2 := ⟨tt_c2 76 (by decide +kernel) rfl, tt_c2 77 (by decide +kernel) rfl, tt_c1 1 (by decide +kernel) rfl, tt_c2 78 rfl rfl, by decide, by decide +kernel⟩
set_option maxRecDepth 100000 in
theorem lL_25 : LV "PaintedOverLaw" 25 RX11 yX11_copy cX11_copy 6 (some .int) 5 := ⟨tt_c2 79 (by decide +kernel) rfl, tt_c2 80 (by decide +kernel) rfl, tt_c2 81 (by decide +kernel) rfl, tt_c1 1 (by decide +kernel) rfl, tt_c2 82 rfl rfl, by decide, by decide +kernel⟩
set_option maxRecDepth 100000 in
theorem lX11_113 : LV RX11 113 RX11 yX11_noSuchPart cX11_noSuchPart 4 (some .boolean) 3 := ⟨tt_c2 83 (by decide +kernel) rfl, tt_c2 85 (by decide +kernel) rfl, tt_in 5 (by decide +kernel) rfl, tt_c1 1 (by decide +kernel) rfl, tt_c2 86 rfl rfl, by decide, by decide +kernel⟩
set_option maxRecDepth 100000 in
theorem lL_30 : LV "PaintedOverLaw" 30 RX11 yX11_element cX11_element 3 (some .long) 2 := ⟨tt_c2 90 (by decide +kernel) rfl, tt_c2 91 (by decide +kernel) rfl, tt_c2 92 (by decide +kernel) rfl, tt_c1 1 (by decide +kernel) rfl, tt_c2 93 rfl rfl, by decide, by decide +kernel⟩
set_option maxRecDepth 100000 in
theorem lL_35 : LV "PaintedOverLaw" 35 RX11 yX11_show cX11_show 3 (some .int) 2 := ⟨tt_c2 94 (by decide +kernel) rfl, tt_c2 95 (by decide +kernel) rfl, tt_c2 96 (by decide +kernel) rfl, tt_c1 1 (by decide +kernel) rfl, tt_c2 97 rfl rfl, by decide, by decide +kernel⟩
set_option maxRecDepth 100000 in
theorem lX11_123 : LV RX11 123 RX11 yX11_noHouse cX11_noHouse 2 (some .boolean) 1 := ⟨tt_c2 98 (by decide +kernel) rfl, tt_c2 100 (by decide +kernel) rfl, tt_in 6 (by decide +kernel) rfl, tt_c1 1 (by decide +kernel) rfl, tt_c2 101 rfl rfl, by decide, by decide +kernel⟩
set_option maxRecDepth 100000 in
theorem lL_40 : LV "PaintedOverLaw" 40 RX11 yX11_holds cX11_holds 2 (some .int) 1 := ⟨tt_c2 102 (by decide +kernel) rfl, tt_c2 103 (by decide +kernel) rfl, tt_c2 104 (by decide +kernel) rfl, tt_c1 1 (by decide +kernel) rfl, tt_c2 105 rfl rfl, by decide, by decide +kernel⟩
set_option maxRecDepth 100000 in
theorem lL_45 : LV "PaintedOverLaw" 45 RX11 yX11_says cX11_says 4 (some .int) 2 := ⟨tt_c2 106 (by decide +kernel) rfl, tt_c2 107 (by decide +kernel) rfl, tt_c2 108 (by decide +kernel) rfl, tt_c1 1 (by decide +kernel) rfl, tt_c2 109 rfl rfl, by decide, by decide +kernel⟩
set_option maxRecDepth 100000 in
theorem lX11_136 : LSt RX11 136 yX11_isOf cX11_isOf 2 (some .boolean) 2 := ⟨tt_c2 110 (by decide +kernel) rfl, tt_c2 111 (by decide +kernel) rfl, tt_c1 1 (by decide +kernel) rfl, tt_c2 112 rfl rfl, by decide, by decide +kernel⟩
set_option maxRecDepth 100000 in
theorem lX11_140 : LV RX11 140 RX11 yX11_saidBy cX11_saidBy 3 (some .int) 2 := ⟨tt_c2 113 (by decide +kernel) rfl, tt_c2 115 (by decide +kernel) rfl, tt_in 7 (by decide +kernel) rfl, tt_c1 1 (by decide +kernel) rfl, tt_c2 116 rfl rfl, by decide, by decide +kernel⟩
set_option maxRecDepth 100000 in
theorem lX11_231 : LV RX11 231 RX3 yX3_wetness cX3_wetness 3 (some .int) 2 := ⟨tt_c2 117 (by decide +kernel) rfl, tt_c2 118 (by decide +kernel) rfl, tt_c2 119 (by decide +kernel) rfl, tt_c1 12 (by decide +kernel) rfl, tt_c2 120 rfl rfl, by decide, by decide +kernel⟩
set_option maxRecDepth 100000 in
theorem lX3_67 : LV RX3 67 RX4 yX4_wetness cX4_wetness 4 (some .int) 3 := ⟨tt_c2 121 (by decide +kernel) rfl, tt_c2 122 (by decide +kernel) rfl, tt_c2 123 (by decide +kernel) rfl, tt_c1 4 (by decide +kernel) rfl, tt_c2 136 rfl rfl, by decide, by decide +kernel⟩
set_option maxRecDepth 100000 in
theorem lX3_67_X0 : LU RX3 67 RX0 "PaintedOver$Kind" yX4_wetness yX4_wetness cX4_wetness 4 (some .int) 3 := ⟨⟨tt_c2 121 (by decide +kernel) rfl, tt_c2 124 (by decide +kernel) rfl, tt_c2 125 (by decide +kernel) rfl, tt_c2 122 (by decide +kernel) rfl, tt_c1 4 (by decide +kernel) rfl, tt_c2 136 rfl rfl, by decide⟩, Or.inl rfl, by decide +kernel⟩
set_option maxRecDepth 100000 in
theorem lX3_67_X1 : LU RX3 67 RX1 "PaintedOver$Kind" yX4_wetness yX1_wetness cX1_wetness 5 (some .int) 3 := ⟨⟨tt_c2 121 (by decide +kernel) rfl, tt_c2 124 (by decide +kernel) rfl, tt_c2 126 (by decide +kernel) rfl, tt_c2 127 (by decide +kernel) rfl, tt_c1 7 (by decide +kernel) rfl, tt_c2 128 rfl rfl, by decide⟩, Or.inr ⟨tt_c2 122 (by decide +kernel) rfl, cX4_wetness, 4, (some .int), tt_c2 136 rfl rfl⟩, by decide +kernel⟩
set_option maxRecDepth 100000 in
theorem lX3_67_X2 : LU RX3 67 RX2 "PaintedOver$Kind" yX4_wetness yX2_wetness cX2_wetness 4 (some .int) 3 := ⟨⟨tt_c2 121 (by decide +kernel) rfl, tt_c2 124 (by decide +kernel) rfl, tt_c2 132 (by decide +kernel) rfl, tt_c2 130 (by decide +kernel) rfl, tt_c1 5 (by decide +kernel) rfl, tt_c2 131 rfl rfl, by decide⟩, Or.inr ⟨tt_c2 122 (by decide +kernel) rfl, cX4_wetness, 4, (some .int), tt_c2 136 rfl rfl⟩, by decide +kernel⟩
set_option maxRecDepth 100000 in
theorem lX3_67_X5 : LU RX3 67 RX5 "PaintedOver$Kind" yX4_wetness yX4_wetness cX4_wetness 4 (some .int) 3 := ⟨⟨tt_c2 121 (by decide +kernel) rfl, tt_c2 124 (by decide +kernel) rfl, tt_c2 133 (by decide +kernel) rfl, tt_c2 122 (by decide +kernel) rfl, tt_c1 4 (by decide +kernel) rfl, tt_c2 136 rfl rfl, by decide⟩, Or.inl rfl, by decide +kernel⟩
set_option maxRecDepth 100000 in
theorem lX3_67_X7 : LU RX3 67 RX7 "PaintedOver$Kind" yX4_wetness yX4_wetness cX4_wetness 4 (some .int) 3 := ⟨⟨tt_c2 121 (by decide +kernel) rfl, tt_c2 124 (by decide +kernel) rfl, tt_c2 134 (by decide +kernel) rfl, tt_c2 122 (by decide +kernel) rfl, tt_c1 4 (by decide +kernel) rfl, tt_c2 136 rfl rfl, by decide⟩, Or.inl rfl, by decide +kernel⟩
set_option maxRecDepth 100000 in
theorem lX3_67_X8 : LU RX3 67 RX8 "PaintedOver$Kind" yX4_wetness yX4_wetness cX4_wetness 4 (some .int) 3 := ⟨⟨tt_c2 121 (by decide +kernel) rfl, tt_c2 124 (by decide +kernel) rfl, tt_c2 135 (by decide +kernel) rfl, tt_c2 122 (by decide +kernel) rfl, tt_c1 4 (by decide +kernel) rfl, tt_c2 136 rfl rfl, by decide⟩, Or.inl rfl, by decide +kernel⟩
set_option maxRecDepth 100000 in
theorem lX1_9 : LSU RX1 9 yX2_wetness cX2_wetness 4 (some .int) 3 := ⟨tt_c2 129 (by decide +kernel) rfl, tt_c6 183 (by decide +kernel) rfl, tt_c1 115 (by decide +kernel) rfl, tt_c2 130 (by decide +kernel) rfl, tt_c1 5 (by decide +kernel) rfl, tt_c2 131 rfl rfl, by decide, by decide +kernel⟩
set_option maxRecDepth 100000 in
theorem lX11_330 : LV RX11 330 RX3 yX3_hardness cX3_hardness 3 (some .int) 2 := ⟨tt_c2 137 (by decide +kernel) rfl, tt_c2 138 (by decide +kernel) rfl, tt_c2 139 (by decide +kernel) rfl, tt_c1 12 (by decide +kernel) rfl, tt_c2 140 rfl rfl, by decide, by decide +kernel⟩
set_option maxRecDepth 100000 in
theorem lX3_73 : LV RX3 73 RX4 yX4_hardness cX4_hardness 4 (some .int) 3 := ⟨tt_c2 141 (by decide +kernel) rfl, tt_c2 142 (by decide +kernel) rfl, tt_c2 143 (by decide +kernel) rfl, tt_c1 4 (by decide +kernel) rfl, tt_c2 159 rfl rfl, by decide, by decide +kernel⟩
set_option maxRecDepth 100000 in
theorem lX3_73_X0 : LU RX3 73 RX0 "PaintedOver$Kind" yX4_hardness yX0_hardness cX0_hardness 4 (some .int) 3 := ⟨⟨tt_c2 141 (by decide +kernel) rfl, tt_c2 144 (by decide +kernel) rfl, tt_c2 145 (by decide +kernel) rfl, tt_c2 146 (by decide +kernel) rfl, tt_c1 10 (by decide +kernel) rfl, tt_c2 147 rfl rfl, by decide⟩, Or.inr ⟨tt_c2 142 (by decide +kernel) rfl, cX4_hardness, 4, (some .int), tt_c2 159 rfl rfl⟩, by decide +kernel⟩
set_option maxRecDepth 100000 in
theorem lX3_73_X1 : LU RX3 73 RX1 "PaintedOver$Kind" yX4_hardness yX4_hardness cX4_hardness 4 (some .int) 3 := ⟨⟨tt_c2 141 (by decide +kernel) rfl, tt_c2 144 (by decide +kernel) rfl, tt_c2 151 (by decide +kernel) rfl, tt_c2 142 (by decide +kernel) rfl, tt_c1 4 (by decide +kernel) rfl, tt_c2 159 rfl rfl, by decide⟩, Or.inl rfl, by decide +kernel⟩
set_option maxRecDepth 100000 in
theorem lX3_73_X2 : LU RX3 73 RX2 "PaintedOver$Kind" yX4_hardness yX4_hardness cX4_hardness 4 (some .int) 3 := ⟨⟨tt_c2 141 (by decide +kernel) rfl, tt_c2 144 (by decide +kernel) rfl, tt_c2 152 (by decide +kernel) rfl, tt_c2 142 (by decide +kernel) rfl, tt_c1 4 (by decide +kernel) rfl, tt_c2 159 rfl rfl, by decide⟩, Or.inl rfl, by decide +kernel⟩
set_option maxRecDepth 100000 in
theorem lX3_73_X5 : LU RX3 73 RX5 "PaintedOver$Kind" yX4_hardness yX5_hardness cX5_hardness 4 (some .int) 3 := ⟨⟨tt_c2 141 (by decide +kernel) rfl, tt_c2 144 (by decide +kernel) rfl, tt_c2 153 (by decide +kernel) rfl, tt_c2 149 (by decide +kernel) rfl, tt_c1 6 (by decide +kernel) rfl, tt_c2 150 rfl rfl, by decide⟩, Or.inr ⟨tt_c2 142 (by decide +kernel) rfl, cX4_hardness, 4, (some .int), tt_c2 159 rfl rfl⟩, by decide +kernel⟩
set_option maxRecDepth 100000 in
theorem lX3_73_X7 : LU RX3 73 RX7 "PaintedOver$Kind" yX4_hardness yX4_hardness cX4_hardness 4 (some .int) 3 := ⟨⟨tt_c2 141 (by decide +kernel) rfl, tt_c2 144 (by decide +kernel) rfl, tt_c2 154 (by decide +kernel) rfl, tt_c2 142 (by decide +kernel) rfl, tt_c1 4 (by decide +kernel) rfl, tt_c2 159 rfl rfl, by decide⟩, Or.inl rfl, by decide +kernel⟩
set_option maxRecDepth 100000 in
theorem lX3_73_X8 : LU RX3 73 RX8 "PaintedOver$Kind" yX4_hardness yX8_hardness cX8_hardness 4 (some .int) 3 := ⟨⟨tt_c2 141 (by decide +kernel) rfl, tt_c2 144 (by decide +kernel) rfl, tt_c2 155 (by decide +kernel) rfl, tt_c2 156 (by decide +kernel) rfl, tt_c1 9 (by decide +kernel) rfl, tt_c2 157 rfl rfl, by decide⟩, Or.inr ⟨tt_c2 142 (by decide +kernel) rfl, cX4_hardness, 4, (some .int), tt_c2 159 rfl rfl⟩, by decide +kernel⟩
set_option maxRecDepth 100000 in
theorem lX0_7 : LSU RX0 7 yX5_hardness cX5_hardness 4 (some .int) 3 := ⟨tt_c2 148 (by decide +kernel) rfl, tt_c6 184 (by decide +kernel) rfl, tt_c1 136 (by decide +kernel) rfl, tt_c2 149 (by decide +kernel) rfl, tt_c1 6 (by decide +kernel) rfl, tt_c2 150 rfl rfl, by decide, by decide +kernel⟩
set_option maxRecDepth 100000 in
theorem lX8_9 : LSU RX8 9 yX5_hardness cX5_hardness 4 (some .int) 3 := ⟨tt_c2 158 (by decide +kernel) rfl, tt_c6 184 (by decide +kernel) rfl, tt_c1 129 (by decide +kernel) rfl, tt_c2 149 (by decide +kernel) rfl, tt_c1 6 (by decide +kernel) rfl, tt_c2 150 rfl rfl, by decide, by decide +kernel⟩
set_option maxRecDepth 100000 in
theorem lX11_333 : LV RX11 333 RX11 yX11_strengthOfHighest cX11_strengthOfHighest 3 (some .int) 1 := ⟨tt_c2 160 (by decide +kernel) rfl, tt_c2 162 (by decide +kernel) rfl, tt_in 8 (by decide +kernel) rfl, tt_c1 1 (by decide +kernel) rfl, tt_c2 163 rfl rfl, by decide, by decide +kernel⟩
set_option maxRecDepth 100000 in
theorem lX11_203 : LV RX11 203 RX9 yX9_strength cX9_strength 4 (some .int) 3 := ⟨tt_c2 164 (by decide +kernel) rfl, tt_c2 165 (by decide +kernel) rfl, tt_c2 166 (by decide +kernel) rfl, tt_c1 11 (by decide +kernel) rfl, tt_c2 167 rfl rfl, by decide, by decide +kernel⟩
set_option maxRecDepth 100000 in
theorem lX9_80 : LV RX9 80 RX4 yX4_counted cX4_counted 2 (some .int) 1 := ⟨tt_c2 168 (by decide +kernel) rfl, tt_c2 169 (by decide +kernel) rfl, tt_c2 170 (by decide +kernel) rfl, tt_c1 4 (by decide +kernel) rfl, tt_c2 180 rfl rfl, by decide, by decide +kernel⟩
set_option maxRecDepth 100000 in
theorem lX9_80_X0 : LU RX9 80 RX0 "PaintedOver$Kind" yX4_counted yX4_counted cX4_counted 2 (some .int) 1 := ⟨⟨tt_c2 168 (by decide +kernel) rfl, tt_c2 171 (by decide +kernel) rfl, tt_c2 172 (by decide +kernel) rfl, tt_c2 169 (by decide +kernel) rfl, tt_c1 4 (by decide +kernel) rfl, tt_c2 180 rfl rfl, by decide⟩, Or.inl rfl, by decide +kernel⟩
set_option maxRecDepth 100000 in
theorem lX9_80_X1 : LU RX9 80 RX1 "PaintedOver$Kind" yX4_counted yX4_counted cX4_counted 2 (some .int) 1 := ⟨⟨tt_c2 168 (by decide +kernel) rfl, tt_c2 171 (by decide +kernel) rfl, tt_c2 173 (by decide +kernel) rfl, tt_c2 169 (by decide +kernel) rfl, tt_c1 4 (by decide +kernel) rfl, tt_c2 180 rfl rfl, by decide⟩, Or.inl rfl, by decide +kernel⟩
set_option maxRecDepth 100000 in
theorem lX9_80_X2 : LU RX9 80 RX2 "PaintedOver$Kind" yX4_counted yX4_counted cX4_counted 2 (some .int) 1 := ⟨⟨tt_c2 168 (by decide +kernel) rfl, tt_c2 171 (by decide +kernel) rfl, tt_c2 174 (by decide +kernel) rfl, tt_c2 169 (by decide +kernel) rfl, tt_c1 4 (by decide +kernel) rfl, tt_c2 180 rfl rfl, by decide⟩, Or.inl rfl, by decide +kernel⟩
set_option maxRecDepth 100000 in
theorem lX9_80_X5 : LU RX9 80 RX5 "PaintedOver$Kind" yX4_counted yX4_counted cX4_counted 2 (some .int) 1 := ⟨⟨tt_c2 168 (by decide +kernel) rfl, tt_c2 171 (by decide +kernel) rfl, tt_c2 175 (by decide +kernel) rfl, tt_c2 169 (by decide +kernel) rfl, tt_c1 4 (by decide +kernel) rfl, tt_c2 180 rfl rfl, by decide⟩, Or.inl rfl, by decide +kernel⟩
set_option maxRecDepth 100000 in
theorem lX9_80_X7 : LU RX9 80 RX7 "PaintedOver$Kind" yX4_counted yX7_counted cX7_counted 2 (some .int) 1 := ⟨⟨tt_c2 168 (by decide +kernel) rfl, tt_c2 171 (by decide +kernel) rfl, tt_c2 176 (by decide +kernel) rfl, tt_c2 177 (by decide +kernel) rfl, tt_c1 8 (by decide +kernel) rfl, tt_c2 178 rfl rfl, by decide⟩, Or.inr ⟨tt_c2 169 (by decide +kernel) rfl, cX4_counted, 2, (some .int), tt_c2 180 rfl rfl⟩, by decide +kernel⟩
set_option maxRecDepth 100000 in
theorem lX9_80_X8 : LU RX9 80 RX8 "PaintedOver$Kind" yX4_counted yX4_counted cX4_counted 2 (some .int) 1 := ⟨⟨tt_c2 168 (by decide +kernel) rfl, tt_c2 171 (by decide +kernel) rfl, tt_c2 179 (by decide +kernel) rfl, tt_c2 169 (by decide +kernel) rfl, tt_c1 4 (by decide +kernel) rfl, tt_c2 180 rfl rfl, by decide⟩, Or.inl rfl, by decide +kernel⟩
set_option maxRecDepth 100000 in
theorem lX11_160 : LV RX11 160 RX3 yX3_wholeSkin cX3_wholeSkin 3 (some .int) 0 := ⟨tt_c2 181 (by decide +kernel) rfl, tt_c2 182 (by decide +kernel) rfl, tt_c2 183 (by decide +kernel) rfl, tt_c1 12 (by decide +kernel) rfl, tt_c2 184 rfl rfl, by decide, by decide +kernel⟩
set_option maxRecDepth 100000 in
theorem lX3_58 : LV RX3 58 RX3 yX3_depth cX3_depth 2 (some .int) 1 := ⟨tt_c2 185 (by decide +kernel) rfl, tt_c2 186 (by decide +kernel) rfl, tt_c2 187 (by decide +kernel) rfl, tt_c1 12 (by decide +kernel) rfl, tt_c2 188 rfl rfl, by decide, by decide +kernel⟩
set_option maxRecDepth 100000 in
theorem lX3_54 : LV RX3 54 RX3 yX3_depthFrom cX3_depthFrom 5 (some .int) 2 := ⟨tt_c2 189 (by decide +kernel) rfl, tt_c2 190 (by decide +kernel) rfl, tt_c2 191 (by decide +kernel) rfl, tt_c1 12 (by decide +kernel) rfl, tt_c2 192 rfl rfl, by decide, by decide +kernel⟩
set_option maxRecDepth 100000 in
theorem lX3_50 : LV RX3 50 RX3 yX3_lies cX3_lies 3 (some .boolean) 2 := ⟨tt_c2 193 (by decide +kernel) rfl, tt_c2 194 (by decide +kernel) rfl, tt_c2 195 (by decide +kernel) rfl, tt_c1 12 (by decide +kernel) rfl, tt_c2 196 rfl rfl, by decide, by decide +kernel⟩
set_option maxRecDepth 100000 in
theorem lL_49 : LV "PaintedOverLaw" 49 RX11 yX11_house cX11_house 3 (some .int) 2 := ⟨tt_c2 197 (by decide +kernel) rfl, tt_c2 198 (by decide +kernel) rfl, tt_c2 199 (by decide +kernel) rfl, tt_c1 1 (by decide +kernel) rfl, tt_c2 200 rfl rfl, by decide, by decide +kernel⟩
set_option maxRecDepth 100000 in
theorem lX11_147 : LV RX11 147 RX9 yX9_build cX9_build 4 (some .int) 2 := ⟨tt_c2 201 (by decide +kernel) rfl, tt_c2 202 (by decide +kernel) rfl, tt_c2 203 (by decide +kernel) rfl, tt_c1 11 (by decide +kernel) rfl, tt_c2 204 rfl rfl, by decide, by decide +kernel⟩
set_option maxRecDepth 100000 in
theorem lX9_60 : LSN RX9 60 yX11_outside "PaintedOver" cX11_outside 2 (some .boolean) 2 := ⟨List.mem_filter.mpr ⟨List.mem_of_getElem? (i := 516) (by decide +kernel), rfl⟩, tt_c2 50 (by decide +kernel) rfl, tt_c1 1 (by decide +kernel) rfl, tt_c2 51 rfl rfl, by decide, by decide +kernel⟩
set_option maxRecDepth 100000 in
theorem lX9_64 : LV RX9 64 RX3 yX3_clear cX3_clear 2 none 0 := ⟨tt_c2 206 (by decide +kernel) rfl, tt_c2 207 (by decide +kernel) rfl, tt_c2 208 (by decide +kernel) rfl, tt_c1 12 (by decide +kernel) rfl, tt_c2 209 rfl rfl, by decide, by decide +kernel⟩
set_option maxRecDepth 100000 in
theorem lL_53 : LV "PaintedOverLaw" 53 RX11 yX11_houseOf cX11_houseOf 4 (some .int) 2 := ⟨tt_c2 210 (by decide +kernel) rfl, tt_c2 211 (by decide +kernel) rfl, tt_c2 212 (by decide +kernel) rfl, tt_c1 1 (by decide +kernel) rfl, tt_c2 213 rfl rfl, by decide, by decide +kernel⟩
set_option maxRecDepth 100000 in
theorem lX11_164 : LV RX11 164 RX3 yX3_lived cX3_lived 3 (some .int) 0 := ⟨tt_c2 214 (by decide +kernel) rfl, tt_c2 215 (by decide +kernel) rfl, tt_c2 216 (by decide +kernel) rfl, tt_c1 12 (by decide +kernel) rfl, tt_c2 217 rfl rfl, by decide, by decide +kernel⟩
set_option maxRecDepth 100000 in
theorem lL_57 : LV "PaintedOverLaw" 57 RX11 yX11_colour cX11_colour 6 (some .int) 3 := ⟨tt_c2 218 (by decide +kernel) rfl, tt_c2 219 (by decide +kernel) rfl, tt_c2 220 (by decide +kernel) rfl, tt_c1 1 (by decide +kernel) rfl, tt_c2 221 rfl rfl, by decide, by decide +kernel⟩
set_option maxRecDepth 100000 in
theorem lL_61 : LV "PaintedOverLaw" 61 RX11 yX11_ask cX11_ask 4 (some .int) 2 := ⟨tt_c2 222 (by decide +kernel) rfl, tt_c2 223 (by decide +kernel) rfl, tt_c2 224 (by decide +kernel) rfl, tt_c1 1 (by decide +kernel) rfl, tt_c2 225 rfl rfl, by decide, by decide +kernel⟩
set_option maxRecDepth 100000 in
theorem lL_65 : LV "PaintedOverLaw" 65 RX11 yX11_coat cX11_coat 7 (some .int) 5 := ⟨tt_c2 226 (by decide +kernel) rfl, tt_c2 227 (by decide +kernel) rfl, tt_c2 228 (by decide +kernel) rfl, tt_c1 1 (by decide +kernel) rfl, tt_c2 229 rfl rfl, by decide, by decide +kernel⟩
set_option maxRecDepth 100000 in
theorem lX11_182 : LV RX11 182 RX3 yX3_putOn cX3_putOn 7 (some .int) 5 := ⟨tt_c2 230 (by decide +kernel) rfl, tt_c2 231 (by decide +kernel) rfl, tt_c2 232 (by decide +kernel) rfl, tt_c1 12 (by decide +kernel) rfl, tt_c2 233 rfl rfl, by decide, by decide +kernel⟩
set_option maxRecDepth 100000 in
theorem lL_69 : LV "PaintedOverLaw" 69 RX11 yX11_coatOf cX11_coatOf 5 (some .int) 3 := ⟨tt_c2 234 (by decide +kernel) rfl, tt_c2 235 (by decide +kernel) rfl, tt_c2 236 (by decide +kernel) rfl, tt_c1 1 (by decide +kernel) rfl, tt_c2 237 rfl rfl, by decide, by decide +kernel⟩
set_option maxRecDepth 100000 in
theorem lX11_186 : LV RX11 186 RX11 yX11_noCoat cX11_noCoat 3 (some .boolean) 2 := ⟨tt_c2 238 (by decide +kernel) rfl, tt_c3 0 (by decide +kernel) rfl, tt_in 9 (by decide +kernel) rfl, tt_c1 1 (by decide +kernel) rfl, tt_c3 1 rfl rfl, by decide, by decide +kernel⟩
set_option maxRecDepth 100000 in
theorem lX11_207 : LV RX11 207 RX3 yX3_cellsOf cX3_cellsOf 4 (some .int) 1 := ⟨tt_c3 2 (by decide +kernel) rfl, tt_c3 3 (by decide +kernel) rfl, tt_c3 4 (by decide +kernel) rfl, tt_c1 12 (by decide +kernel) rfl, tt_c3 5 rfl rfl, by decide, by decide +kernel⟩
set_option maxRecDepth 100000 in
theorem lL_73 : LV "PaintedOverLaw" 73 RX11 yX11_street cX11_street 5 (some .int) 1 := ⟨tt_c3 6 (by decide +kernel) rfl, tt_c3 7 (by decide +kernel) rfl, tt_c3 8 (by decide +kernel) rfl, tt_c1 1 (by decide +kernel) rfl, tt_c3 9 rfl rfl, by decide, by decide +kernel⟩
set_option maxRecDepth 100000 in
theorem lX11_210 : LV RX11 210 RX9 yX9_become cX9_become 3 none 1 := ⟨tt_c3 10 (by decide +kernel) rfl, tt_c3 11 (by decide +kernel) rfl, tt_c3 12 (by decide +kernel) rfl, tt_c1 11 (by decide +kernel) rfl, tt_c3 13 rfl rfl, by decide, by decide +kernel⟩
set_option maxRecDepth 100000 in
theorem lX9_50 : LV RX9 50 RX3 yX3_become cX3_become 2 none 1 := ⟨tt_c3 14 (by decide +kernel) rfl, tt_c3 15 (by decide +kernel) rfl, tt_c3 16 (by decide +kernel) rfl, tt_c1 12 (by decide +kernel) rfl, tt_c3 17 rfl rfl, by decide, by decide +kernel⟩
set_option maxRecDepth 100000 in
theorem lX11_214 : LV RX11 214 RX6 yX6_readAll cX6_readAll 6 (some .int) 3 := ⟨tt_c3 20 (by decide +kernel) rfl, tt_c3 21 (by decide +kernel) rfl, tt_c3 22 (by decide +kernel) rfl, tt_c1 2 (by decide +kernel) rfl, tt_c3 23 rfl rfl, by decide, by decide +kernel⟩
set_option maxRecDepth 100000 in
theorem lX6_32 : LV RX6 32 RX6 yX6_readItem cX6_readItem 3 none 0 := ⟨tt_c3 24 (by decide +kernel) rfl, tt_c3 26 (by decide +kernel) rfl, tt_in 10 (by decide +kernel) rfl, tt_c1 2 (by decide +kernel) rfl, tt_c3 27 rfl rfl, by decide, by decide +kernel⟩
set_option maxRecDepth 100000 in
theorem lX6_39 : LV RX6 39 RX6 yX6_readWord cX6_readWord 4 (some .int) 0 := ⟨tt_c3 28 (by decide +kernel) rfl, tt_c3 30 (by decide +kernel) rfl, tt_in 11 (by decide +kernel) rfl, tt_c1 2 (by decide +kernel) rfl, tt_c3 31 rfl rfl, by decide, by decide +kernel⟩
set_option maxRecDepth 100000 in
theorem lX6_84 : LSt RX6 84 yX6_word cX6_word 1 (some (.object "java/lang/String")) 1 := ⟨tt_c3 32 (by decide +kernel) rfl, tt_c3 33 (by decide +kernel) rfl, tt_c1 2 (by decide +kernel) rfl, tt_c3 34 rfl rfl, by decide, by decide +kernel⟩
set_option maxRecDepth 100000 in
theorem lX6_88 : LV RX6 88 RX6 yX6_sameLetters cX6_sameLetters 3 (some .int) 1 := ⟨tt_c3 41 (by decide +kernel) rfl, tt_c3 43 (by decide +kernel) rfl, tt_in 12 (by decide +kernel) rfl, tt_c1 2 (by decide +kernel) rfl, tt_c3 44 rfl rfl, by decide, by decide +kernel⟩
set_option maxRecDepth 100000 in
theorem lX6_92 : LV RX6 92 RJ0 yJ0_length_8abf5 cJ0_length_8abf5 1 (some .int) 0 := ⟨tt_c3 45 (by decide +kernel) rfl, tt_c3 46 (by decide +kernel) rfl, tt_c3 47 (by decide +kernel) rfl, tt_c1 16 (by decide +kernel) rfl, tt_c3 48 rfl rfl, by decide, by decide +kernel⟩
set_option maxRecDepth 100000 in
theorem lJ0_335 : LV RJ0 335 RJ0 yJ0_coder_7d493 cJ0_coder_7d493 1 (some .byte) 0 := ⟨tt_c3 49 (by decide +kernel) rfl, tt_c3 50 (by decide +kernel) rfl, tt_c3 51 (by decide +kernel) rfl, tt_c1 16 (by decide +kernel) rfl, tt_c3 52 rfl rfl, by decide, by decide +kernel⟩
set_option maxRecDepth 100000 in
theorem lX6_102 : LV RX6 102 RX6 yX6_elementAt cX6_elementAt 2 (some .int) 1 := ⟨tt_c3 55 (by decide +kernel) rfl, tt_c3 57 (by decide +kernel) rfl, tt_in 13 (by decide +kernel) rfl, tt_c1 2 (by decide +kernel) rfl, tt_c3 58 rfl rfl, by decide, by decide +kernel⟩
set_option maxRecDepth 100000 in
theorem lX6_105 : LV RX6 105 RJ0 yJ0_charAt_5068e cJ0_charAt_5068e 2 (some .char) 1 := ⟨tt_c3 59 (by decide +kernel) rfl, tt_c3 60 (by decide +kernel) rfl, tt_c3 61 (by decide +kernel) rfl, tt_c1 16 (by decide +kernel) rfl, tt_c3 62 rfl rfl, by decide, by decide +kernel⟩
set_option maxRecDepth 100000 in
theorem lJ0_492 : LV RJ0 492 RJ0 yJ0_isLatin1_aae02 cJ0_isLatin1_aae02 1 (some .boolean) 0 := ⟨tt_c3 63 (by decide +kernel) rfl, tt_c3 64 (by decide +kernel) rfl, tt_c3 65 (by decide +kernel) rfl, tt_c1 16 (by decide +kernel) rfl, tt_c3 66 rfl rfl, by decide, by decide +kernel⟩
set_option maxRecDepth 100000 in
theorem lJ0_495 : LSt RJ0 495 yJ1_charAt_3b067 cJ1_charAt_3b067 2 (some .char) 2 := ⟨tt_c3 67 (by decide +kernel) rfl, tt_c3 68 (by decide +kernel) rfl, tt_c1 17 (by decide +kernel) rfl, tt_c3 69 rfl rfl, by decide, by decide +kernel⟩
set_option maxRecDepth 100000 in
theorem lJ1_9 : LSt RJ1 9 yJ0_checkIndex_df160 cJ0_checkIndex_df160 2 none 2 := ⟨tt_c3 70 (by decide +kernel) rfl, tt_c3 71 (by decide +kernel) rfl, tt_c1 16 (by decide +kernel) rfl, tt_c3 72 rfl rfl, by decide, by decide +kernel⟩
set_option maxRecDepth 100000 in
theorem lJ0_1059 : LSt RJ0 1059 yJ3_checkIndex_8e157 cJ3_checkIndex_8e157 3 (some .int) 3 := ⟨tt_c3 75 (by decide +kernel) rfl, tt_c3 76 (by decide +kernel) rfl, tt_c1 18 (by decide +kernel) rfl, tt_c3 77 rfl rfl, by decide, by decide +kernel⟩
set_option maxRecDepth 100000 in
theorem lJ0_498 : LSt RJ0 498 yJ2_charAt_3b067 cJ2_charAt_3b067 2 (some .char) 2 := ⟨tt_c3 78 (by decide +kernel) rfl, tt_c3 79 (by decide +kernel) rfl, tt_c1 19 (by decide +kernel) rfl, tt_c3 80 rfl rfl, by decide, by decide +kernel⟩
set_option maxRecDepth 100000 in
theorem lJ2_67 : LSt RJ2 67 yJ2_checkIndex_2214a cJ2_checkIndex_2214a 2 none 2 := ⟨tt_c3 81 (by decide +kernel) rfl, tt_c3 82 (by decide +kernel) rfl, tt_c1 19 (by decide +kernel) rfl, tt_c3 83 rfl rfl, by decide, by decide +kernel⟩
set_option maxRecDepth 100000 in
theorem lJ2_48 : LSt RJ2 48 yJ2_length_9d52b cJ2_length_9d52b 1 (some .int) 1 := ⟨tt_c3 84 (by decide +kernel) rfl, tt_c3 85 (by decide +kernel) rfl, tt_c1 19 (by decide +kernel) rfl, tt_c3 86 rfl rfl, by decide, by decide +kernel⟩
set_option maxRecDepth 100000 in
theorem lJ2_414 : LSt RJ2 414 yJ0_checkIndex_df160 cJ0_checkIndex_df160 2 none 2 := ⟨tt_c3 87 (by decide +kernel) rfl, tt_c3 71 (by decide +kernel) rfl, tt_c1 16 (by decide +kernel) rfl, tt_c3 72 rfl rfl, by decide, by decide +kernel⟩
set_option maxRecDepth 100000 in
theorem lJ2_71 : LSt RJ2 71 yJ2_getChar_3b067 cJ2_getChar_3b067 2 (some .char) 2 := ⟨tt_c3 88 (by decide +kernel) rfl, tt_c3 89 (by decide +kernel) rfl, tt_c1 19 (by decide +kernel) rfl, tt_c3 90 rfl rfl, by decide, by decide +kernel⟩
set_option maxRecDepth 100000 in
theorem lX6_97 : LSt RX6 97 yJ9_max_7cf53 cJ9_max_7cf53 2 (some .int) 2 := ⟨tt_c3 97 (by decide +kernel) rfl, tt_c3 98 (by decide +kernel) rfl, tt_c1 15 (by decide +kernel) rfl, tt_c3 99 rfl rfl, by decide, by decide +kernel⟩
set_option maxRecDepth 100000 in
theorem lX6_43 : LV RX6 43 RX6 yX6_readHouse cX6_readHouse 4 none 1 := ⟨tt_c3 100 (by decide +kernel) rfl, tt_c3 102 (by decide +kernel) rfl, tt_in 14 (by decide +kernel) rfl, tt_c1 2 (by decide +kernel) rfl, tt_c3 103 rfl rfl, by decide, by decide +kernel⟩
set_option maxRecDepth 100000 in
theorem lX6_63 : LV RX6 63 RX6 yX6_readNumber cX6_readNumber 4 (some .int) 2 := ⟨tt_c3 104 (by decide +kernel) rfl, tt_c3 106 (by decide +kernel) rfl, tt_in 15 (by decide +kernel) rfl, tt_c1 2 (by decide +kernel) rfl, tt_c3 107 rfl rfl, by decide, by decide +kernel⟩
set_option maxRecDepth 100000 in
theorem lX6_35 : LV RX6 35 RX6 yX6_stands cX6_stands 2 (some .boolean) 1 := ⟨tt_c3 108 (by decide +kernel) rfl, tt_c3 110 (by decide +kernel) rfl, tt_in 16 (by decide +kernel) rfl, tt_c1 2 (by decide +kernel) rfl, tt_c3 111 rfl rfl, by decide, by decide +kernel⟩
set_option maxRecDepth 100000 in
theorem lX6_134 : LV RX6 134 RX6 yX6_isDigit cX6_isDigit 3 (some .boolean) 1 := ⟨tt_c3 112 (by decide +kernel) rfl, tt_c3 114 (by decide +kernel) rfl, tt_in 17 (by decide +kernel) rfl, tt_c1 2 (by decide +kernel) rfl, tt_c3 115 rfl rfl, by decide, by decide +kernel⟩
set_option maxRecDepth 100000 in
theorem lX6_112 : LV RX6 112 RX9 yX9_build cX9_build 4 (some .int) 2 := ⟨tt_c3 116 (by decide +kernel) rfl, tt_c2 202 (by decide +kernel) rfl, tt_c2 203 (by decide +kernel) rfl, tt_c1 11 (by decide +kernel) rfl, tt_c2 204 rfl rfl, by decide, by decide +kernel⟩
set_option maxRecDepth 100000 in
theorem lX6_47 : LV RX6 47 RX6 yX6_readCoat cX6_readCoat 6 none 0 := ⟨tt_c3 117 (by decide +kernel) rfl, tt_c3 119 (by decide +kernel) rfl, tt_in 18 (by decide +kernel) rfl, tt_c1 2 (by decide +kernel) rfl, tt_c3 120 rfl rfl, by decide, by decide +kernel⟩
set_option maxRecDepth 100000 in
theorem lX6_127 : LV RX6 127 RX3 yX3_putOn cX3_putOn 7 (some .int) 5 := ⟨tt_c3 121 (by decide +kernel) rfl, tt_c2 231 (by decide +kernel) rfl, tt_c2 232 (by decide +kernel) rfl, tt_c1 12 (by decide +kernel) rfl, tt_c2 233 rfl rfl, by decide, by decide +kernel⟩
set_option maxRecDepth 100000 in
theorem lX6_56 : LV RX6 56 RX6 yX6_readColour cX6_readColour 5 none 2 := ⟨tt_c3 122 (by decide +kernel) rfl, tt_c3 124 (by decide +kernel) rfl, tt_in 19 (by decide +kernel) rfl, tt_c1 2 (by decide +kernel) rfl, tt_c3 125 rfl rfl, by decide, by decide +kernel⟩
set_option maxRecDepth 100000 in
theorem lX6_67 : LV RX6 67 RX9 yX9_hailOnAll cX9_hailOnAll 5 (some .int) 1 := ⟨tt_c3 126 (by decide +kernel) rfl, tt_c3 127 (by decide +kernel) rfl, tt_c3 128 (by decide +kernel) rfl, tt_c1 11 (by decide +kernel) rfl, tt_c3 129 rfl rfl, by decide, by decide +kernel⟩
set_option maxRecDepth 100000 in
theorem lX9_107 : LV RX9 107 RX3 yX3_hailInTruth cX3_hailInTruth 4 (some .int) 2 := ⟨tt_c3 130 (by decide +kernel) rfl, tt_c3 131 (by decide +kernel) rfl, tt_c3 132 (by decide +kernel) rfl, tt_c1 12 (by decide +kernel) rfl, tt_c3 133 rfl rfl, by decide, by decide +kernel⟩
set_option maxRecDepth 100000 in
theorem lX3_78 : LV RX3 78 RX3 yX3_lyingIn cX3_lyingIn 4 (some .int) 1 := ⟨tt_c3 134 (by decide +kernel) rfl, tt_c3 135 (by decide +kernel) rfl, tt_c3 136 (by decide +kernel) rfl, tt_c1 12 (by decide +kernel) rfl, tt_c3 137 rfl rfl, by decide, by decide +kernel⟩
set_option maxRecDepth 100000 in
theorem lX3_81 : LV RX3 81 RX3 yX3_behindHail cX3_behindHail 6 (some .int) 2 := ⟨tt_c3 138 (by decide +kernel) rfl, tt_c3 139 (by decide +kernel) rfl, tt_c3 140 (by decide +kernel) rfl, tt_c1 12 (by decide +kernel) rfl, tt_c3 141 rfl rfl, by decide, by decide +kernel⟩
set_option maxRecDepth 100000 in
theorem lX3_84 : LSt RX3 84 yJ6_bitCount_0f7a4 cJ6_bitCount_0f7a4 1 (some .int) 1 := ⟨tt_c3 142 (by decide +kernel) rfl, tt_c3 143 (by decide +kernel) rfl, tt_c1 20 (by decide +kernel) rfl, tt_c3 144 rfl rfl, by decide, by decide +kernel⟩
set_option maxRecDepth 100000 in
theorem lX6_71 : LV RX6 71 RX6 yX6_readScratch cX6_readScratch 3 none 0 := ⟨tt_c3 148 (by decide +kernel) rfl, tt_c3 150 (by decide +kernel) rfl, tt_in 20 (by decide +kernel) rfl, tt_c1 2 (by decide +kernel) rfl, tt_c3 151 rfl rfl, by decide, by decide +kernel⟩
set_option maxRecDepth 100000 in
theorem lX6_131 : LV RX6 131 RX3 yX3_takeUppermost cX3_takeUppermost 3 (some .int) 1 := ⟨tt_c3 152 (by decide +kernel) rfl, tt_c3 153 (by decide +kernel) rfl, tt_c3 154 (by decide +kernel) rfl, tt_c1 12 (by decide +kernel) rfl, tt_c3 155 rfl rfl, by decide, by decide +kernel⟩
set_option maxRecDepth 100000 in
theorem lL_77 : LV "PaintedOverLaw" 77 RX11 yX11_fault cX11_fault 1 (some .int) 0 := ⟨tt_c3 157 (by decide +kernel) rfl, tt_c3 158 (by decide +kernel) rfl, tt_c3 159 (by decide +kernel) rfl, tt_c1 1 (by decide +kernel) rfl, tt_c3 160 rfl rfl, by decide, by decide +kernel⟩
set_option maxRecDepth 100000 in
theorem lL_82 : LV "PaintedOverLaw" 82 RX11 yX11_seen cX11_seen 5 (some .int) 3 := ⟨tt_c3 161 (by decide +kernel) rfl, tt_c3 162 (by decide +kernel) rfl, tt_c3 163 (by decide +kernel) rfl, tt_c1 1 (by decide +kernel) rfl, tt_c3 164 rfl rfl, by decide, by decide +kernel⟩
set_option maxRecDepth 100000 in
theorem lX11_224 : LV RX11 224 RX3 yX3_lyingIn cX3_lyingIn 4 (some .int) 1 := ⟨tt_c3 165 (by decide +kernel) rfl, tt_c3 135 (by decide +kernel) rfl, tt_c3 136 (by decide +kernel) rfl, tt_c1 12 (by decide +kernel) rfl, tt_c3 137 rfl rfl, by decide, by decide +kernel⟩
set_option maxRecDepth 100000 in
theorem lX11_227 : LV RX11 227 RX9 yX9_seenAmong cX9_seenAmong 8 (some .int) 4 := ⟨tt_c3 166 (by decide +kernel) rfl, tt_c3 167 (by decide +kernel) rfl, tt_c3 168 (by decide +kernel) rfl, tt_c1 11 (by decide +kernel) rfl, tt_c3 169 rfl rfl, by decide, by decide +kernel⟩
set_option maxRecDepth 100000 in
theorem lX9_86 : LV RX9 86 RX3 yX3_wetness cX3_wetness 3 (some .int) 2 := ⟨tt_c3 170 (by decide +kernel) rfl, tt_c2 118 (by decide +kernel) rfl, tt_c2 119 (by decide +kernel) rfl, tt_c1 12 (by decide +kernel) rfl, tt_c2 120 rfl rfl, by decide, by decide +kernel⟩
set_option maxRecDepth 100000 in
theorem lX9_96 : LV RX9 96 RX9 yX9_strength cX9_strength 4 (some .int) 3 := ⟨tt_c3 171 (by decide +kernel) rfl, tt_c2 165 (by decide +kernel) rfl, tt_c2 166 (by decide +kernel) rfl, tt_c1 11 (by decide +kernel) rfl, tt_c2 167 rfl rfl, by decide, by decide +kernel⟩
set_option maxRecDepth 100000 in
theorem lL_86 : LV "PaintedOverLaw" 86 RX11 yX11_wet cX11_wet 4 (some .int) 3 := ⟨tt_c3 172 (by decide +kernel) rfl, tt_c3 173 (by decide +kernel) rfl, tt_c3 174 (by decide +kernel) rfl, tt_c1 1 (by decide +kernel) rfl, tt_c3 175 rfl rfl, by decide, by decide +kernel⟩
set_option maxRecDepth 100000 in
theorem lL_90 : LV "PaintedOverLaw" 90 RX11 yX11_deep cX11_deep 3 (some .int) 2 := ⟨tt_c3 176 (by decide +kernel) rfl, tt_c3 177 (by decide +kernel) rfl, tt_c3 178 (by decide +kernel) rfl, tt_c1 1 (by decide +kernel) rfl, tt_c3 179 rfl rfl, by decide, by decide +kernel⟩
set_option maxRecDepth 100000 in
theorem lX11_234 : LV RX11 234 RX3 yX3_depth cX3_depth 2 (some .int) 1 := ⟨tt_c3 180 (by decide +kernel) rfl, tt_c2 186 (by decide +kernel) rfl, tt_c2 187 (by decide +kernel) rfl, tt_c1 12 (by decide +kernel) rfl, tt_c2 188 rfl rfl, by decide, by decide +kernel⟩
set_option maxRecDepth 100000 in
theorem lL_94 : LV "PaintedOverLaw" 94 RX11 yX11_skin cX11_skin 2 (some .int) 1 := ⟨tt_c3 181 (by decide +kernel) rfl, tt_c3 182 (by decide +kernel) rfl, tt_c3 183 (by decide +kernel) rfl, tt_c1 1 (by decide +kernel) rfl, tt_c3 184 rfl rfl, by decide, by decide +kernel⟩
set_option maxRecDepth 100000 in
theorem lL_98 : LV "PaintedOverLaw" 98 RX11 yX11_hailed cX11_hailed 4 (some .int) 3 := ⟨tt_c3 185 (by decide +kernel) rfl, tt_c3 186 (by decide +kernel) rfl, tt_c3 187 (by decide +kernel) rfl, tt_c1 1 (by decide +kernel) rfl, tt_c3 188 rfl rfl, by decide, by decide +kernel⟩
set_option maxRecDepth 100000 in
theorem lX11_237 : LV RX11 237 RX3 yX3_behindHail cX3_behindHail 6 (some .int) 2 := ⟨tt_c3 189 (by decide +kernel) rfl, tt_c3 139 (by decide +kernel) rfl, tt_c3 140 (by decide +kernel) rfl, tt_c1 12 (by decide +kernel) rfl, tt_c3 141 rfl rfl, by decide, by decide +kernel⟩
set_option maxRecDepth 100000 in
theorem lL_102 : LV "PaintedOverLaw" 102 RX11 yX11_razor cX11_razor 9 (some .int) 3 := ⟨tt_c3 190 (by decide +kernel) rfl, tt_c3 191 (by decide +kernel) rfl, tt_c3 192 (by decide +kernel) rfl, tt_c1 1 (by decide +kernel) rfl, tt_c3 193 rfl rfl, by decide, by decide +kernel⟩
set_option maxRecDepth 100000 in
theorem lX11_240 : LV RX11 240 RX3 yX3_lies cX3_lies 3 (some .boolean) 2 := ⟨tt_c3 194 (by decide +kernel) rfl, tt_c2 194 (by decide +kernel) rfl, tt_c2 195 (by decide +kernel) rfl, tt_c1 12 (by decide +kernel) rfl, tt_c2 196 rfl rfl, by decide, by decide +kernel⟩
set_option maxRecDepth 100000 in
theorem lX11_243 : LV RX11 243 RX3 yX3_depthFrom cX3_depthFrom 5 (some .int) 2 := ⟨tt_c3 195 (by decide +kernel) rfl, tt_c2 190 (by decide +kernel) rfl, tt_c2 191 (by decide +kernel) rfl, tt_c1 12 (by decide +kernel) rfl, tt_c2 192 rfl rfl, by decide, by decide +kernel⟩
set_option maxRecDepth 100000 in
theorem lL_106 : LV "PaintedOverLaw" 106 RX11 yX11_hidden cX11_hidden 4 (some .int) 2 := ⟨tt_c3 196 (by decide +kernel) rfl, tt_c3 197 (by decide +kernel) rfl, tt_c3 198 (by decide +kernel) rfl, tt_c1 1 (by decide +kernel) rfl, tt_c3 199 rfl rfl, by decide, by decide +kernel⟩
set_option maxRecDepth 100000 in
theorem lX11_246 : LV RX11 246 RX9 yX9_seenSomewhere cX9_seenSomewhere 6 (some .int) 2 := ⟨tt_c3 200 (by decide +kernel) rfl, tt_c3 201 (by decide +kernel) rfl, tt_c3 202 (by decide +kernel) rfl, tt_c1 11 (by decide +kernel) rfl, tt_c3 203 rfl rfl, by decide, by decide +kernel⟩
set_option maxRecDepth 100000 in
theorem lX9_100 : LV RX9 100 RX3 yX3_lyingIn cX3_lyingIn 4 (some .int) 1 := ⟨tt_c3 204 (by decide +kernel) rfl, tt_c3 135 (by decide +kernel) rfl, tt_c3 136 (by decide +kernel) rfl, tt_c1 12 (by decide +kernel) rfl, tt_c3 137 rfl rfl, by decide, by decide +kernel⟩
set_option maxRecDepth 100000 in
theorem lX9_103 : LV RX9 103 RX9 yX9_seenAmong cX9_seenAmong 8 (some .int) 4 := ⟨tt_c3 205 (by decide +kernel) rfl, tt_c3 167 (by decide +kernel) rfl, tt_c3 168 (by decide +kernel) rfl, tt_c1 11 (by decide +kernel) rfl, tt_c3 169 rfl rfl, by decide, by decide +kernel⟩
set_option maxRecDepth 100000 in
theorem lL_110 : LV "PaintedOverLaw" 110 RX11 yX11_shown cX11_shown 7 (some .int) 2 := ⟨tt_c3 206 (by decide +kernel) rfl, tt_c3 207 (by decide +kernel) rfl, tt_c3 208 (by decide +kernel) rfl, tt_c1 1 (by decide +kernel) rfl, tt_c3 209 rfl rfl, by decide, by decide +kernel⟩
set_option maxRecDepth 100000 in
theorem lL_114 : LV "PaintedOverLaw" 114 RX11 yX11_firstWet cX11_firstWet 5 (some .int) 2 := ⟨tt_c3 210 (by decide +kernel) rfl, tt_c3 211 (by decide +kernel) rfl, tt_c3 212 (by decide +kernel) rfl, tt_c1 1 (by decide +kernel) rfl, tt_c3 213 rfl rfl, by decide, by decide +kernel⟩
set_option maxRecDepth 100000 in
theorem lL_118 : LV "PaintedOverLaw" 118 RX11 yX11_paint cX11_paint 5 (some .int) 3 := ⟨tt_c3 214 (by decide +kernel) rfl, tt_c3 215 (by decide +kernel) rfl, tt_c3 216 (by decide +kernel) rfl, tt_c1 1 (by decide +kernel) rfl, tt_c3 217 rfl rfl, by decide, by decide +kernel⟩
set_option maxRecDepth 100000 in
theorem lX11_249 : LV RX11 249 RX3 yX3_wettestBut cX3_wettestBut 5 (some .int) 2 := ⟨tt_c3 218 (by decide +kernel) rfl, tt_c3 219 (by decide +kernel) rfl, tt_c3 220 (by decide +kernel) rfl, tt_c1 12 (by decide +kernel) rfl, tt_c3 221 rfl rfl, by decide, by decide +kernel⟩
set_option maxRecDepth 100000 in
theorem lX3_76 : LV RX3 76 RX3 yX3_wetness cX3_wetness 3 (some .int) 2 := ⟨tt_c3 222 (by decide +kernel) rfl, tt_c2 118 (by decide +kernel) rfl, tt_c2 119 (by decide +kernel) rfl, tt_c1 12 (by decide +kernel) rfl, tt_c2 120 rfl rfl, by decide, by decide +kernel⟩
set_option maxRecDepth 100000 in
theorem lX3_62 : LSt RX3 62 yJ9_max_7cf53 cJ9_max_7cf53 2 (some .int) 2 := ⟨tt_c3 223 (by decide +kernel) rfl, tt_c3 98 (by decide +kernel) rfl, tt_c1 15 (by decide +kernel) rfl, tt_c3 99 rfl rfl, by decide, by decide +kernel⟩
set_option maxRecDepth 100000 in
theorem lX11_252 : LV RX11 252 RX11 yX11_cheapest cX11_cheapest 8 (some .int) 2 := ⟨tt_c3 224 (by decide +kernel) rfl, tt_c3 226 (by decide +kernel) rfl, tt_in 21 (by decide +kernel) rfl, tt_c1 1 (by decide +kernel) rfl, tt_c3 227 rfl rfl, by decide, by decide +kernel⟩
set_option maxRecDepth 100000 in
theorem lL_122 : LV "PaintedOverLaw" 122 RX11 yX11_gap cX11_gap 9 (some .int) 2 := ⟨tt_c3 228 (by decide +kernel) rfl, tt_c3 229 (by decide +kernel) rfl, tt_c3 230 (by decide +kernel) rfl, tt_c1 1 (by decide +kernel) rfl, tt_c3 231 rfl rfl, by decide, by decide +kernel⟩
set_option maxRecDepth 100000 in
theorem lL_126 : LV "PaintedOverLaw" 126 RX11 yX11_moves cX11_moves 7 (some .int) 2 := ⟨tt_c3 232 (by decide +kernel) rfl, tt_c3 233 (by decide +kernel) rfl, tt_c3 234 (by decide +kernel) rfl, tt_c1 1 (by decide +kernel) rfl, tt_c3 235 rfl rfl, by decide, by decide +kernel⟩
set_option maxRecDepth 100000 in
theorem lX11_255 : LV RX11 255 RX3 yX3_coatsOf cX3_coatsOf 4 (some .int) 1 := ⟨tt_c3 236 (by decide +kernel) rfl, tt_c3 237 (by decide +kernel) rfl, tt_c3 238 (by decide +kernel) rfl, tt_c1 12 (by decide +kernel) rfl, tt_c3 239 rfl rfl, by decide, by decide +kernel⟩
set_option maxRecDepth 100000 in
theorem lL_130 : LV "PaintedOverLaw" 130 RX11 yX11_orders cX11_orders 6 (some .int) 3 := ⟨tt_c4 0 (by decide +kernel) rfl, tt_c4 1 (by decide +kernel) rfl, tt_c4 2 (by decide +kernel) rfl, tt_c1 1 (by decide +kernel) rfl, tt_c4 3 rfl rfl, by decide, by decide +kernel⟩
set_option maxRecDepth 100000 in
theorem lX11_258 : LV RX11 258 RX11 yX11_pairsTrouble cX11_pairsTrouble 6 (some .int) 3 := ⟨tt_c4 4 (by decide +kernel) rfl, tt_c4 6 (by decide +kernel) rfl, tt_in 22 (by decide +kernel) rfl, tt_c1 1 (by decide +kernel) rfl, tt_c4 7 rfl rfl, by decide, by decide +kernel⟩
set_option maxRecDepth 100000 in
theorem lX11_337 : LSt RX11 337 yX11_isPair cX11_isPair 1 (some .boolean) 1 := ⟨tt_c4 8 (by decide +kernel) rfl, tt_c4 9 (by decide +kernel) rfl, tt_c1 1 (by decide +kernel) rfl, tt_c4 10 rfl rfl, by decide, by decide +kernel⟩
set_option maxRecDepth 100000 in
theorem lX11_262 : LV RX11 262 RX11 yX11_forgetPairs cX11_forgetPairs 2 none 0 := ⟨tt_c4 11 (by decide +kernel) rfl, tt_c4 13 (by decide +kernel) rfl, tt_in 23 (by decide +kernel) rfl, tt_c1 1 (by decide +kernel) rfl, tt_c4 14 rfl rfl, by decide, by decide +kernel⟩
set_option maxRecDepth 100000 in
theorem lX11_265 : LV RX11 265 RX11 yX11_addPair cX11_addPair 2 none 1 := ⟨tt_c4 15 (by decide +kernel) rfl, tt_c4 17 (by decide +kernel) rfl, tt_in 24 (by decide +kernel) rfl, tt_c1 1 (by decide +kernel) rfl, tt_c4 18 rfl rfl, by decide, by decide +kernel⟩
set_option maxRecDepth 100000 in
theorem lX11_269 : LV RX11 269 RX11 yX11_countOrders cX11_countOrders 3 (some .int) 0 := ⟨tt_c4 19 (by decide +kernel) rfl, tt_c4 21 (by decide +kernel) rfl, tt_in 25 (by decide +kernel) rfl, tt_c1 1 (by decide +kernel) rfl, tt_c4 22 rfl rfl, by decide, by decide +kernel⟩
set_option maxRecDepth 100000 in
theorem lX11_340 : LV RX11 340 RX11 yX11_mayComeOn cX11_mayComeOn 3 (some .boolean) 2 := ⟨tt_c4 23 (by decide +kernel) rfl, tt_c4 25 (by decide +kernel) rfl, tt_in 26 (by decide +kernel) rfl, tt_c1 1 (by decide +kernel) rfl, tt_c4 26 rfl rfl, by decide, by decide +kernel⟩
set_option maxRecDepth 100000 in
theorem lX11_272 : LSt RX11 272 yJ6_bitCount_0f7a4 cJ6_bitCount_0f7a4 1 (some .int) 1 := ⟨tt_c4 27 (by decide +kernel) rfl, tt_c3 143 (by decide +kernel) rfl, tt_c1 20 (by decide +kernel) rfl, tt_c3 144 rfl rfl, by decide, by decide +kernel⟩
set_option maxRecDepth 100000 in
theorem lX11_277 : LV RX11 277 RX11 yX11_orderFits cX11_orderFits 4 (some .boolean) 0 := ⟨tt_c4 28 (by decide +kernel) rfl, tt_c4 30 (by decide +kernel) rfl, tt_in 27 (by decide +kernel) rfl, tt_c1 1 (by decide +kernel) rfl, tt_c4 31 rfl rfl, by decide, by decide +kernel⟩
set_option maxRecDepth 100000 in
theorem lX11_343 : LV RX11 343 RX11 yX11_lowestOn cX11_lowestOn 3 (some .int) 1 := ⟨tt_c4 32 (by decide +kernel) rfl, tt_c4 34 (by decide +kernel) rfl, tt_in 28 (by decide +kernel) rfl, tt_c1 1 (by decide +kernel) rfl, tt_c4 35 rfl rfl, by decide, by decide +kernel⟩
set_option maxRecDepth 100000 in
theorem lX11_281 : LV RX11 281 RX11 yX11_inFirstOrder cX11_inFirstOrder 5 (some .int) 1 := ⟨tt_c4 36 (by decide +kernel) rfl, tt_c4 38 (by decide +kernel) rfl, tt_in 29 (by decide +kernel) rfl, tt_c1 1 (by decide +kernel) rfl, tt_c4 39 rfl rfl, by decide, by decide +kernel⟩
set_option maxRecDepth 100000 in
theorem lL_134 : LV "PaintedOverLaw" 134 RX11 yX11_forged cX11_forged 5 (some .int) 2 := ⟨tt_c4 40 (by decide +kernel) rfl, tt_c4 41 (by decide +kernel) rfl, tt_c4 42 (by decide +kernel) rfl, tt_c1 1 (by decide +kernel) rfl, tt_c4 43 rfl rfl, by decide, by decide +kernel⟩
set_option maxRecDepth 100000 in
theorem lL_138 : LV "PaintedOverLaw" 138 RX11 yX11_lane cX11_lane 3 (some .int) 2 := ⟨tt_c4 44 (by decide +kernel) rfl, tt_c4 45 (by decide +kernel) rfl, tt_c4 46 (by decide +kernel) rfl, tt_c1 1 (by decide +kernel) rfl, tt_c4 47 rfl rfl, by decide, by decide +kernel⟩
set_option maxRecDepth 100000 in
theorem lX11_284 : LV RX11 284 RX3 yX3_greatestDepth cX3_greatestDepth 3 (some .int) 0 := ⟨tt_c4 48 (by decide +kernel) rfl, tt_c4 49 (by decide +kernel) rfl, tt_c4 50 (by decide +kernel) rfl, tt_c1 12 (by decide +kernel) rfl, tt_c4 51 rfl rfl, by decide, by decide +kernel⟩
set_option maxRecDepth 100000 in
theorem lL_142 : LV "PaintedOverLaw" 142 RX11 yX11_price cX11_price 8 (some .int) 2 := ⟨tt_c4 52 (by decide +kernel) rfl, tt_c4 53 (by decide +kernel) rfl, tt_c4 54 (by decide +kernel) rfl, tt_c1 1 (by decide +kernel) rfl, tt_c4 55 rfl rfl, by decide, by decide +kernel⟩
set_option maxRecDepth 100000 in
theorem lL_146 : LV "PaintedOverLaw" 146 RX11 yX11_hail cX11_hail 2 (some .int) 1 := ⟨tt_c4 56 (by decide +kernel) rfl, tt_c4 57 (by decide +kernel) rfl, tt_c4 58 (by decide +kernel) rfl, tt_c1 1 (by decide +kernel) rfl, tt_c4 59 rfl rfl, by decide, by decide +kernel⟩
set_option maxRecDepth 100000 in
theorem lX11_287 : LV RX11 287 RX9 yX9_hailOnAll cX9_hailOnAll 5 (some .int) 1 := ⟨tt_c4 60 (by decide +kernel) rfl, tt_c3 127 (by decide +kernel) rfl, tt_c3 128 (by decide +kernel) rfl, tt_c1 11 (by decide +kernel) rfl, tt_c3 129 rfl rfl, by decide, by decide +kernel⟩
set_option maxRecDepth 100000 in
theorem lL_150 : LV "PaintedOverLaw" 150 RX11 yX11_scratch cX11_scratch 4 (some .int) 2 := ⟨tt_c4 61 (by decide +kernel) rfl, tt_c4 62 (by decide +kernel) rfl, tt_c4 63 (by decide +kernel) rfl, tt_c1 1 (by decide +kernel) rfl, tt_c4 64 rfl rfl, by decide, by decide +kernel⟩
set_option maxRecDepth 100000 in
theorem lX11_290 : LV RX11 290 RX3 yX3_takeUppermost cX3_takeUppermost 3 (some .int) 1 := ⟨tt_c4 65 (by decide +kernel) rfl, tt_c3 153 (by decide +kernel) rfl, tt_c3 154 (by decide +kernel) rfl, tt_c1 12 (by decide +kernel) rfl, tt_c3 155 rfl rfl, by decide, by decide +kernel⟩
set_option maxRecDepth 100000 in
theorem lL_154 : LV "PaintedOverLaw" 154 RX11 yX11_falls cX11_falls 1 (some .int) 0 := ⟨tt_c4 66 (by decide +kernel) rfl, tt_c4 67 (by decide +kernel) rfl, tt_c4 68 (by decide +kernel) rfl, tt_c1 1 (by decide +kernel) rfl, tt_c4 69 rfl rfl, by decide, by decide +kernel⟩
set_option maxRecDepth 100000 in
theorem lX11_293 : LV RX11 293 RX9 yX9_letFall cX9_letFall 3 (some .int) 0 := ⟨tt_c4 70 (by decide +kernel) rfl, tt_c4 71 (by decide +kernel) rfl, tt_c4 72 (by decide +kernel) rfl, tt_c1 11 (by decide +kernel) rfl, tt_c4 73 rfl rfl, by decide, by decide +kernel⟩
set_option maxRecDepth 100000 in
theorem lX9_110 : LV RX9 110 RX3 yX3_wholeSkin cX3_wholeSkin 3 (some .int) 0 := ⟨tt_c4 74 (by decide +kernel) rfl, tt_c2 182 (by decide +kernel) rfl, tt_c2 183 (by decide +kernel) rfl, tt_c1 12 (by decide +kernel) rfl, tt_c2 184 rfl rfl, by decide, by decide +kernel⟩
set_option maxRecDepth 100000 in
theorem lL_158 : LV "PaintedOverLaw" 158 RX11 yX11_years cX11_years 4 (some .int) 1 := ⟨tt_c4 75 (by decide +kernel) rfl, tt_c4 76 (by decide +kernel) rfl, tt_c4 77 (by decide +kernel) rfl, tt_c1 1 (by decide +kernel) rfl, tt_c4 78 rfl rfl, by decide, by decide +kernel⟩
set_option maxRecDepth 100000 in
theorem lX11_299 : LV RX11 299 RX9 yX9_passYear cX9_passYear 6 none 0 := ⟨tt_c4 79 (by decide +kernel) rfl, tt_c4 80 (by decide +kernel) rfl, tt_c4 81 (by decide +kernel) rfl, tt_c1 11 (by decide +kernel) rfl, tt_c4 82 rfl rfl, by decide, by decide +kernel⟩
set_option maxRecDepth 100000 in
theorem lX9_115 : LV RX9 115 RX9 yX9_draw cX9_draw 2 (some .int) 1 := ⟨tt_c4 83 (by decide +kernel) rfl, tt_c4 85 (by decide +kernel) rfl, tt_in 30 (by decide +kernel) rfl, tt_c1 11 (by decide +kernel) rfl, tt_c4 86 rfl rfl, by decide, by decide +kernel⟩
set_option maxRecDepth 100000 in
theorem lX9_118 : LV RX9 118 RX3 yX3_putOn cX3_putOn 7 (some .int) 5 := ⟨tt_c4 88 (by decide +kernel) rfl, tt_c2 231 (by decide +kernel) rfl, tt_c2 232 (by decide +kernel) rfl, tt_c1 12 (by decide +kernel) rfl, tt_c2 233 rfl rfl, by decide, by decide +kernel⟩
set_option maxRecDepth 100000 in
theorem lX9_122 : LV RX9 122 RX9 yX9_hailOnAll cX9_hailOnAll 5 (some .int) 1 := ⟨tt_c4 89 (by decide +kernel) rfl, tt_c3 127 (by decide +kernel) rfl, tt_c3 128 (by decide +kernel) rfl, tt_c1 11 (by decide +kernel) rfl, tt_c3 129 rfl rfl, by decide, by decide +kernel⟩
set_option maxRecDepth 100000 in
theorem lX9_125 : LV RX9 125 RX9 yX9_letFall cX9_letFall 3 (some .int) 0 := ⟨tt_c4 90 (by decide +kernel) rfl, tt_c4 71 (by decide +kernel) rfl, tt_c4 72 (by decide +kernel) rfl, tt_c1 11 (by decide +kernel) rfl, tt_c4 73 rfl rfl, by decide, by decide +kernel⟩
set_option maxRecDepth 100000 in
theorem lL_162 : LV "PaintedOverLaw" 162 RX11 yX11_seed cX11_seed 3 (some .int) 1 := ⟨tt_c4 91 (by decide +kernel) rfl, tt_c4 92 (by decide +kernel) rfl, tt_c4 93 (by decide +kernel) rfl, tt_c1 1 (by decide +kernel) rfl, tt_c4 94 rfl rfl, by decide, by decide +kernel⟩
set_option maxRecDepth 100000 in
theorem lL_166 : LV "PaintedOverLaw" 166 RX11 yX11_act cX11_act 5 (some .int) 3 := ⟨tt_c4 95 (by decide +kernel) rfl, tt_c4 96 (by decide +kernel) rfl, tt_c4 97 (by decide +kernel) rfl, tt_c1 1 (by decide +kernel) rfl, tt_c4 98 rfl rfl, by decide, by decide +kernel⟩
set_option maxRecDepth 100000 in
theorem lX11_314 : LV RX11 314 RX4 yX4_actPaints cX4_actPaints 3 (some .int) 2 := ⟨tt_c4 99 (by decide +kernel) rfl, tt_c4 100 (by decide +kernel) rfl, tt_c4 101 (by decide +kernel) rfl, tt_c1 4 (by decide +kernel) rfl, tt_c4 126 rfl rfl, by decide, by decide +kernel⟩
set_option maxRecDepth 100000 in
theorem lX11_314_X0 : LU RX11 314 RX0 "PaintedOver$Kind" yX4_actPaints yX0_actPaints cX0_actPaints 3 (some .int) 2 := ⟨⟨tt_c4 99 (by decide +kernel) rfl, tt_c4 102 (by decide +kernel) rfl, tt_c4 103 (by decide +kernel) rfl, tt_c4 104 (by decide +kernel) rfl, tt_c1 10 (by decide +kernel) rfl, tt_c4 105 rfl rfl, by decide⟩, Or.inr ⟨tt_c4 100 (by decide +kernel) rfl, cX4_actPaints, 3, (some .int), tt_c4 126 rfl rfl⟩, by decide +kernel⟩
set_option maxRecDepth 100000 in
theorem lX11_314_X1 : LU RX11 314 RX1 "PaintedOver$Kind" yX4_actPaints yX2_actPaints cX2_actPaints 3 (some .int) 2 := ⟨⟨tt_c4 99 (by decide +kernel) rfl, tt_c4 102 (by decide +kernel) rfl, tt_c4 113 (by decide +kernel) rfl, tt_c4 114 (by decide +kernel) rfl, tt_c1 5 (by decide +kernel) rfl, tt_c4 115 rfl rfl, by decide⟩, Or.inr ⟨tt_c4 100 (by decide +kernel) rfl, cX4_actPaints, 3, (some .int), tt_c4 126 rfl rfl⟩, by decide +kernel⟩
set_option maxRecDepth 100000 in
theorem lX11_314_X2 : LU RX11 314 RX2 "PaintedOver$Kind" yX4_actPaints yX2_actPaints cX2_actPaints 3 (some .int) 2 := ⟨⟨tt_c4 99 (by decide +kernel) rfl, tt_c4 102 (by decide +kernel) rfl, tt_c4 118 (by decide +kernel) rfl, tt_c4 114 (by decide +kernel) rfl, tt_c1 5 (by decide +kernel) rfl, tt_c4 115 rfl rfl, by decide⟩, Or.inr ⟨tt_c4 100 (by decide +kernel) rfl, cX4_actPaints, 3, (some .int), tt_c4 126 rfl rfl⟩, by decide +kernel⟩
set_option maxRecDepth 100000 in
theorem lX11_314_X5 : LU RX11 314 RX5 "PaintedOver$Kind" yX4_actPaints yX4_actPaints cX4_actPaints 3 (some .int) 2 := ⟨⟨tt_c4 99 (by decide +kernel) rfl, tt_c4 102 (by decide +kernel) rfl, tt_c4 119 (by decide +kernel) rfl, tt_c4 100 (by decide +kernel) rfl, tt_c1 4 (by decide +kernel) rfl, tt_c4 126 rfl rfl, by decide⟩, Or.inl rfl, by decide +kernel⟩
set_option maxRecDepth 100000 in
theorem lX11_314_X7 : LU RX11 314 RX7 "PaintedOver$Kind" yX4_actPaints yX7_actPaints cX7_actPaints 3 (some .int) 2 := ⟨⟨tt_c4 99 (by decide +kernel) rfl, tt_c4 102 (by decide +kernel) rfl, tt_c4 120 (by decide +kernel) rfl, tt_c4 121 (by decide +kernel) rfl, tt_c1 8 (by decide +kernel) rfl, tt_c4 122 rfl rfl, by decide⟩, Or.inr ⟨tt_c4 100 (by decide +kernel) rfl, cX4_actPaints, 3, (some .int), tt_c4 126 rfl rfl⟩, by decide +kernel⟩
set_option maxRecDepth 100000 in
theorem lX11_314_X8 : LU RX11 314 RX8 "PaintedOver$Kind" yX4_actPaints yX4_actPaints cX4_actPaints 3 (some .int) 2 := ⟨⟨tt_c4 99 (by decide +kernel) rfl, tt_c4 102 (by decide +kernel) rfl, tt_c4 125 (by decide +kernel) rfl, tt_c4 100 (by decide +kernel) rfl, tt_c1 4 (by decide +kernel) rfl, tt_c4 126 rfl rfl, by decide⟩, Or.inl rfl, by decide +kernel⟩
set_option maxRecDepth 100000 in
theorem lX0_11 : LV RX0 11 RX10 yX10_begin cX10_begin 2 none 1 := ⟨tt_c4 106 (by decide +kernel) rfl, tt_c4 107 (by decide +kernel) rfl, tt_c4 108 (by decide +kernel) rfl, tt_c1 3 (by decide +kernel) rfl, tt_c4 109 rfl rfl, by decide, by decide +kernel⟩
set_option maxRecDepth 100000 in
theorem lX2_7 : LV RX2 7 RX10 yX10_begin cX10_begin 2 none 1 := ⟨tt_c4 116 (by decide +kernel) rfl, tt_c4 107 (by decide +kernel) rfl, tt_c4 108 (by decide +kernel) rfl, tt_c1 3 (by decide +kernel) rfl, tt_c4 109 rfl rfl, by decide, by decide +kernel⟩
set_option maxRecDepth 100000 in
theorem lX2_13 : LSU RX2 13 yX4_actPaints cX4_actPaints 3 (some .int) 2 := ⟨tt_c4 117 (by decide +kernel) rfl, tt_c4 102 (by decide +kernel) rfl, tt_c1 101 (by decide +kernel) rfl, tt_c4 100 (by decide +kernel) rfl, tt_c1 4 (by decide +kernel) rfl, tt_c4 126 rfl rfl, by decide, by decide +kernel⟩
set_option maxRecDepth 100000 in
theorem lX7_7 : LV RX7 7 RX10 yX10_begin cX10_begin 2 none 1 := ⟨tt_c4 123 (by decide +kernel) rfl, tt_c4 107 (by decide +kernel) rfl, tt_c4 108 (by decide +kernel) rfl, tt_c1 3 (by decide +kernel) rfl, tt_c4 109 rfl rfl, by decide, by decide +kernel⟩
set_option maxRecDepth 100000 in
theorem lX7_17 : LSU RX7 17 yX4_actPaints cX4_actPaints 3 (some .int) 2 := ⟨tt_c4 124 (by decide +kernel) rfl, tt_c4 102 (by decide +kernel) rfl, tt_c1 122 (by decide +kernel) rfl, tt_c4 100 (by decide +kernel) rfl, tt_c1 4 (by decide +kernel) rfl, tt_c4 126 rfl rfl, by decide, by decide +kernel⟩
set_option maxRecDepth 100000 in
theorem lX4_7 : LV RX4 7 RX10 yX10_begin cX10_begin 2 none 1 := ⟨tt_c4 127 (by decide +kernel) rfl, tt_c4 107 (by decide +kernel) rfl, tt_c4 108 (by decide +kernel) rfl, tt_c1 3 (by decide +kernel) rfl, tt_c4 109 rfl rfl, by decide, by decide +kernel⟩
set_option maxRecDepth 100000 in
theorem lX11_318 : LV RX11 318 RX4 yX4_actPeels cX4_actPeels 3 (some .int) 2 := ⟨tt_c4 128 (by decide +kernel) rfl, tt_c4 129 (by decide +kernel) rfl, tt_c4 130 (by decide +kernel) rfl, tt_c1 4 (by decide +kernel) rfl, tt_c4 151 rfl rfl, by decide, by decide +kernel⟩
set_option maxRecDepth 100000 in
theorem lX11_318_X0 : LU RX11 318 RX0 "PaintedOver$Kind" yX4_actPeels yX0_actPeels cX0_actPeels 3 (some .int) 2 := ⟨⟨tt_c4 128 (by decide +kernel) rfl, tt_c4 131 (by decide +kernel) rfl, tt_c4 132 (by decide +kernel) rfl, tt_c4 133 (by decide +kernel) rfl, tt_c1 10 (by decide +kernel) rfl, tt_c4 134 rfl rfl, by decide⟩, Or.inr ⟨tt_c4 129 (by decide +kernel) rfl, cX4_actPeels, 3, (some .int), tt_c4 151 rfl rfl⟩, by decide +kernel⟩
set_option maxRecDepth 100000 in
theorem lX11_318_X1 : LU RX11 318 RX1 "PaintedOver$Kind" yX4_actPeels yX1_actPeels cX1_actPeels 3 (some .int) 2 := ⟨⟨tt_c4 128 (by decide +kernel) rfl, tt_c4 131 (by decide +kernel) rfl, tt_c4 140 (by decide +kernel) rfl, tt_c4 141 (by decide +kernel) rfl, tt_c1 7 (by decide +kernel) rfl, tt_c4 142 rfl rfl, by decide⟩, Or.inr ⟨tt_c4 129 (by decide +kernel) rfl, cX4_actPeels, 3, (some .int), tt_c4 151 rfl rfl⟩, by decide +kernel⟩
set_option maxRecDepth 100000 in
theorem lX11_318_X2 : LU RX11 318 RX2 "PaintedOver$Kind" yX4_actPeels yX4_actPeels cX4_actPeels 3 (some .int) 2 := ⟨⟨tt_c4 128 (by decide +kernel) rfl, tt_c4 131 (by decide +kernel) rfl, tt_c4 147 (by decide +kernel) rfl, tt_c4 129 (by decide +kernel) rfl, tt_c1 4 (by decide +kernel) rfl, tt_c4 151 rfl rfl, by decide⟩, Or.inl rfl, by decide +kernel⟩
set_option maxRecDepth 100000 in
theorem lX11_318_X5 : LU RX11 318 RX5 "PaintedOver$Kind" yX4_actPeels yX5_actPeels cX5_actPeels 3 (some .int) 2 := ⟨⟨tt_c4 128 (by decide +kernel) rfl, tt_c4 131 (by decide +kernel) rfl, tt_c4 148 (by decide +kernel) rfl, tt_c4 136 (by decide +kernel) rfl, tt_c1 6 (by decide +kernel) rfl, tt_c4 137 rfl rfl, by decide⟩, Or.inr ⟨tt_c4 129 (by decide +kernel) rfl, cX4_actPeels, 3, (some .int), tt_c4 151 rfl rfl⟩, by decide +kernel⟩
set_option maxRecDepth 100000 in
theorem lX11_318_X7 : LU RX11 318 RX7 "PaintedOver$Kind" yX4_actPeels yX4_actPeels cX4_actPeels 3 (some .int) 2 := ⟨⟨tt_c4 128 (by decide +kernel) rfl, tt_c4 131 (by decide +kernel) rfl, tt_c4 149 (by decide +kernel) rfl, tt_c4 129 (by decide +kernel) rfl, tt_c1 4 (by decide +kernel) rfl, tt_c4 151 rfl rfl, by decide⟩, Or.inl rfl, by decide +kernel⟩
set_option maxRecDepth 100000 in
theorem lX11_318_X8 : LU RX11 318 RX8 "PaintedOver$Kind" yX4_actPeels yX5_actPeels cX5_actPeels 3 (some .int) 2 := ⟨⟨tt_c4 128 (by decide +kernel) rfl, tt_c4 131 (by decide +kernel) rfl, tt_c4 150 (by decide +kernel) rfl, tt_c4 136 (by decide +kernel) rfl, tt_c1 6 (by decide +kernel) rfl, tt_c4 137 rfl rfl, by decide⟩, Or.inr ⟨tt_c4 129 (by decide +kernel) rfl, cX4_actPeels, 3, (some .int), tt_c4 151 rfl rfl⟩, by decide +kernel⟩
set_option maxRecDepth 100000 in
theorem lX0_25 : LSU RX0 25 yX5_actPeels cX5_actPeels 3 (some .int) 2 := ⟨tt_c4 135 (by decide +kernel) rfl, tt_c6 185 (by decide +kernel) rfl, tt_c1 136 (by decide +kernel) rfl, tt_c4 136 (by decide +kernel) rfl, tt_c1 6 (by decide +kernel) rfl, tt_c4 137 rfl rfl, by decide, by decide +kernel⟩
set_option maxRecDepth 100000 in
theorem lX5_7 : LV RX5 7 RX10 yX10_begin cX10_begin 2 none 1 := ⟨tt_c4 138 (by decide +kernel) rfl, tt_c4 107 (by decide +kernel) rfl, tt_c4 108 (by decide +kernel) rfl, tt_c1 3 (by decide +kernel) rfl, tt_c4 109 rfl rfl, by decide, by decide +kernel⟩
set_option maxRecDepth 100000 in
theorem lX5_13 : LSU RX5 13 yX4_actPeels cX4_actPeels 3 (some .int) 2 := ⟨tt_c4 139 (by decide +kernel) rfl, tt_c4 131 (by decide +kernel) rfl, tt_c1 108 (by decide +kernel) rfl, tt_c4 129 (by decide +kernel) rfl, tt_c1 4 (by decide +kernel) rfl, tt_c4 151 rfl rfl, by decide, by decide +kernel⟩
set_option maxRecDepth 100000 in
theorem lX1_13 : LV RX1 13 RX10 yX10_begin cX10_begin 2 none 1 := ⟨tt_c4 143 (by decide +kernel) rfl, tt_c4 107 (by decide +kernel) rfl, tt_c4 108 (by decide +kernel) rfl, tt_c1 3 (by decide +kernel) rfl, tt_c4 109 rfl rfl, by decide, by decide +kernel⟩
set_option maxRecDepth 100000 in
theorem lX4_17 : LV RX4 17 RX4 yX4_actPaints cX4_actPaints 3 (some .int) 2 := ⟨tt_c4 152 (by decide +kernel) rfl, tt_c4 100 (by decide +kernel) rfl, tt_c4 101 (by decide +kernel) rfl, tt_c1 4 (by decide +kernel) rfl, tt_c4 126 rfl rfl, by decide, by decide +kernel⟩
set_option maxRecDepth 100000 in
theorem lX4_17_X0 : LU RX4 17 RX0 "PaintedOver$Kind" yX4_actPaints yX0_actPaints cX0_actPaints 3 (some .int) 2 := ⟨⟨tt_c4 152 (by decide +kernel) rfl, tt_c4 102 (by decide +kernel) rfl, tt_c4 103 (by decide +kernel) rfl, tt_c4 104 (by decide +kernel) rfl, tt_c1 10 (by decide +kernel) rfl, tt_c4 105 rfl rfl, by decide⟩, Or.inr ⟨tt_c4 100 (by decide +kernel) rfl, cX4_actPaints, 3, (some .int), tt_c4 126 rfl rfl⟩, by decide +kernel⟩
set_option maxRecDepth 100000 in
theorem lX4_17_X1 : LU RX4 17 RX1 "PaintedOver$Kind" yX4_actPaints yX2_actPaints cX2_actPaints 3 (some .int) 2 := ⟨⟨tt_c4 152 (by decide +kernel) rfl, tt_c4 102 (by decide +kernel) rfl, tt_c4 113 (by decide +kernel) rfl, tt_c4 114 (by decide +kernel) rfl, tt_c1 5 (by decide +kernel) rfl, tt_c4 115 rfl rfl, by decide⟩, Or.inr ⟨tt_c4 100 (by decide +kernel) rfl, cX4_actPaints, 3, (some .int), tt_c4 126 rfl rfl⟩, by decide +kernel⟩
set_option maxRecDepth 100000 in
theorem lX4_17_X2 : LU RX4 17 RX2 "PaintedOver$Kind" yX4_actPaints yX2_actPaints cX2_actPaints 3 (some .int) 2 := ⟨⟨tt_c4 152 (by decide +kernel) rfl, tt_c4 102 (by decide +kernel) rfl, tt_c4 118 (by decide +kernel) rfl, tt_c4 114 (by decide +kernel) rfl, tt_c1 5 (by decide +kernel) rfl, tt_c4 115 rfl rfl, by decide⟩, Or.inr ⟨tt_c4 100 (by decide +kernel) rfl, cX4_actPaints, 3, (some .int), tt_c4 126 rfl rfl⟩, by decide +kernel⟩
set_option maxRecDepth 100000 in
theorem lX4_17_X5 : LU RX4 17 RX5 "PaintedOver$Kind" yX4_actPaints yX4_actPaints cX4_actPaints 3 (some .int) 2 := ⟨⟨tt_c4 152 (by decide +kernel) rfl, tt_c4 102 (by decide +kernel) rfl, tt_c4 119 (by decide +kernel) rfl, tt_c4 100 (by decide +kernel) rfl, tt_c1 4 (by decide +kernel) rfl, tt_c4 126 rfl rfl, by decide⟩, Or.inl rfl, by decide +kernel⟩
set_option maxRecDepth 100000 in
theorem lX4_17_X7 : LU RX4 17 RX7 "PaintedOver$Kind" yX4_actPaints yX7_actPaints cX7_actPaints 3 (some .int) 2 := ⟨⟨tt_c4 152 (by decide +kernel) rfl, tt_c4 102 (by decide +kernel) rfl, tt_c4 120 (by decide +kernel) rfl, tt_c4 121 (by decide +kernel) rfl, tt_c1 8 (by decide +kernel) rfl, tt_c4 122 rfl rfl, by decide⟩, Or.inr ⟨tt_c4 100 (by decide +kernel) rfl, cX4_actPaints, 3, (some .int), tt_c4 126 rfl rfl⟩, by decide +kernel⟩
set_option maxRecDepth 100000 in
theorem lX4_17_X8 : LU RX4 17 RX8 "PaintedOver$Kind" yX4_actPaints yX4_actPaints cX4_actPaints 3 (some .int) 2 := ⟨⟨tt_c4 152 (by decide +kernel) rfl, tt_c4 102 (by decide +kernel) rfl, tt_c4 125 (by decide +kernel) rfl, tt_c4 100 (by decide +kernel) rfl, tt_c1 4 (by decide +kernel) rfl, tt_c4 126 rfl rfl, by decide⟩, Or.inl rfl, by decide +kernel⟩
set_option maxRecDepth 100000 in
theorem lX11_321 : LV RX11 321 RX4 yX4_actFalls cX4_actFalls 3 (some .int) 2 := ⟨tt_c4 153 (by decide +kernel) rfl, tt_c4 154 (by decide +kernel) rfl, tt_c4 155 (by decide +kernel) rfl, tt_c1 4 (by decide +kernel) rfl, tt_c4 172 rfl rfl, by decide, by decide +kernel⟩
set_option maxRecDepth 100000 in
theorem lX11_321_X0 : LU RX11 321 RX0 "PaintedOver$Kind" yX4_actFalls yX4_actFalls cX4_actFalls 3 (some .int) 2 := ⟨⟨tt_c4 153 (by decide +kernel) rfl, tt_c4 156 (by decide +kernel) rfl, tt_c4 157 (by decide +kernel) rfl, tt_c4 154 (by decide +kernel) rfl, tt_c1 4 (by decide +kernel) rfl, tt_c4 172 rfl rfl, by decide⟩, Or.inl rfl, by decide +kernel⟩
set_option maxRecDepth 100000 in
theorem lX11_321_X1 : LU RX11 321 RX1 "PaintedOver$Kind" yX4_actFalls yX4_actFalls cX4_actFalls 3 (some .int) 2 := ⟨⟨tt_c4 153 (by decide +kernel) rfl, tt_c4 156 (by decide +kernel) rfl, tt_c4 158 (by decide +kernel) rfl, tt_c4 154 (by decide +kernel) rfl, tt_c1 4 (by decide +kernel) rfl, tt_c4 172 rfl rfl, by decide⟩, Or.inl rfl, by decide +kernel⟩
set_option maxRecDepth 100000 in
theorem lX11_321_X2 : LU RX11 321 RX2 "PaintedOver$Kind" yX4_actFalls yX4_actFalls cX4_actFalls 3 (some .int) 2 := ⟨⟨tt_c4 153 (by decide +kernel) rfl, tt_c4 156 (by decide +kernel) rfl, tt_c4 159 (by decide +kernel) rfl, tt_c4 154 (by decide +kernel) rfl, tt_c1 4 (by decide +kernel) rfl, tt_c4 172 rfl rfl, by decide⟩, Or.inl rfl, by decide +kernel⟩
set_option maxRecDepth 100000 in
theorem lX11_321_X5 : LU RX11 321 RX5 "PaintedOver$Kind" yX4_actFalls yX4_actFalls cX4_actFalls 3 (some .int) 2 := ⟨⟨tt_c4 153 (by decide +kernel) rfl, tt_c4 156 (by decide +kernel) rfl, tt_c4 160 (by decide +kernel) rfl, tt_c4 154 (by decide +kernel) rfl, tt_c1 4 (by decide +kernel) rfl, tt_c4 172 rfl rfl, by decide⟩, Or.inl rfl, by decide +kernel⟩
set_option maxRecDepth 100000 in
theorem lX11_321_X7 : LU RX11 321 RX7 "PaintedOver$Kind" yX4_actFalls yX7_actFalls cX7_actFalls 3 (some .int) 2 := ⟨⟨tt_c4 153 (by decide +kernel) rfl, tt_c4 156 (by decide +kernel) rfl, tt_c4 161 (by decide +kernel) rfl, tt_c4 162 (by decide +kernel) rfl, tt_c1 8 (by decide +kernel) rfl, tt_c4 163 rfl rfl, by decide⟩, Or.inr ⟨tt_c4 154 (by decide +kernel) rfl, cX4_actFalls, 3, (some .int), tt_c4 172 rfl rfl⟩, by decide +kernel⟩
set_option maxRecDepth 100000 in
theorem lX11_321_X8 : LU RX11 321 RX8 "PaintedOver$Kind" yX4_actFalls yX8_actFalls cX8_actFalls 3 (some .int) 2 := ⟨⟨tt_c4 153 (by decide +kernel) rfl, tt_c4 156 (by decide +kernel) rfl, tt_c4 165 (by decide +kernel) rfl, tt_c4 166 (by decide +kernel) rfl, tt_c1 9 (by decide +kernel) rfl, tt_c4 167 rfl rfl, by decide⟩, Or.inr ⟨tt_c4 154 (by decide +kernel) rfl, cX4_actFalls, 3, (some .int), tt_c4 172 rfl rfl⟩, by decide +kernel⟩
set_option maxRecDepth 100000 in
theorem lX7_13 : LSU RX7 13 yX4_actFalls cX4_actFalls 3 (some .int) 2 := ⟨tt_c4 164 (by decide +kernel) rfl, tt_c4 156 (by decide +kernel) rfl, tt_c1 122 (by decide +kernel) rfl, tt_c4 154 (by decide +kernel) rfl, tt_c1 4 (by decide +kernel) rfl, tt_c4 172 rfl rfl, by decide, by decide +kernel⟩
set_option maxRecDepth 100000 in
theorem lX8_13 : LV RX8 13 RX10 yX10_begin cX10_begin 2 none 1 := ⟨tt_c4 168 (by decide +kernel) rfl, tt_c4 107 (by decide +kernel) rfl, tt_c4 108 (by decide +kernel) rfl, tt_c1 3 (by decide +kernel) rfl, tt_c4 109 rfl rfl, by decide, by decide +kernel⟩
set_option maxRecDepth 100000 in
theorem lX4_23 : LV RX4 23 RX4 yX4_actPeels cX4_actPeels 3 (some .int) 2 := ⟨tt_c4 173 (by decide +kernel) rfl, tt_c4 129 (by decide +kernel) rfl, tt_c4 130 (by decide +kernel) rfl, tt_c1 4 (by decide +kernel) rfl, tt_c4 151 rfl rfl, by decide, by decide +kernel⟩
set_option maxRecDepth 100000 in
theorem lX4_23_X0 : LU RX4 23 RX0 "PaintedOver$Kind" yX4_actPeels yX0_actPeels cX0_actPeels 3 (some .int) 2 := ⟨⟨tt_c4 173 (by decide +kernel) rfl, tt_c4 131 (by decide +kernel) rfl, tt_c4 132 (by decide +kernel) rfl, tt_c4 133 (by decide +kernel) rfl, tt_c1 10 (by decide +kernel) rfl, tt_c4 134 rfl rfl, by decide⟩, Or.inr ⟨tt_c4 129 (by decide +kernel) rfl, cX4_actPeels, 3, (some .int), tt_c4 151 rfl rfl⟩, by decide +kernel⟩
set_option maxRecDepth 100000 in
theorem lX4_23_X1 : LU RX4 23 RX1 "PaintedOver$Kind" yX4_actPeels yX1_actPeels cX1_actPeels 3 (some .int) 2 := ⟨⟨tt_c4 173 (by decide +kernel) rfl, tt_c4 131 (by decide +kernel) rfl, tt_c4 140 (by decide +kernel) rfl, tt_c4 141 (by decide +kernel) rfl, tt_c1 7 (by decide +kernel) rfl, tt_c4 142 rfl rfl, by decide⟩, Or.inr ⟨tt_c4 129 (by decide +kernel) rfl, cX4_actPeels, 3, (some .int), tt_c4 151 rfl rfl⟩, by decide +kernel⟩
set_option maxRecDepth 100000 in
theorem lX4_23_X2 : LU RX4 23 RX2 "PaintedOver$Kind" yX4_actPeels yX4_actPeels cX4_actPeels 3 (some .int) 2 := ⟨⟨tt_c4 173 (by decide +kernel) rfl, tt_c4 131 (by decide +kernel) rfl, tt_c4 147 (by decide +kernel) rfl, tt_c4 129 (by decide +kernel) rfl, tt_c1 4 (by decide +kernel) rfl, tt_c4 151 rfl rfl, by decide⟩, Or.inl rfl, by decide +kernel⟩
set_option maxRecDepth 100000 in
theorem lX4_23_X5 : LU RX4 23 RX5 "PaintedOver$Kind" yX4_actPeels yX5_actPeels cX5_actPeels 3 (some .int) 2 := ⟨⟨tt_c4 173 (by decide +kernel) rfl, tt_c4 131 (by decide +kernel) rfl, tt_c4 148 (by decide +kernel) rfl, tt_c4 136 (by decide +kernel) rfl, tt_c1 6 (by decide +kernel) rfl, tt_c4 137 rfl rfl, by decide⟩, Or.inr ⟨tt_c4 129 (by decide +kernel) rfl, cX4_actPeels, 3, (some .int), tt_c4 151 rfl rfl⟩, by decide +kernel⟩
set_option maxRecDepth 100000 in
theorem lX4_23_X7 : LU RX4 23 RX7 "PaintedOver$Kind" yX4_actPeels yX4_actPeels cX4_actPeels 3 (some .int) 2 := ⟨⟨tt_c4 173 (by decide +kernel) rfl, tt_c4 131 (by decide +kernel) rfl, tt_c4 149 (by decide +kernel) rfl, tt_c4 129 (by decide +kernel) rfl, tt_c1 4 (by decide +kernel) rfl, tt_c4 151 rfl rfl, by decide⟩, Or.inl rfl, by decide +kernel⟩
set_option maxRecDepth 100000 in
theorem lX4_23_X8 : LU RX4 23 RX8 "PaintedOver$Kind" yX4_actPeels yX5_actPeels cX5_actPeels 3 (some .int) 2 := ⟨⟨tt_c4 173 (by decide +kernel) rfl, tt_c4 131 (by decide +kernel) rfl, tt_c4 150 (by decide +kernel) rfl, tt_c4 136 (by decide +kernel) rfl, tt_c1 6 (by decide +kernel) rfl, tt_c4 137 rfl rfl, by decide⟩, Or.inr ⟨tt_c4 129 (by decide +kernel) rfl, cX4_actPeels, 3, (some .int), tt_c4 151 rfl rfl⟩, by decide +kernel⟩
set_option maxRecDepth 100000 in
theorem lL_170 : LV "PaintedOverLaw" 170 RX11 yX11_trace cX11_trace 2 (some .int) 1 := ⟨tt_c4 174 (by decide +kernel) rfl, tt_c4 175 (by decide +kernel) rfl, tt_c4 176 (by decide +kernel) rfl, tt_c1 1 (by decide +kernel) rfl, tt_c4 177 rfl rfl, by decide, by decide +kernel⟩
set_option maxRecDepth 100000 in
theorem lL_174 : LV "PaintedOverLaw" 174 RX11 yX11_image cX11_image 1 (some .int) 0 := ⟨tt_c4 178 (by decide +kernel) rfl, tt_c4 179 (by decide +kernel) rfl, tt_c4 180 (by decide +kernel) rfl, tt_c1 1 (by decide +kernel) rfl, tt_c4 181 rfl rfl, by decide, by decide +kernel⟩
set_option maxRecDepth 100000 in
theorem lL_178 : LV "PaintedOverLaw" 178 RX11 yX11_restore cX11_restore 2 (some .int) 0 := ⟨tt_c4 182 (by decide +kernel) rfl, tt_c4 183 (by decide +kernel) rfl, tt_c4 184 (by decide +kernel) rfl, tt_c1 1 (by decide +kernel) rfl, tt_c4 185 rfl rfl, by decide, by decide +kernel⟩
set_option maxRecDepth 100000 in
theorem lL_182 : LV "PaintedOverLaw" 182 RX11 yX11_status cX11_status 2 (some .int) 1 := ⟨tt_c4 186 (by decide +kernel) rfl, tt_c4 187 (by decide +kernel) rfl, tt_c4 188 (by decide +kernel) rfl, tt_c1 1 (by decide +kernel) rfl, tt_c4 189 rfl rfl, by decide, by decide +kernel⟩
set_option maxRecDepth 100000 in
theorem lX11_327 : LV RX11 327 RX9 yX9_coatsInAll cX9_coatsInAll 3 (some .int) 0 := ⟨tt_c4 190 (by decide +kernel) rfl, tt_c4 191 (by decide +kernel) rfl, tt_c4 192 (by decide +kernel) rfl, tt_c1 11 (by decide +kernel) rfl, tt_c4 193 rfl rfl, by decide, by decide +kernel⟩
set_option maxRecDepth 100000 in
theorem lL_12 : LI "PaintedOverLaw" 12 yX12_init cX12_init 2 0 := ⟨tt_c4 196 (by decide +kernel) rfl, tt_c4 197 (by decide +kernel) rfl, tt_c1 13 (by decide +kernel) rfl, tt_c4 198 rfl rfl, by decide, rfl, by decide +kernel⟩
theorem fX12_7 : GF RX12 7 12 0 RX12 TX12 := ⟨cfX12, by decide, tt_c4 200 (by decide +kernel) rfl⟩
theorem fX12_13 : GF RX12 13 12 1 RX12 TX12 := ⟨cfX12, by decide, tt_c4 201 (by decide +kernel) rfl⟩
theorem fX12_16 : GF RX12 16 12 2 RX12 TX12 := ⟨cfX12, by decide, tt_c4 202 (by decide +kernel) rfl⟩
theorem fX12_87 : GF RX12 87 12 3 RX12 TX12 := ⟨cfX12, by decide, tt_c4 203 (by decide +kernel) rfl⟩
theorem fX12_20 : GF RX12 20 12 4 RX12 TX12 := ⟨cfX12, by decide, tt_c4 204 (by decide +kernel) rfl⟩
theorem fX12_23 : GF RX12 23 12 5 RX12 TX12 := ⟨cfX12, by decide, tt_c4 205 (by decide +kernel) rfl⟩
theorem fX12_26 : GF RX12 26 12 6 RX12 TX12 := ⟨cfX12, by decide, tt_c4 206 (by decide +kernel) rfl⟩
theorem fX12_29 : GF RX12 29 12 7 RX12 TX12 := ⟨cfX12, by decide, tt_c4 207 (by decide +kernel) rfl⟩
theorem fX12_32 : GF RX12 32 12 8 RX12 TX12 := ⟨cfX12, by decide, tt_c4 208 (by decide +kernel) rfl⟩
theorem fX12_35 : GF RX12 35 12 9 RX12 TX12 := ⟨cfX12, by decide, tt_c4 209 (by decide +kernel) rfl⟩
theorem fX12_38 : GF RX12 38 12 10 RX12 TX12 := ⟨cfX12, by decide, tt_c4 210 (by decide +kernel) rfl⟩
theorem fX12_41 : GF RX12 41 12 11 RX12 TX12 := ⟨cfX12, by decide, tt_c4 211 (by decide +kernel) rfl⟩
theorem fX12_44 : GF RX12 44 12 12 RX12 TX12 := ⟨cfX12, by decide, tt_c4 212 (by decide +kernel) rfl⟩
theorem fX12_47 : GF RX12 47 12 13 RX12 TX12 := ⟨cfX12, by decide, tt_c4 213 (by decide +kernel) rfl⟩
theorem fX12_50 : GF RX12 50 12 14 RX12 TX12 := ⟨cfX12, by decide, tt_c4 214 (by decide +kernel) rfl⟩
theorem fX12_74 : GF RX12 74 12 15 RX12 TX12 := ⟨cfX12, by decide, tt_c4 215 (by decide +kernel) rfl⟩
theorem fX12_78 : GF RX12 78 12 16 RX12 TX12 := ⟨cfX12, by decide, tt_c4 216 (by decide +kernel) rfl⟩
theorem fX12_139 : GF RX12 139 12 17 RX12 TX12 := ⟨cfX12, by decide, tt_c4 217 (by decide +kernel) rfl⟩
theorem fX12_272 : GF RX12 272 12 18 RX12 TX12 := ⟨cfX12, by decide, tt_c4 218 (by decide +kernel) rfl⟩
theorem fX12_81 : GF RX12 81 12 19 RX12 TX12 := ⟨cfX12, by decide, tt_c4 219 (by decide +kernel) rfl⟩
theorem fX12_84 : GF RX12 84 12 20 RX12 TX12 := ⟨cfX12, by decide, tt_c4 220 (by decide +kernel) rfl⟩
theorem fX12_53 : GF RX12 53 12 21 RX12 TX12 := ⟨cfX12, by decide, tt_c4 221 (by decide +kernel) rfl⟩
theorem fX12_282 : GF RX12 282 12 22 RX12 TX12 := ⟨cfX12, by decide, tt_c4 222 (by decide +kernel) rfl⟩
theorem fX12_56 : GF RX12 56 12 23 RX12 TX12 := ⟨cfX12, by decide, tt_c4 223 (by decide +kernel) rfl⟩
theorem fX12_297 : GF RX12 297 12 24 RX12 TX12 := ⟨cfX12, by decide, tt_c4 224 (by decide +kernel) rfl⟩
theorem fX12_59 : GF RX12 59 12 25 RX12 TX12 := ⟨cfX12, by decide, tt_c4 225 (by decide +kernel) rfl⟩
theorem fX12_62 : GF RX12 62 12 26 RX12 TX12 := ⟨cfX12, by decide, tt_c4 226 (by decide +kernel) rfl⟩
theorem fX12_161 : GF RX12 161 12 27 RX12 TX12 := ⟨cfX12, by decide, tt_c4 227 (by decide +kernel) rfl⟩
theorem fX12_158 : GF RX12 158 12 28 RX12 TX12 := ⟨cfX12, by decide, tt_c4 228 (by decide +kernel) rfl⟩
theorem fX12_65 : GF RX12 65 12 29 RX12 TX12 := ⟨cfX12, by decide, tt_c4 229 (by decide +kernel) rfl⟩
theorem fX12_68 : GF RX12 68 12 30 RX12 TX12 := ⟨cfX12, by decide, tt_c4 230 (by decide +kernel) rfl⟩
theorem fX12_252 : GF RX12 252 12 31 RX12 TX12 := ⟨cfX12, by decide, tt_c4 231 (by decide +kernel) rfl⟩
theorem fX12_71 : GF RX12 71 12 32 RX12 TX12 := ⟨cfX12, by decide, tt_c4 232 (by decide +kernel) rfl⟩
set_option maxRecDepth 100000 in
theorem lL_17 : LV "PaintedOverLaw" 17 RX12 yX12_row cX12_row 5 (some .int) 3 := ⟨tt_c5 60 (by decide +kernel) rfl, tt_c5 61 (by decide +kernel) rfl, tt_c5 62 (by decide +kernel) rfl, tt_c1 13 (by decide +kernel) rfl, tt_c5 63 rfl rfl, by decide, by decide +kernel⟩
set_option maxRecDepth 100000 in
theorem lX12_90 : LSt RX12 90 yX12_within cX12_within 3 (some .boolean) 3 := ⟨tt_c5 64 (by decide +kernel) rfl, tt_c5 65 (by decide +kernel) rfl, tt_c1 13 (by decide +kernel) rfl, tt_c5 66 rfl rfl, by decide, by decide +kernel⟩
set_option maxRecDepth 100000 in
theorem lX12_98 : LV RX12 98 RX12 yX12_no cX12_no 2 (some .int) 1 := ⟨tt_c5 67 (by decide +kernel) rfl, tt_c5 69 (by decide +kernel) rfl, tt_in 31 (by decide +kernel) rfl, tt_c1 13 (by decide +kernel) rfl, tt_c5 70 rfl rfl, by decide, by decide +kernel⟩
set_option maxRecDepth 100000 in
theorem lL_24 : LV "PaintedOverLaw" 24 RX12 yX12_set cX12_set 7 (some .int) 3 := ⟨tt_c5 71 (by decide +kernel) rfl, tt_c5 72 (by decide +kernel) rfl, tt_c5 73 (by decide +kernel) rfl, tt_c1 13 (by decide +kernel) rfl, tt_c5 74 rfl rfl, by decide, by decide +kernel⟩
set_option maxRecDepth 100000 in
theorem lX12_105 : LV RX12 105 RX12 yX12_noRow cX12_noRow 2 (some .int) 1 := ⟨tt_c5 75 (by decide +kernel) rfl, tt_c5 77 (by decide +kernel) rfl, tt_in 32 (by decide +kernel) rfl, tt_c1 13 (by decide +kernel) rfl, tt_c5 78 rfl rfl, by decide, by decide +kernel⟩
set_option maxRecDepth 100000 in
theorem lX12_102 : LV RX12 102 RX12 yX12_isRow cX12_isRow 2 (some .boolean) 1 := ⟨tt_c5 79 (by decide +kernel) rfl, tt_c5 81 (by decide +kernel) rfl, tt_in 33 (by decide +kernel) rfl, tt_c1 13 (by decide +kernel) rfl, tt_c5 82 rfl rfl, by decide, by decide +kernel⟩
set_option maxRecDepth 100000 in
theorem lL_29 : LV "PaintedOverLaw" 29 RX12 yX12_copy cX12_copy 7 (some .int) 5 := ⟨tt_c5 83 (by decide +kernel) rfl, tt_c5 84 (by decide +kernel) rfl, tt_c5 85 (by decide +kernel) rfl, tt_c1 13 (by decide +kernel) rfl, tt_c5 86 rfl rfl, by decide, by decide +kernel⟩
set_option maxRecDepth 100000 in
theorem lL_34 : LV "PaintedOverLaw" 34 RX12 yX12_element cX12_element 3 (some .long) 2 := ⟨tt_c5 87 (by decide +kernel) rfl, tt_c5 88 (by decide +kernel) rfl, tt_c5 89 (by decide +kernel) rfl, tt_c1 13 (by decide +kernel) rfl, tt_c5 90 rfl rfl, by decide, by decide +kernel⟩
set_option maxRecDepth 100000 in
theorem lL_39 : LV "PaintedOverLaw" 39 RX12 yX12_show cX12_show 3 (some .int) 2 := ⟨tt_c5 91 (by decide +kernel) rfl, tt_c5 92 (by decide +kernel) rfl, tt_c5 93 (by decide +kernel) rfl, tt_c1 13 (by decide +kernel) rfl, tt_c5 94 rfl rfl, by decide, by decide +kernel⟩
set_option maxRecDepth 100000 in
theorem lX12_94 : LV RX12 94 RX12 yX12_isHouse cX12_isHouse 2 (some .boolean) 1 := ⟨tt_c5 95 (by decide +kernel) rfl, tt_c5 97 (by decide +kernel) rfl, tt_in 34 (by decide +kernel) rfl, tt_c1 13 (by decide +kernel) rfl, tt_c5 98 rfl rfl, by decide, by decide +kernel⟩
set_option maxRecDepth 100000 in
theorem lL_44 : LV "PaintedOverLaw" 44 RX12 yX12_holds cX12_holds 2 (some .int) 1 := ⟨tt_c5 99 (by decide +kernel) rfl, tt_c5 100 (by decide +kernel) rfl, tt_c5 101 (by decide +kernel) rfl, tt_c1 13 (by decide +kernel) rfl, tt_c5 102 rfl rfl, by decide, by decide +kernel⟩
set_option maxRecDepth 100000 in
theorem lL_48 : LV "PaintedOverLaw" 48 RX12 yX12_says cX12_says 4 (some .int) 2 := ⟨tt_c5 103 (by decide +kernel) rfl, tt_c5 104 (by decide +kernel) rfl, tt_c5 105 (by decide +kernel) rfl, tt_c1 13 (by decide +kernel) rfl, tt_c5 106 rfl rfl, by decide, by decide +kernel⟩
set_option maxRecDepth 100000 in
theorem lX12_111 : LSt RX12 111 yX12_isUnder cX12_isUnder 3 (some .boolean) 2 := ⟨tt_c5 107 (by decide +kernel) rfl, tt_c5 108 (by decide +kernel) rfl, tt_c1 13 (by decide +kernel) rfl, tt_c5 109 rfl rfl, by decide, by decide +kernel⟩
set_option maxRecDepth 100000 in
theorem lX12_108 : LSt RX12 108 yX12_above cX12_above 1 (some .int) 1 := ⟨tt_c5 110 (by decide +kernel) rfl, tt_c5 111 (by decide +kernel) rfl, tt_c1 13 (by decide +kernel) rfl, tt_c5 112 rfl rfl, by decide, by decide +kernel⟩
set_option maxRecDepth 100000 in
theorem lX12_115 : LV RX12 115 RX12 yX12_skinOf cX12_skinOf 4 (some .int) 1 := ⟨tt_c5 113 (by decide +kernel) rfl, tt_c5 115 (by decide +kernel) rfl, tt_in 35 (by decide +kernel) rfl, tt_c1 13 (by decide +kernel) rfl, tt_c5 116 rfl rfl, by decide, by decide +kernel⟩
set_option maxRecDepth 100000 in
theorem lX12_234 : LV RX12 234 RX12 yX12_deepOf cX12_deepOf 3 (some .int) 2 := ⟨tt_c5 117 (by decide +kernel) rfl, tt_c5 119 (by decide +kernel) rfl, tt_in 36 (by decide +kernel) rfl, tt_c1 13 (by decide +kernel) rfl, tt_c5 120 rfl rfl, by decide, by decide +kernel⟩
set_option maxRecDepth 100000 in
theorem lX12_152 : LV RX12 152 RX12 yX12_lies cX12_lies 5 (some .int) 2 := ⟨tt_c5 121 (by decide +kernel) rfl, tt_c5 123 (by decide +kernel) rfl, tt_in 37 (by decide +kernel) rfl, tt_c1 13 (by decide +kernel) rfl, tt_c5 124 rfl rfl, by decide, by decide +kernel⟩
set_option maxRecDepth 100000 in
theorem lX12_155 : LSt RX12 155 yX12_has cX12_has 2 (some .boolean) 2 := ⟨tt_c5 125 (by decide +kernel) rfl, tt_c5 126 (by decide +kernel) rfl, tt_c1 13 (by decide +kernel) rfl, tt_c5 127 rfl rfl, by decide, by decide +kernel⟩
set_option maxRecDepth 100000 in
theorem lX12_231 : LV RX12 231 RX12 yX12_sum cX12_sum 5 (some .int) 2 := ⟨tt_c5 128 (by decide +kernel) rfl, tt_c5 130 (by decide +kernel) rfl, tt_in 38 (by decide +kernel) rfl, tt_c1 13 (by decide +kernel) rfl, tt_c5 131 rfl rfl, by decide, by decide +kernel⟩
set_option maxRecDepth 100000 in
theorem lX12_118 : LV RX12 118 RX12 yX12_wetOf cX12_wetOf 6 (some .int) 3 := ⟨tt_c5 132 (by decide +kernel) rfl, tt_c5 134 (by decide +kernel) rfl, tt_in 39 (by decide +kernel) rfl, tt_c1 13 (by decide +kernel) rfl, tt_c5 135 rfl rfl, by decide, by decide +kernel⟩
set_option maxRecDepth 100000 in
theorem lX12_122 : LV RX12 122 RX12 yX12_hard cX12_hard 6 (some .int) 3 := ⟨tt_c5 136 (by decide +kernel) rfl, tt_c5 138 (by decide +kernel) rfl, tt_in 40 (by decide +kernel) rfl, tt_c1 13 (by decide +kernel) rfl, tt_c5 139 rfl rfl, by decide, by decide +kernel⟩
set_option maxRecDepth 100000 in
theorem lX12_223 : LSt RX12 223 yJ9_max_7cf53 cJ9_max_7cf53 2 (some .int) 2 := ⟨tt_c5 140 (by decide +kernel) rfl, tt_c3 98 (by decide +kernel) rfl, tt_c1 15 (by decide +kernel) rfl, tt_c3 99 rfl rfl, by decide, by decide +kernel⟩
set_option maxRecDepth 100000 in
theorem lX12_125 : LV RX12 125 RX12 yX12_strength cX12_strength 4 (some .int) 2 := ⟨tt_c5 141 (by decide +kernel) rfl, tt_c5 143 (by decide +kernel) rfl, tt_in 41 (by decide +kernel) rfl, tt_c1 13 (by decide +kernel) rfl, tt_c5 144 rfl rfl, by decide, by decide +kernel⟩
set_option maxRecDepth 100000 in
theorem lL_52 : LV "PaintedOverLaw" 52 RX12 yX12_house cX12_house 3 (some .int) 2 := ⟨tt_c5 145 (by decide +kernel) rfl, tt_c5 146 (by decide +kernel) rfl, tt_c5 147 (by decide +kernel) rfl, tt_c1 13 (by decide +kernel) rfl, tt_c5 148 rfl rfl, by decide, by decide +kernel⟩
set_option maxRecDepth 100000 in
theorem lX12_133 : LV RX12 133 RX12 yX12_newHouse cX12_newHouse 3 (some .int) 2 := ⟨tt_c5 149 (by decide +kernel) rfl, tt_c5 151 (by decide +kernel) rfl, tt_in 42 (by decide +kernel) rfl, tt_c1 13 (by decide +kernel) rfl, tt_c5 152 rfl rfl, by decide, by decide +kernel⟩
set_option maxRecDepth 100000 in
theorem lX12_129 : LV RX12 129 RX12 yX12_bare cX12_bare 3 none 1 := ⟨tt_c5 153 (by decide +kernel) rfl, tt_c5 155 (by decide +kernel) rfl, tt_in 43 (by decide +kernel) rfl, tt_c1 13 (by decide +kernel) rfl, tt_c5 156 rfl rfl, by decide, by decide +kernel⟩
set_option maxRecDepth 100000 in
theorem lL_56 : LV "PaintedOverLaw" 56 RX12 yX12_houseOf cX12_houseOf 3 (some .int) 2 := ⟨tt_c5 157 (by decide +kernel) rfl, tt_c5 158 (by decide +kernel) rfl, tt_c5 159 (by decide +kernel) rfl, tt_c1 13 (by decide +kernel) rfl, tt_c5 160 rfl rfl, by decide, by decide +kernel⟩
set_option maxRecDepth 100000 in
theorem lX12_136 : LV RX12 136 RX12 yX12_lived cX12_lived 4 (some .int) 1 := ⟨tt_c5 161 (by decide +kernel) rfl, tt_c5 163 (by decide +kernel) rfl, tt_in 44 (by decide +kernel) rfl, tt_c1 13 (by decide +kernel) rfl, tt_c5 164 rfl rfl, by decide, by decide +kernel⟩
set_option maxRecDepth 100000 in
theorem lL_60 : LV "PaintedOverLaw" 60 RX12 yX12_colour cX12_colour 5 (some .int) 3 := ⟨tt_c5 165 (by decide +kernel) rfl, tt_c5 166 (by decide +kernel) rfl, tt_c5 167 (by decide +kernel) rfl, tt_c1 13 (by decide +kernel) rfl, tt_c5 168 rfl rfl, by decide, by decide +kernel⟩
set_option maxRecDepth 100000 in
theorem lL_64 : LV "PaintedOverLaw" 64 RX12 yX12_ask cX12_ask 4 (some .int) 2 := ⟨tt_c5 169 (by decide +kernel) rfl, tt_c5 170 (by decide +kernel) rfl, tt_c5 171 (by decide +kernel) rfl, tt_c1 13 (by decide +kernel) rfl, tt_c5 172 rfl rfl, by decide, by decide +kernel⟩
set_option maxRecDepth 100000 in
theorem lL_68 : LV "PaintedOverLaw" 68 RX12 yX12_coat cX12_coat 6 (some .int) 5 := ⟨tt_c5 173 (by decide +kernel) rfl, tt_c5 174 (by decide +kernel) rfl, tt_c5 175 (by decide +kernel) rfl, tt_c1 13 (by decide +kernel) rfl, tt_c5 176 rfl rfl, by decide, by decide +kernel⟩
set_option maxRecDepth 100000 in
theorem lX12_142 : LSt RX12 142 yX12_isCell cX12_isCell 1 (some .boolean) 1 := ⟨tt_c5 177 (by decide +kernel) rfl, tt_c5 178 (by decide +kernel) rfl, tt_c1 13 (by decide +kernel) rfl, tt_c5 179 rfl rfl, by decide, by decide +kernel⟩
set_option maxRecDepth 100000 in
theorem lX12_145 : LV RX12 145 RX12 yX12_paints cX12_paints 7 (some .int) 5 := ⟨tt_c5 180 (by decide +kernel) rfl, tt_c5 182 (by decide +kernel) rfl, tt_in 45 (by decide +kernel) rfl, tt_c1 13 (by decide +kernel) rfl, tt_c5 183 rfl rfl, by decide, by decide +kernel⟩
set_option maxRecDepth 100000 in
theorem lL_72 : LV "PaintedOverLaw" 72 RX12 yX12_coatOf cX12_coatOf 7 (some .int) 3 := ⟨tt_c5 184 (by decide +kernel) rfl, tt_c5 185 (by decide +kernel) rfl, tt_c5 186 (by decide +kernel) rfl, tt_c1 13 (by decide +kernel) rfl, tt_c5 187 rfl rfl, by decide, by decide +kernel⟩
set_option maxRecDepth 100000 in
theorem lX12_149 : LV RX12 149 RX12 yX12_isCoat cX12_isCoat 3 (some .boolean) 2 := ⟨tt_c5 188 (by decide +kernel) rfl, tt_c5 190 (by decide +kernel) rfl, tt_in 46 (by decide +kernel) rfl, tt_c1 13 (by decide +kernel) rfl, tt_c5 191 rfl rfl, by decide, by decide +kernel⟩
set_option maxRecDepth 100000 in
theorem lL_76 : LV "PaintedOverLaw" 76 RX12 yX12_street cX12_street 5 (some .int) 1 := ⟨tt_c5 192 (by decide +kernel) rfl, tt_c5 193 (by decide +kernel) rfl, tt_c5 194 (by decide +kernel) rfl, tt_c1 13 (by decide +kernel) rfl, tt_c5 195 rfl rfl, by decide, by decide +kernel⟩
set_option maxRecDepth 100000 in
theorem lX12_209 : LV RX12 209 RX12 yX12_keep cX12_keep 3 none 1 := ⟨tt_c5 196 (by decide +kernel) rfl, tt_c5 198 (by decide +kernel) rfl, tt_in 47 (by decide +kernel) rfl, tt_c1 13 (by decide +kernel) rfl, tt_c5 199 rfl rfl, by decide, by decide +kernel⟩
set_option maxRecDepth 100000 in
theorem lX12_213 : LV RX12 213 RX12 yX12_item cX12_item 4 (some .boolean) 0 := ⟨tt_c5 200 (by decide +kernel) rfl, tt_c5 202 (by decide +kernel) rfl, tt_in 48 (by decide +kernel) rfl, tt_c1 13 (by decide +kernel) rfl, tt_c5 203 rfl rfl, by decide, by decide +kernel⟩
set_option maxRecDepth 100000 in
theorem lX12_177 : LV RX12 177 RX12 yX12_is cX12_is 2 (some .boolean) 1 := ⟨tt_c5 204 (by decide +kernel) rfl, tt_c5 206 (by decide +kernel) rfl, tt_in 49 (by decide +kernel) rfl, tt_c1 13 (by decide +kernel) rfl, tt_c5 207 rfl rfl, by decide, by decide +kernel⟩
set_option maxRecDepth 100000 in
theorem lX12_164 : LV RX12 164 RX12 yX12_sign cX12_sign 1 (some .int) 0 := ⟨tt_c5 208 (by decide +kernel) rfl, tt_c5 210 (by decide +kernel) rfl, tt_in 50 (by decide +kernel) rfl, tt_c1 13 (by decide +kernel) rfl, tt_c5 211 rfl rfl, by decide, by decide +kernel⟩
set_option maxRecDepth 100000 in
theorem lX12_183 : LV RX12 183 RX12 yX12_word cX12_word 3 (some .boolean) 1 := ⟨tt_c5 213 (by decide +kernel) rfl, tt_c5 215 (by decide +kernel) rfl, tt_in 51 (by decide +kernel) rfl, tt_c1 13 (by decide +kernel) rfl, tt_c5 216 rfl rfl, by decide, by decide +kernel⟩
set_option maxRecDepth 100000 in
theorem lX12_168 : LV RX12 168 RJ0 yJ0_length_8abf5 cJ0_length_8abf5 1 (some .int) 0 := ⟨tt_c5 217 (by decide +kernel) rfl, tt_c3 46 (by decide +kernel) rfl, tt_c3 47 (by decide +kernel) rfl, tt_c1 16 (by decide +kernel) rfl, tt_c3 48 rfl rfl, by decide, by decide +kernel⟩
set_option maxRecDepth 100000 in
theorem lX12_173 : LV RX12 173 RJ0 yJ0_charAt_5068e cJ0_charAt_5068e 2 (some .char) 1 := ⟨tt_c5 218 (by decide +kernel) rfl, tt_c3 60 (by decide +kernel) rfl, tt_c3 61 (by decide +kernel) rfl, tt_c1 16 (by decide +kernel) rfl, tt_c3 62 rfl rfl, by decide, by decide +kernel⟩
set_option maxRecDepth 100000 in
theorem lX12_187 : LV RX12 187 RX12 yX12_number cX12_number 6 (some .boolean) 3 := ⟨tt_c5 219 (by decide +kernel) rfl, tt_c5 221 (by decide +kernel) rfl, tt_in 52 (by decide +kernel) rfl, tt_c1 13 (by decide +kernel) rfl, tt_c5 222 rfl rfl, by decide, by decide +kernel⟩
set_option maxRecDepth 100000 in
theorem lX12_190 : LV RX12 190 RX12 yX12_sign_ cX12_sign_ 2 (some .int) 1 := ⟨tt_c5 223 (by decide +kernel) rfl, tt_c5 225 (by decide +kernel) rfl, tt_in 53 (by decide +kernel) rfl, tt_c1 13 (by decide +kernel) rfl, tt_c5 226 rfl rfl, by decide, by decide +kernel⟩
set_option maxRecDepth 100000 in
theorem lX12_192 : LSt RX12 192 yJ6_highestOneBit_0f7a4 cJ6_highestOneBit_0f7a4 1 (some .int) 1 := ⟨tt_c5 227 (by decide +kernel) rfl, tt_c5 228 (by decide +kernel) rfl, tt_c1 20 (by decide +kernel) rfl, tt_c5 229 rfl rfl, by decide, by decide +kernel⟩
set_option maxRecDepth 100000 in
theorem lJ6_51 : LSt RJ6 51 yJ6_numberOfLeadingZeros_0f7a4 cJ6_numberOfLeadingZeros_0f7a4 2 (some .int) 1 := ⟨tt_c5 231 (by decide +kernel) rfl, tt_c5 232 (by decide +kernel) rfl, tt_c1 20 (by decide +kernel) rfl, tt_c5 233 rfl rfl, by decide, by decide +kernel⟩
set_option maxRecDepth 100000 in
theorem lX12_204 : LV RX12 204 RX12 yX12_hailAll cX12_hailAll 6 (some .int) 1 := ⟨tt_c5 239 (by decide +kernel) rfl, tt_c6 1 (by decide +kernel) rfl, tt_in 54 (by decide +kernel) rfl, tt_c1 13 (by decide +kernel) rfl, tt_c6 2 rfl rfl, by decide, by decide +kernel⟩
set_option maxRecDepth 100000 in
theorem lX12_246 : LV RX12 246 RX12 yX12_behind cX12_behind 7 (some .int) 3 := ⟨tt_c6 3 (by decide +kernel) rfl, tt_c6 5 (by decide +kernel) rfl, tt_in 55 (by decide +kernel) rfl, tt_c1 13 (by decide +kernel) rfl, tt_c6 6 rfl rfl, by decide, by decide +kernel⟩
set_option maxRecDepth 100000 in
theorem lX12_228 : LSt RX12 228 yJ6_numberOfLeadingZeros_0f7a4 cJ6_numberOfLeadingZeros_0f7a4 2 (some .int) 1 := ⟨tt_c6 7 (by decide +kernel) rfl, tt_c5 232 (by decide +kernel) rfl, tt_c1 20 (by decide +kernel) rfl, tt_c5 233 rfl rfl, by decide, by decide +kernel⟩
set_option maxRecDepth 100000 in
theorem lX12_266 : LSt RX12 266 yJ6_bitCount_0f7a4 cJ6_bitCount_0f7a4 1 (some .int) 1 := ⟨tt_c6 8 (by decide +kernel) rfl, tt_c3 143 (by decide +kernel) rfl, tt_c1 20 (by decide +kernel) rfl, tt_c3 144 rfl rfl, by decide, by decide +kernel⟩
set_option maxRecDepth 100000 in
theorem lX12_217 : LV RX12 217 RX12 yX12_again cX12_again 3 none 1 := ⟨tt_c6 10 (by decide +kernel) rfl, tt_c6 12 (by decide +kernel) rfl, tt_in 56 (by decide +kernel) rfl, tt_c1 13 (by decide +kernel) rfl, tt_c6 13 rfl rfl, by decide, by decide +kernel⟩
set_option maxRecDepth 100000 in
theorem lL_81 : LV "PaintedOverLaw" 81 RX12 yX12_fault cX12_fault 1 (some .int) 0 := ⟨tt_c6 14 (by decide +kernel) rfl, tt_c6 15 (by decide +kernel) rfl, tt_c6 16 (by decide +kernel) rfl, tt_c1 13 (by decide +kernel) rfl, tt_c6 17 rfl rfl, by decide, by decide +kernel⟩
set_option maxRecDepth 100000 in
theorem lL_85 : LV "PaintedOverLaw" 85 RX12 yX12_seen cX12_seen 4 (some .int) 3 := ⟨tt_c6 18 (by decide +kernel) rfl, tt_c6 19 (by decide +kernel) rfl, tt_c6 20 (by decide +kernel) rfl, tt_c1 13 (by decide +kernel) rfl, tt_c6 21 rfl rfl, by decide, by decide +kernel⟩
set_option maxRecDepth 100000 in
theorem lX12_237 : LV RX12 237 RX12 yX12_no10 cX12_no10 2 (some .int) 1 := ⟨tt_c6 22 (by decide +kernel) rfl, tt_c6 24 (by decide +kernel) rfl, tt_in 57 (by decide +kernel) rfl, tt_c1 13 (by decide +kernel) rfl, tt_c6 25 rfl rfl, by decide, by decide +kernel⟩
set_option maxRecDepth 100000 in
theorem lX12_240 : LSt RX12 240 yX12_isWeather cX12_isWeather 1 (some .boolean) 1 := ⟨tt_c6 26 (by decide +kernel) rfl, tt_c6 27 (by decide +kernel) rfl, tt_c1 13 (by decide +kernel) rfl, tt_c6 28 rfl rfl, by decide, by decide +kernel⟩
set_option maxRecDepth 100000 in
theorem lX12_243 : LV RX12 243 RX12 yX12_seenAt cX12_seenAt 4 (some .int) 3 := ⟨tt_c6 29 (by decide +kernel) rfl, tt_c6 31 (by decide +kernel) rfl, tt_in 58 (by decide +kernel) rfl, tt_c1 13 (by decide +kernel) rfl, tt_c6 32 rfl rfl, by decide, by decide +kernel⟩
set_option maxRecDepth 100000 in
theorem lX12_220 : LV RX12 220 RX12 yX12_seenIn cX12_seenIn 5 (some .int) 3 := ⟨tt_c6 33 (by decide +kernel) rfl, tt_c6 35 (by decide +kernel) rfl, tt_in 59 (by decide +kernel) rfl, tt_c1 13 (by decide +kernel) rfl, tt_c6 36 rfl rfl, by decide, by decide +kernel⟩
set_option maxRecDepth 100000 in
theorem lL_89 : LV "PaintedOverLaw" 89 RX12 yX12_wet cX12_wet 4 (some .int) 3 := ⟨tt_c6 37 (by decide +kernel) rfl, tt_c6 38 (by decide +kernel) rfl, tt_c6 39 (by decide +kernel) rfl, tt_c1 13 (by decide +kernel) rfl, tt_c6 40 rfl rfl, by decide, by decide +kernel⟩
set_option maxRecDepth 100000 in
theorem lL_93 : LV "PaintedOverLaw" 93 RX12 yX12_deep cX12_deep 3 (some .int) 2 := ⟨tt_c6 41 (by decide +kernel) rfl, tt_c6 42 (by decide +kernel) rfl, tt_c6 43 (by decide +kernel) rfl, tt_c1 13 (by decide +kernel) rfl, tt_c6 44 rfl rfl, by decide, by decide +kernel⟩
set_option maxRecDepth 100000 in
theorem lL_97 : LV "PaintedOverLaw" 97 RX12 yX12_skin cX12_skin 2 (some .int) 1 := ⟨tt_c6 45 (by decide +kernel) rfl, tt_c6 46 (by decide +kernel) rfl, tt_c6 47 (by decide +kernel) rfl, tt_c1 13 (by decide +kernel) rfl, tt_c6 48 rfl rfl, by decide, by decide +kernel⟩
set_option maxRecDepth 100000 in
theorem lL_101 : LV "PaintedOverLaw" 101 RX12 yX12_hailed cX12_hailed 4 (some .int) 3 := ⟨tt_c6 49 (by decide +kernel) rfl, tt_c6 50 (by decide +kernel) rfl, tt_c6 51 (by decide +kernel) rfl, tt_c1 13 (by decide +kernel) rfl, tt_c6 52 rfl rfl, by decide, by decide +kernel⟩
set_option maxRecDepth 100000 in
theorem lL_105 : LV "PaintedOverLaw" 105 RX12 yX12_razor cX12_razor 9 (some .int) 3 := ⟨tt_c6 53 (by decide +kernel) rfl, tt_c6 54 (by decide +kernel) rfl, tt_c6 55 (by decide +kernel) rfl, tt_c1 13 (by decide +kernel) rfl, tt_c6 56 rfl rfl, by decide, by decide +kernel⟩
set_option maxRecDepth 100000 in
theorem lL_109 : LV "PaintedOverLaw" 109 RX12 yX12_hidden cX12_hidden 3 (some .int) 2 := ⟨tt_c6 57 (by decide +kernel) rfl, tt_c6 58 (by decide +kernel) rfl, tt_c6 59 (by decide +kernel) rfl, tt_c1 13 (by decide +kernel) rfl, tt_c6 60 rfl rfl, by decide, by decide +kernel⟩
set_option maxRecDepth 100000 in
theorem lX12_249 : LV RX12 249 RX12 yX12_seenAll cX12_seenAll 6 (some .int) 2 := ⟨tt_c6 61 (by decide +kernel) rfl, tt_c6 63 (by decide +kernel) rfl, tt_in 60 (by decide +kernel) rfl, tt_c1 13 (by decide +kernel) rfl, tt_c6 64 rfl rfl, by decide, by decide +kernel⟩
set_option maxRecDepth 100000 in
theorem lL_113 : LV "PaintedOverLaw" 113 RX12 yX12_shown cX12_shown 6 (some .int) 2 := ⟨tt_c6 65 (by decide +kernel) rfl, tt_c6 66 (by decide +kernel) rfl, tt_c6 67 (by decide +kernel) rfl, tt_c1 13 (by decide +kernel) rfl, tt_c6 68 rfl rfl, by decide, by decide +kernel⟩
set_option maxRecDepth 100000 in
theorem lL_117 : LV "PaintedOverLaw" 117 RX12 yX12_firstWet cX12_firstWet 4 (some .int) 2 := ⟨tt_c6 69 (by decide +kernel) rfl, tt_c6 70 (by decide +kernel) rfl, tt_c6 71 (by decide +kernel) rfl, tt_c1 13 (by decide +kernel) rfl, tt_c6 72 rfl rfl, by decide, by decide +kernel⟩
set_option maxRecDepth 100000 in
theorem lL_121 : LV "PaintedOverLaw" 121 RX12 yX12_paint cX12_paint 10 (some .int) 3 := ⟨tt_c6 73 (by decide +kernel) rfl, tt_c6 74 (by decide +kernel) rfl, tt_c6 75 (by decide +kernel) rfl, tt_c1 13 (by decide +kernel) rfl, tt_c6 76 rfl rfl, by decide, by decide +kernel⟩
set_option maxRecDepth 100000 in
theorem lL_125 : LV "PaintedOverLaw" 125 RX12 yX12_gap cX12_gap 6 (some .int) 2 := ⟨tt_c6 77 (by decide +kernel) rfl, tt_c6 78 (by decide +kernel) rfl, tt_c6 79 (by decide +kernel) rfl, tt_c1 13 (by decide +kernel) rfl, tt_c6 80 rfl rfl, by decide, by decide +kernel⟩
set_option maxRecDepth 100000 in
theorem lL_129 : LV "PaintedOverLaw" 129 RX12 yX12_moves cX12_moves 7 (some .int) 2 := ⟨tt_c6 81 (by decide +kernel) rfl, tt_c6 82 (by decide +kernel) rfl, tt_c6 83 (by decide +kernel) rfl, tt_c1 13 (by decide +kernel) rfl, tt_c6 84 rfl rfl, by decide, by decide +kernel⟩
set_option maxRecDepth 100000 in
theorem lL_133 : LV "PaintedOverLaw" 133 RX12 yX12_orders cX12_orders 9 (some .int) 3 := ⟨tt_c6 85 (by decide +kernel) rfl, tt_c6 86 (by decide +kernel) rfl, tt_c6 87 (by decide +kernel) rfl, tt_c1 13 (by decide +kernel) rfl, tt_c6 88 rfl rfl, by decide, by decide +kernel⟩
set_option maxRecDepth 100000 in
theorem lX12_258 : LV RX12 258 RX12 yX12_noPairs cX12_noPairs 7 (some .int) 3 := ⟨tt_c6 89 (by decide +kernel) rfl, tt_c6 91 (by decide +kernel) rfl, tt_in 61 (by decide +kernel) rfl, tt_c1 13 (by decide +kernel) rfl, tt_c6 92 rfl rfl, by decide, by decide +kernel⟩
set_option maxRecDepth 100000 in
theorem lX12_262 : LV RX12 262 RX12 yX12_pairs cX12_pairs 5 none 2 := ⟨tt_c6 93 (by decide +kernel) rfl, tt_c6 95 (by decide +kernel) rfl, tt_in 62 (by decide +kernel) rfl, tt_c1 13 (by decide +kernel) rfl, tt_c6 96 rfl rfl, by decide, by decide +kernel⟩
set_option maxRecDepth 100000 in
theorem lX12_255 : LV RX12 255 RX12 yX12_ordersFrom cX12_ordersFrom 4 (some .int) 1 := ⟨tt_c6 97 (by decide +kernel) rfl, tt_c6 99 (by decide +kernel) rfl, tt_in 63 (by decide +kernel) rfl, tt_c1 13 (by decide +kernel) rfl, tt_c6 100 rfl rfl, by decide, by decide +kernel⟩
set_option maxRecDepth 100000 in
theorem lL_137 : LV "PaintedOverLaw" 137 RX12 yX12_forged cX12_forged 5 (some .int) 2 := ⟨tt_c6 101 (by decide +kernel) rfl, tt_c6 102 (by decide +kernel) rfl, tt_c6 103 (by decide +kernel) rfl, tt_c1 13 (by decide +kernel) rfl, tt_c6 104 rfl rfl, by decide, by decide +kernel⟩
set_option maxRecDepth 100000 in
theorem lL_141 : LV "PaintedOverLaw" 141 RX12 yX12_lane cX12_lane 3 (some .int) 2 := ⟨tt_c6 105 (by decide +kernel) rfl, tt_c6 106 (by decide +kernel) rfl, tt_c6 107 (by decide +kernel) rfl, tt_c1 13 (by decide +kernel) rfl, tt_c6 108 rfl rfl, by decide, by decide +kernel⟩
set_option maxRecDepth 100000 in
theorem lX12_269 : LV RX12 269 RX12 yX12_deepest cX12_deepest 4 (some .int) 1 := ⟨tt_c6 109 (by decide +kernel) rfl, tt_c6 111 (by decide +kernel) rfl, tt_in 64 (by decide +kernel) rfl, tt_c1 13 (by decide +kernel) rfl, tt_c6 112 rfl rfl, by decide, by decide +kernel⟩
set_option maxRecDepth 100000 in
theorem lL_145 : LV "PaintedOverLaw" 145 RX12 yX12_price cX12_price 7 (some .int) 2 := ⟨tt_c6 113 (by decide +kernel) rfl, tt_c6 114 (by decide +kernel) rfl, tt_c6 115 (by decide +kernel) rfl, tt_c1 13 (by decide +kernel) rfl, tt_c6 116 rfl rfl, by decide, by decide +kernel⟩
set_option maxRecDepth 100000 in
theorem lL_149 : LV "PaintedOverLaw" 149 RX12 yX12_hail cX12_hail 2 (some .int) 1 := ⟨tt_c6 117 (by decide +kernel) rfl, tt_c6 118 (by decide +kernel) rfl, tt_c6 119 (by decide +kernel) rfl, tt_c1 13 (by decide +kernel) rfl, tt_c6 120 rfl rfl, by decide, by decide +kernel⟩
set_option maxRecDepth 100000 in
theorem lL_153 : LV "PaintedOverLaw" 153 RX12 yX12_scratch cX12_scratch 5 (some .int) 2 := ⟨tt_c6 121 (by decide +kernel) rfl, tt_c6 122 (by decide +kernel) rfl, tt_c6 123 (by decide +kernel) rfl, tt_c1 13 (by decide +kernel) rfl, tt_c6 124 rfl rfl, by decide, by decide +kernel⟩
set_option maxRecDepth 100000 in
theorem lL_157 : LV "PaintedOverLaw" 157 RX12 yX12_falls cX12_falls 1 (some .int) 0 := ⟨tt_c6 125 (by decide +kernel) rfl, tt_c6 126 (by decide +kernel) rfl, tt_c6 127 (by decide +kernel) rfl, tt_c1 13 (by decide +kernel) rfl, tt_c6 128 rfl rfl, by decide, by decide +kernel⟩
set_option maxRecDepth 100000 in
theorem lX12_275 : LV RX12 275 RX12 yX12_fall cX12_fall 3 (some .int) 0 := ⟨tt_c6 129 (by decide +kernel) rfl, tt_c6 131 (by decide +kernel) rfl, tt_in 65 (by decide +kernel) rfl, tt_c1 13 (by decide +kernel) rfl, tt_c6 132 rfl rfl, by decide, by decide +kernel⟩
set_option maxRecDepth 100000 in
theorem lL_161 : LV "PaintedOverLaw" 161 RX12 yX12_years cX12_years 9 (some .int) 1 := ⟨tt_c6 133 (by decide +kernel) rfl, tt_c6 134 (by decide +kernel) rfl, tt_c6 135 (by decide +kernel) rfl, tt_c1 13 (by decide +kernel) rfl, tt_c6 136 rfl rfl, by decide, by decide +kernel⟩
set_option maxRecDepth 100000 in
theorem lX12_279 : LV RX12 279 RX12 yX12_draw cX12_draw 2 (some .int) 1 := ⟨tt_c6 137 (by decide +kernel) rfl, tt_c6 139 (by decide +kernel) rfl, tt_in 66 (by decide +kernel) rfl, tt_c1 13 (by decide +kernel) rfl, tt_c6 140 rfl rfl, by decide, by decide +kernel⟩
set_option maxRecDepth 100000 in
theorem lL_165 : LV "PaintedOverLaw" 165 RX12 yX12_seed cX12_seed 3 (some .int) 1 := ⟨tt_c6 142 (by decide +kernel) rfl, tt_c6 143 (by decide +kernel) rfl, tt_c6 144 (by decide +kernel) rfl, tt_c1 13 (by decide +kernel) rfl, tt_c6 145 rfl rfl, by decide, by decide +kernel⟩
set_option maxRecDepth 100000 in
theorem lL_169 : LV "PaintedOverLaw" 169 RX12 yX12_act cX12_act 4 (some .int) 3 := ⟨tt_c6 146 (by decide +kernel) rfl, tt_c6 147 (by decide +kernel) rfl, tt_c6 148 (by decide +kernel) rfl, tt_c1 13 (by decide +kernel) rfl, tt_c6 149 rfl rfl, by decide, by decide +kernel⟩
set_option maxRecDepth 100000 in
theorem lX12_288 : LV RX12 288 RX12 yX12_paintsAct cX12_paintsAct 5 (some .int) 2 := ⟨tt_c6 150 (by decide +kernel) rfl, tt_c6 152 (by decide +kernel) rfl, tt_in 67 (by decide +kernel) rfl, tt_c1 13 (by decide +kernel) rfl, tt_c6 153 rfl rfl, by decide, by decide +kernel⟩
set_option maxRecDepth 100000 in
theorem lX12_285 : LV RX12 285 RX12 yX12_ran cX12_ran 2 none 1 := ⟨tt_c6 154 (by decide +kernel) rfl, tt_c6 156 (by decide +kernel) rfl, tt_in 68 (by decide +kernel) rfl, tt_c1 13 (by decide +kernel) rfl, tt_c6 157 rfl rfl, by decide, by decide +kernel⟩
set_option maxRecDepth 100000 in
theorem lX12_291 : LV RX12 291 RX12 yX12_peels cX12_peels 7 (some .int) 2 := ⟨tt_c6 158 (by decide +kernel) rfl, tt_c6 160 (by decide +kernel) rfl, tt_in 69 (by decide +kernel) rfl, tt_c1 13 (by decide +kernel) rfl, tt_c6 161 rfl rfl, by decide, by decide +kernel⟩
set_option maxRecDepth 100000 in
theorem lX12_294 : LV RX12 294 RX12 yX12_fallsAct cX12_fallsAct 5 (some .int) 2 := ⟨tt_c6 162 (by decide +kernel) rfl, tt_c6 164 (by decide +kernel) rfl, tt_in 70 (by decide +kernel) rfl, tt_c1 13 (by decide +kernel) rfl, tt_c6 165 rfl rfl, by decide, by decide +kernel⟩
set_option maxRecDepth 100000 in
theorem lL_173 : LV "PaintedOverLaw" 173 RX12 yX12_trace cX12_trace 2 (some .int) 1 := ⟨tt_c6 166 (by decide +kernel) rfl, tt_c6 167 (by decide +kernel) rfl, tt_c6 168 (by decide +kernel) rfl, tt_c1 13 (by decide +kernel) rfl, tt_c6 169 rfl rfl, by decide, by decide +kernel⟩
set_option maxRecDepth 100000 in
theorem lL_177 : LV "PaintedOverLaw" 177 RX12 yX12_image cX12_image 1 (some .int) 0 := ⟨tt_c6 170 (by decide +kernel) rfl, tt_c6 171 (by decide +kernel) rfl, tt_c6 172 (by decide +kernel) rfl, tt_c1 13 (by decide +kernel) rfl, tt_c6 173 rfl rfl, by decide, by decide +kernel⟩
set_option maxRecDepth 100000 in
theorem lL_181 : LV "PaintedOverLaw" 181 RX12 yX12_restore cX12_restore 2 (some .int) 0 := ⟨tt_c6 174 (by decide +kernel) rfl, tt_c6 175 (by decide +kernel) rfl, tt_c6 176 (by decide +kernel) rfl, tt_c1 13 (by decide +kernel) rfl, tt_c6 177 rfl rfl, by decide, by decide +kernel⟩
set_option maxRecDepth 100000 in
theorem lL_185 : LV "PaintedOverLaw" 185 RX12 yX12_status cX12_status 4 (some .int) 1 := ⟨tt_c6 178 (by decide +kernel) rfl, tt_c6 179 (by decide +kernel) rfl, tt_c6 180 (by decide +kernel) rfl, tt_c1 13 (by decide +kernel) rfl, tt_c6 181 rfl rfl, by decide, by decide +kernel⟩
end
section
/-! the two worlds: what stands at each place -/
def NX : Nat := 164
def NM : Nat := 22
def townX : List (Nat ⊕ (Nat × Nat)) := [.inl 9, .inr (2, 6), .inr (0, 6), .inr (0, 6)] ++ (List.range 6).flatMap fun _ => [.inl 3, .inr (0, 8), .inr (0, 8), .inr (0, 8), .inr (0, 8), .inr (0, 8), .inr (0, 12)]
def listX : List (Nat ⊕ (Nat × Nat)) := [.inl 11, .inr (0, 8), .inr (0, 8), .inr (4, 8)] ++ List.replicate 8 (.inr (1, 160)) ++ [.inr (0, 8), .inr (0, 8), .inr (0, 256), .inl 6, .inl 10, .inr (0, 20), .inr (3, 7), .inl 4, .inl 2, .inl 5, .inl 1, .inl 7, .inl 8, .inl 0] ++ townX ++ townX ++ townX
def listM : List (Nat ⊕ (Nat × Nat)) := [.inl 12, .inr (0, 8), .inr (0, 8), .inr (1, 1280), .inr (0, 6), .inr (0, 6), .inr (0, 6), .inr (0, 48), .inr (0, 48), .inr (0, 48), .inr (0, 48), .inr (0, 48), .inr (0, 72), .inr (0, 6), .inr (0, 6), .inr (0, 8), .inr (0, 20), .inr (0, 347), .inr (0, 347), .inr (0, 5), .inr (0, 8), .inr (0, 8)]
def shX : Sh := fun o => listX.getD o (.inr (0, 0))
def shM : Sh := fun o => listM.getD o (.inr (0, 0))
abbrev OX (o c : Nat) : Prop := OB shX NX o c
abbrev AX (o t n : Nat) : Prop := AR shX NX o t n
abbrev OM (o c : Nat) : Prop := OB shM NM o c
abbrev AM (o t n : Nat) : Prop := AR shM NM o t n
/-- a town's place, a front's place -/
def TA (B : Nat) : Prop := B = 26 ∨ B = 72 ∨ B = 118
def FA (o : Nat) : Prop := ∃ B h, TA B ∧ h < 6 ∧ o = B + 4 + 7 * h
theorem fa_of {B h : Nat} (hB : TA B) (hh : h < 6) : FA (B + 4 + 7 * h) := ⟨B, h, hB, hh, rfl⟩
theorem six {P : Nat → Prop} (h0 : P 0) (h1 : P 1) (h2 : P 2) (h3 : P 3) (h4 : P 4) (h5 : P 5) {h : Nat} (hh : h < 6) : P h := by
  match h, hh with
  | 0, _ => exact h0
  | 1, _ => exact h1
  | 2, _ => exact h2
  | 3, _ => exact h3
  | 4, _ => exact h4
  | 5, _ => exact h5
theorem fa_cases {P : Nat → Prop} (h : ∀ B ∈ [26, 72, 118], ∀ h ∈ [0, 1, 2, 3, 4, 5], P (B + 4 + 7 * h)) {o : Nat} (ho : FA o) : P o := by
  obtain ⟨B, k, hB, hk, rfl⟩ := ho
  refine h B ?_ k ?_
  · rcases hB with rfl | rfl | rfl <;> simp
  · have : k = 0 ∨ k = 1 ∨ k = 2 ∨ k = 3 ∨ k = 4 ∨ k = 5 := by omega
    rcases this with rfl | rfl | rfl | rfl | rfl | rfl <;> simp
theorem dAR {sh : Sh} {N o t n : Nat} (h : (decide (o < N) && decide (sh o = .inr (t, n))) = true) : AR sh N o t n := by
  simp only [Bool.and_eq_true, decide_eq_true_eq] at h
  exact h
theorem dOB {sh : Sh} {N o c : Nat} (h : (decide (o < N) && decide (sh o = .inl c)) = true) : OB sh N o c := by
  simp only [Bool.and_eq_true, decide_eq_true_eq] at h
  exact h
theorem fa_ob {o : Nat} (h : FA o) : OX o 3 := dOB (fa_cases (P := fun o => (decide (o < NX) && decide (shX o = .inl 3)) = true) (by decide +kernel) h)
theorem fa_1 {o : Nat} (h : FA o) : AX (o + 1) 0 8 := dAR (fa_cases (P := fun o => (decide (o + 1 < NX) && decide (shX (o + 1) = .inr (0, 8))) = true) (by decide +kernel) h)
theorem fa_2 {o : Nat} (h : FA o) : AX (o + 2) 0 8 := dAR (fa_cases (P := fun o => (decide (o + 2 < NX) && decide (shX (o + 2) = .inr (0, 8))) = true) (by decide +kernel) h)
theorem fa_3 {o : Nat} (h : FA o) : AX (o + 3) 0 8 := dAR (fa_cases (P := fun o => (decide (o + 3 < NX) && decide (shX (o + 3) = .inr (0, 8))) = true) (by decide +kernel) h)
theorem fa_4 {o : Nat} (h : FA o) : AX (o + 4) 0 8 := dAR (fa_cases (P := fun o => (decide (o + 4 < NX) && decide (shX (o + 4) = .inr (0, 8))) = true) (by decide +kernel) h)
theorem fa_5 {o : Nat} (h : FA o) : AX (o + 5) 0 8 := dAR (fa_cases (P := fun o => (decide (o + 5 < NX) && decide (shX (o + 5) = .inr (0, 8))) = true) (by decide +kernel) h)
theorem fa_6 {o : Nat} (h : FA o) : AX (o + 6) 0 12 := dAR (fa_cases (P := fun o => (decide (o + 6 < NX) && decide (shX (o + 6) = .inr (0, 12))) = true) (by decide +kernel) h)
theorem ta_ob {B : Nat} (h : TA B) : OX B 9 := by rcases h with rfl | rfl | rfl <;> exact dOB (by decide +kernel)
theorem ta_f {B : Nat} (h : TA B) : AX (B + 1) 2 6 := by rcases h with rfl | rfl | rfl <;> exact dAR (by decide +kernel)
theorem ta_h {B : Nat} (h : TA B) : AX (B + 2) 0 6 := by rcases h with rfl | rfl | rfl <;> exact dAR (by decide +kernel)
theorem ta_c {B : Nat} (h : TA B) : AX (B + 3) 0 6 := by rcases h with rfl | rfl | rfl <;> exact dAR (by decide +kernel)
theorem ox0 : OX 0 11 := dOB (by decide +kernel)
theorem ox15 : OX 15 6 := dOB (by decide +kernel)
theorem ox16 : OX 16 10 := dOB (by decide +kernel)
theorem ax1 : AX 1 0 8 := dAR (by decide +kernel)
theorem ax2 : AX 2 0 8 := dAR (by decide +kernel)
theorem ax3 : AX 3 4 8 := dAR (by decide +kernel)
theorem ax12 : AX 12 0 8 := dAR (by decide +kernel)
theorem ax13 : AX 13 0 8 := dAR (by decide +kernel)
theorem ax14 : AX 14 0 256 := dAR (by decide +kernel)
theorem ax17 : AX 17 0 20 := dAR (by decide +kernel)
theorem ax18 : AX 18 3 7 := dAR (by decide +kernel)
theorem ax_el {s : Nat} (h : s < 8) : AX (4 + s) 1 160 := by
  have : s = 0 ∨ s = 1 ∨ s = 2 ∨ s = 3 ∨ s = 4 ∨ s = 5 ∨ s = 6 ∨ s = 7 := by omega
  rcases this with rfl | rfl | rfl | rfl | rfl | rfl | rfl | rfl <;> exact dAR (by decide +kernel)
/-- the references of the class's world that never change -/
def WX (r : Nat → Nat → Option Nat) : Prop :=
  (r 0 0 = some 1 ∧ r 0 1 = some 2 ∧ r 0 2 = some 3 ∧ r 0 3 = some 12 ∧ r 0 5 = some 13 ∧ r 0 6 = some 14 ∧ r 0 9 = some 118 ∧ r 0 11 = some 15 ∧ r 0 13 = some 16) ∧ (∀ s, s < 8 → r 3 s = some (4 + s)) ∧ r 16 3 = some 17 ∧ (∀ k, k < 7 → r 18 k = some (19 + k)) ∧
  (∀ B, TA B → r B 0 = some 18 ∧ r B 1 = some (B + 1) ∧ r B 3 = some (B + 2) ∧ r B 4 = some (B + 3) ∧ ∀ h, h < 6 → r (B + 1) h = some (B + 4 + 7 * h)) ∧
  ∀ o, FA o → r o 4 = some (o + 1) ∧ r o 5 = some (o + 2) ∧ r o 6 = some (o + 3) ∧ r o 7 = some (o + 4) ∧ r o 8 = some (o + 5) ∧ r o 9 = some (o + 6)
section WXS
variable {r : Nat → Nat → Option Nat} {o B : Nat}
theorem wx_held (W : WX r) : r 0 0 = some 1 := W.1.1
theorem wx_sizes (W : WX r) : r 0 1 = some 2 := W.1.2.1
theorem wx_elements (W : WX r) : r 0 2 = some 3 := W.1.2.2.1
theorem wx_refusals (W : WX r) : r 0 3 = some 12 := W.1.2.2.2.1
theorem wx_beneath (W : WX r) : r 0 5 = some 13 := W.1.2.2.2.2.1
theorem wx_ways (W : WX r) : r 0 6 = some 14 := W.1.2.2.2.2.2.1
theorem wx_kept (W : WX r) : r 0 9 = some 118 := W.1.2.2.2.2.2.2.1
theorem wx_reader (W : WX r) : r 0 11 = some 15 := W.1.2.2.2.2.2.2.2.1
theorem wx_latest (W : WX r) : r 0 13 = some 16 := W.1.2.2.2.2.2.2.2.2
theorem wx_el (W : WX r) {s : Nat} (h : s < 8) : r 3 s = some (4 + s) := W.2.1 s h
theorem wx_bodies (W : WX r) : r 16 3 = some 17 := W.2.2.1
theorem wx_kind (W : WX r) {k : Nat} (h : k < 7) : r 18 k = some (19 + k) := W.2.2.2.1 k h
theorem wx_kinds (W : WX r) (h : TA B) : r B 0 = some 18 := (W.2.2.2.2.1 B h).1
theorem wx_fronts (W : WX r) (h : TA B) : r B 1 = some (B + 1) := (W.2.2.2.2.1 B h).2.1
theorem wx_hides (W : WX r) (h : TA B) : r B 3 = some (B + 2) := (W.2.2.2.2.1 B h).2.2.1
theorem wx_costs (W : WX r) (h : TA B) : r B 4 = some (B + 3) := (W.2.2.2.2.1 B h).2.2.2.1
theorem wx_front (W : WX r) (h : TA B) {k : Nat} (hk : k < 6) : r (B + 1) k = some (B + 4 + 7 * k) := (W.2.2.2.2.1 B h).2.2.2.2 k hk
theorem wx_tenant (W : WX r) (h : FA o) : r o 4 = some (o + 1) := (W.2.2.2.2.2 o h).1
theorem wx_colour (W : WX r) (h : FA o) : r o 5 = some (o + 2) := (W.2.2.2.2.2 o h).2.1
theorem wx_thick (W : WX r) (h : FA o) : r o 6 = some (o + 3) := (W.2.2.2.2.2 o h).2.2.1
theorem wx_gap (W : WX r) (h : FA o) : r o 7 = some (o + 4) := (W.2.2.2.2.2 o h).2.2.2.1
theorem wx_year (W : WX r) (h : FA o) : r o 8 = some (o + 5) := (W.2.2.2.2.2 o h).2.2.2.2.1
theorem wx_gone (W : WX r) (h : FA o) : r o 9 = some (o + 6) := (W.2.2.2.2.2 o h).2.2.2.2.2
end WXS
theorem om0 : OM 0 12 := dOB (by decide +kernel)
/-- the references of the reference's world -/
def mref : List (Nat × Nat × Nat × Nat) := [(0, 1, 0, 8), (1, 2, 0, 8), (2, 3, 1, 1280), (4, 4, 0, 6), (5, 5, 0, 6), (6, 6, 0, 6), (7, 7, 0, 48), (8, 8, 0, 48), (9, 9, 0, 48), (10, 10, 0, 48), (11, 11, 0, 48), (12, 12, 0, 72), (13, 13, 0, 6), (14, 14, 0, 6), (21, 15, 0, 8), (23, 16, 0, 20), (25, 17, 0, 347), (26, 18, 0, 347), (29, 19, 0, 5), (30, 20, 0, 8), (32, 21, 0, 8)]
def WM (r : Nat → Nat → Option Nat) : Prop := ∀ q ∈ mref, r 0 q.1 = some q.2.1
theorem wm_at {r : Nat → Nat → Option Nat} (W : WM r) (i : Nat) {k o t n : Nat} (h : mref[i]? = some (k, o, t, n)) : r 0 k = some o := W (k, o, t, n) (List.mem_of_getElem? h)
theorem am_all : ∀ q ∈ mref, (decide (q.2.1 < NM) && decide (shM q.2.1 = .inr (q.2.2.1, q.2.2.2))) = true := by decide +kernel
theorem am_at (i : Nat) {k o t n : Nat} (h : mref[i]? = some (k, o, t, n)) : AM o t n := dAR (am_all (k, o, t, n) (List.mem_of_getElem? h))
/-- contracts over each of the worlds -/
abbrev MCX (l : Launch) (δ : Dl) (b : Nat) (y : MethodName) (bytes : ByteArray) (nL : Nat) (ret : Option FieldType) (d : Nat) (av : List Value) (μ : Mm) (post : Option Value → Mm → Prop) : Prop := MC l δ b NX shX False y bytes nL ret d 0 0 NX NX av μ post
abbrev MCM (l : Launch) (δ : Dl) (b : Nat) (y : MethodName) (bytes : ByteArray) (nL : Nat) (ret : Option FieldType) (d : Nat) (av : List Value) (μ : Mm) (post : Option Value → Mm → Prop) : Prop := MC l δ b NM shM False y bytes nL ret d 0 0 NM NM av μ post
end
section
section MORE
variable {κ : Kt} {δ : Dl} {b n nL : Nat} {sh : Sh} {tp : Prop} {Qc : Array Value → State → Outcome → State → Prop} {mc ms d : Nat} {own nm : String} {cc : ByteArray} {ret : Option FieldType} {N cells slots pc : Nat} {ls ls' : List (Option Value)} {st : List Value} {μ : Mm}
theorem AW.cg {K : Wt} (h : ls = ls') (k : AW κ K N cells slots pc ls' st μ) : AW κ K N cells slots pc ls st μ := h ▸ k
theorem AW.weak (hw : ∀ (i : Nat) (v : Value), ls'[i]? = some (some v) → ls[i]? = some (some v)) (k : AW κ (δ, b, n, nL, sh, tp, Qc, mc, ms) N cells slots pc ls' st μ) : AW κ (δ, b, n, nL, sh, tp, Qc, mc, ms) N cells slots pc ls st μ := by
  obtain ⟨p, l, e, R, s, m, args, below, meth, c⟩ := κ
  intro H locs lsr hP hT hS h
  exact k H locs lsr hP hT hS (lh_weak h hw)
/-- each place that ls' tells holds the same in ls -/
def wk : List (Option Value) → List (Option Value) → Prop
  | [], _ => True
  | none :: t, [] => wk t []
  | none :: t, _ :: u => wk t u
  | some _ :: _, [] => False
  | some v :: t, w :: u => w = some v ∧ wk t u
theorem wk_nil : ∀ (l : List (Option Value)), wk l [] → ∀ (i : Nat) (v : Value), ¬ l[i]? = some (some v)
  | [], _, i, v, h => by simp at h
  | none :: t, h, i, v, q => by
    cases i with
    | zero => simp at q
    | succ i => exact wk_nil t h i v (by simpa using q)
  | some _ :: _, h, _, _, _ => h
theorem wk_at : ∀ (l u : List (Option Value)), wk l u → ∀ (i : Nat) (v : Value), l[i]? = some (some v) → u[i]? = some (some v)
  | [], u, _, i, v, h => by simp at h
  | none :: t, [], h, i, v, q => absurd q (wk_nil (none :: t) h i v)
  | none :: t, w :: u, h, i, v, q => by
    cases i with
    | zero => simp at q
    | succ i => simpa using wk_at t u h i v (by simpa using q)
  | some _ :: _, [], h, _, _, _ => h.elim
  | some x :: t, w :: u, h, i, v, q => by
    cases i with
    | zero => simpa [h.1] using q
    | succ i => simpa using wk_at t u h.2 i v (by simpa using q)
theorem AW.cgw (k : AW κ (δ, b, n, nL, sh, tp, Qc, mc, ms) N cells slots pc ls' st μ) (h : wk ls' ls) : AW κ (δ, b, n, nL, sh, tp, Qc, mc, ms) N cells slots pc ls st μ := AW.weak (wk_at ls' ls h) k
def LMax (own : String) (idx : Nat) : Prop := Cond.methodLink own idx Lib.Math.max.name ∈ TT ∧ Cond.static Lib.Math.max.name ∈ TT ∧ Cond.initialized "java/lang/Math" ∈ TT ∧ Cond.code Lib.Math.max.name Lib.Math.max.code 2 (some .int) ∈ TT
theorem AW.maxN (X : CX κ (δ, b, n, nL, sh, tp, Qc, mc, ms) own nm cc ret d) {idx a c : Nat} (hd : decode cc pc = .ok (.invokestatic idx, 3)) (ha : a < 2147483648) (hc : c < 2147483648) (L : LMax own idx) (hr : Nat.ble (st.map fun v => v.category).sum 8 = true ∧ Nat.ble 1 d = true ∧ Nat.ble cells mc = true ∧ Nat.ble slots ms = true) (k : AW κ (δ, b, n, nL, sh, tp, Qc, mc, ms) N cells slots (pc + 3) ls (.int (nI (max a c)) :: st) μ) : AW κ (δ, b, n, nL, sh, tp, Qc, mc, ms) N cells slots pc ls (.int (nI c) :: .int (nI a) :: st) μ := by
  obtain ⟨p, l, e, R, s, m, args, below, meth, c9⟩ := κ
  intro H locs lsr hP hT hS h
  obtain ⟨x1, x2, x3, x4, hts, x6, x7, x8, hK, hKS, hR⟩ := X
  obtain ⟨l1, l2, l3, l4⟩ := L
  subst hR
  obtain ⟨r1, r2, r3, r4⟩ := hr
  have r1 := Nat.le_of_ble_eq_true r1
  have r2 := Nat.le_of_ble_eq_true r2
  refine va_mmax x1 x2 (x3.trans h.1.symm) x4 (hts _ l1) (hts _ l2) (hts _ l3) (hts _ l4) r2 (by show _ + 13 ≤ 64 * d; omega) (Nat.le_of_ble_eq_true r3) (Nat.le_of_ble_eq_true r4) hd ?_
  have e : (if nI a < nI c then nI c else nI a) = nI (max a c) := by
    by_cases q : a < c
    · rw [if_pos ((n2_lt ha hc).mpr q), Nat.max_eq_right (Nat.le_of_lt q)]
    · rw [if_neg (fun z => q ((n2_lt ha hc).mp z)), Nat.max_eq_left (Nat.le_of_not_lt q)]
  rw [e]
  exact k H locs lsr hP hT hS h
def LCopy (own : String) (idx : Nat) : Prop := Cond.methodLink own idx arraycopyName ∈ TT ∧ Cond.native arraycopyName ∈ TT ∧ Cond.static arraycopyName ∈ TT ∧ Cond.initialized "java/lang/System" ∈ TT
def cpI (μ : Mm) (o1 o2 sp dp k : Nat) : Mm := (fun q j => if q = o2 then va_cpy (μ.1 o1) (μ.1 o2) sp dp k j else μ.1 q j, μ.2)
def cpL (μ : Mm) (o1 o2 sp dp k : Nat) : Mm := (μ.1, fun q j => if q = o2 then va_cpy (μ.2.1 o1) (μ.2.1 o2) sp dp k j else μ.2.1 q j, μ.2.2)
theorem AW.acopyI (X : CX κ (δ, b, n, nL, sh, False, Qc, mc, ms) own nm cc ret d) {idx o1 o2 a1 a2 sp dp k : Nat} (hd : decode cc pc = .ok (.invokestatic idx, 3)) (L : LCopy own idx) (h1 : AR sh N o1 0 a1) (h2 : AR sh N o2 0 a2) (hs : sp + k ≤ a1) (hq : dp + k ≤ a2) (hb : a1 < 2147483648 ∧ a2 < 2147483648) (hn : N ≤ n) (hr : Nat.ble ((st.map fun v => v.category).sum + (nativeFrameWords "java/lang/System" "arraycopy" 5 + 11)) (64 * d) = true ∧ Nat.ble 1 d = true) (kk : AW κ (δ, b, n, nL, sh, False, Qc, mc, ms) N cells slots (pc + 3) ls st (cpI μ o1 o2 sp dp k)) : AW κ (δ, b, n, nL, sh, False, Qc, mc, ms) N cells slots pc ls (.int (nI k) :: .int (nI dp) :: .ref (b + o2) :: .int (nI sp) :: .ref (b + o1) :: st) μ := by
  obtain ⟨p, l, e, R, s, m, args, below, meth, c9⟩ := κ
  intro H locs lsr hP hT hS h
  obtain ⟨x1, x2, x3, x4, hts, x6, x7, x8, hK, hKS, hR⟩ := X
  obtain ⟨l1, l2, l3, l4⟩ := L
  subst hR
  have e1 : (nI sp).toNatClampNeg = sp := n2_clamp (by omega)
  have e2 : (nI dp).toNatClampNeg = dp := n2_clamp (by omega)
  have e3 : (nI k).toNatClampNeg = k := n2_clamp (by omega)
  refine va_copyi x1 x2 (x3.trans h.1.symm) x4 (hts _ l1) (hts _ l2) (hts _ l3) (hts _ l4) hK.1 hP (wl_D hn) hS o1 o2 0 0 (ar_getI h1) (ar_getI h2) rfl rfl rfl (nI_pos (by omega)) (nI_pos (by omega)) (nI_pos (by omega)) (by rw [e1, e3]; exact hs) (by rw [e2, e3]; exact hq) (fun _ _ => rfl) (Nat.le_of_ble_eq_true hr.2) (Nat.le_of_ble_eq_true hr.1) hd (fun H1 locs1 hP1 _ hS1 => ?_)
  rw [e1, e2, e3, wl_set (μ' := cpI μ o1 o2 sp dp k) h2.1 (by
    unfold ent
    rw [h2.2]
    refine congrArg (fun f => Sum.inl (δ.2.1 0, a2, Sum.inl f)) (funext fun j => ?_)
    simp [cpI]) (fun j hj => by
    have ef : ∀ (k' : Nat) (ty : FieldType), fval b (cpI μ o1 o2 sp dp k) j k' ty = fval b μ j k' ty := fun k' ty => by
      cases ty <;> simp [fval, cpI, hj]
    have e9 : (cpI μ o1 o2 sp dp k).1 j = μ.1 j := funext fun k' => by simp [cpI, hj]
    unfold ent
    simp only [e9, ef]
    rfl)] at hP1
  exact kk H1 locs1 lsr hP1 (fun q => q.elim) hS1 h
theorem AW.acopyL (X : CX κ (δ, b, n, nL, sh, False, Qc, mc, ms) own nm cc ret d) {idx o1 o2 a1 a2 sp dp k : Nat} (hd : decode cc pc = .ok (.invokestatic idx, 3)) (L : LCopy own idx) (h1 : AR sh N o1 1 a1) (h2 : AR sh N o2 1 a2) (hs : sp + k ≤ a1) (hq : dp + k ≤ a2) (hb : a1 < 2147483648 ∧ a2 < 2147483648) (hn : N ≤ n) (hr : Nat.ble ((st.map fun v => v.category).sum + (nativeFrameWords "java/lang/System" "arraycopy" 5 + 11)) (64 * d) = true ∧ Nat.ble 1 d = true) (kk : AW κ (δ, b, n, nL, sh, False, Qc, mc, ms) N cells slots (pc + 3) ls st (cpL μ o1 o2 sp dp k)) : AW κ (δ, b, n, nL, sh, False, Qc, mc, ms) N cells slots pc ls (.int (nI k) :: .int (nI dp) :: .ref (b + o2) :: .int (nI sp) :: .ref (b + o1) :: st) μ := by
  obtain ⟨p, l, e, R, s, m, args, below, meth, c9⟩ := κ
  intro H locs lsr hP hT hS h
  obtain ⟨x1, x2, x3, x4, hts, x6, x7, x8, hK, hKS, hR⟩ := X
  obtain ⟨l1, l2, l3, l4⟩ := L
  subst hR
  have e1 : (nI sp).toNatClampNeg = sp := n2_clamp (by omega)
  have e2 : (nI dp).toNatClampNeg = dp := n2_clamp (by omega)
  have e3 : (nI k).toNatClampNeg = k := n2_clamp (by omega)
  refine va_copyl x1 x2 (x3.trans h.1.symm) x4 (hts _ l1) (hts _ l2) (hts _ l3) (hts _ l4) hK.1 hP (wl_D hn) hS o1 o2 1 1 (ar_getL h1) (ar_getL h2) rfl rfl rfl (nI_pos (by omega)) (nI_pos (by omega)) (nI_pos (by omega)) (by rw [e1, e3]; exact hs) (by rw [e2, e3]; exact hq) (fun _ _ => rfl) (Nat.le_of_ble_eq_true hr.2) (Nat.le_of_ble_eq_true hr.1) hd (fun H1 locs1 hP1 _ hS1 => ?_)
  rw [e1, e2, e3, wl_set (μ' := cpL μ o1 o2 sp dp k) h2.1 (by
    unfold ent
    rw [h2.2]
    refine congrArg (fun f => Sum.inl (δ.2.1 1, a2, Sum.inr (Sum.inl f))) (funext fun j => ?_)
    simp [cpL]) (fun j hj => by
    have ef : ∀ (k' : Nat) (ty : FieldType), fval b (cpL μ o1 o2 sp dp k) j k' ty = fval b μ j k' ty := fun k' ty => by
      cases ty <;> simp [fval, cpL, hj]
    have e9 : (cpL μ o1 o2 sp dp k).2.1 j = μ.2.1 j := funext fun k' => by simp [cpL, hj]
    unfold ent
    simp only [e9, ef]
    rfl)] at hP1
  exact kk H1 locs1 lsr hP1 (fun q => q.elim) hS1 h
end MORE
end
section
/-! a house front as numbers: V 0: kind, a, coats; V 1 .. V 5: tenant, colour, thick, gap, year of each coat; V 6: the coats gone (bits) of each cell -/
abbrev Vt : Type := Nat → Nat → Nat
def HI (V : Vt) : Prop := V 0 0 < 7 ∧ V 0 1 ≤ 9 ∧ V 0 2 ≤ 8 ∧ (∀ c, c < V 0 2 → V 1 c < 8 ∧ V 2 c < 6 ∧ 1 ≤ V 3 c ∧ V 3 c ≤ 9 ∧ V 4 c < 12) ∧ ∀ k, k < 12 → V 6 k < 256
/-- front o of the class's world holds V -/
def HV (μ : Mm) (o : Nat) (V : Vt) : Prop := HI V ∧ μ.2.2 o 0 = some (19 + V 0 0) ∧ μ.1 o 1 = nI (V 0 0) ∧ μ.1 o 2 = nI (V 0 1) ∧ μ.1 o 3 = nI (V 0 2) ∧ (∀ c, c < V 0 2 → μ.1 (o + 1) c = nI (V 1 c) ∧ μ.1 (o + 2) c = nI (V 2 c) ∧ μ.1 (o + 3) c = nI (V 3 c) ∧ μ.1 (o + 4) c = nI (V 4 c) ∧ μ.1 (o + 5) c = nI (V 5 c)) ∧ ∀ k, k < 12 → μ.1 (o + 6) k = nI (V 6 k)
section HVS
variable {μ : Mm} {o c k : Nat} {V : Vt}
theorem hi_n (h : HI V) : V 0 2 ≤ 8 := h.2.2.1
theorem hi_k (h : HI V) : V 0 0 < 7 := h.1
theorem hi_a (h : HI V) : V 0 1 ≤ 9 := h.2.1
theorem hi_ten (h : HI V) (hc : c < V 0 2) : V 1 c < 8 := (h.2.2.2.1 c hc).1
theorem hi_col (h : HI V) (hc : c < V 0 2) : V 2 c < 6 := (h.2.2.2.1 c hc).2.1
theorem hi_th (h : HI V) (hc : c < V 0 2) : 1 ≤ V 3 c ∧ V 3 c ≤ 9 := ⟨(h.2.2.2.1 c hc).2.2.1, (h.2.2.2.1 c hc).2.2.2.1⟩
theorem hi_gap (h : HI V) (hc : c < V 0 2) : V 4 c < 12 := (h.2.2.2.1 c hc).2.2.2.2
theorem hi_go (h : HI V) (hk : k < 12) : V 6 k < 256 := h.2.2.2.2 k hk
theorem hv_i (h : HV μ o V) : HI V := h.1
theorem hv_kind (h : HV μ o V) : μ.2.2 o 0 = some (19 + V 0 0) := h.2.1
theorem hv_k (h : HV μ o V) : μ.1 o 1 = nI (V 0 0) := h.2.2.1
theorem hv_a (h : HV μ o V) : μ.1 o 2 = nI (V 0 1) := h.2.2.2.1
theorem hv_n (h : HV μ o V) : μ.1 o 3 = nI (V 0 2) := h.2.2.2.2.1
theorem hv_1 (h : HV μ o V) (hc : c < V 0 2) : μ.1 (o + 1) c = nI (V 1 c) := (h.2.2.2.2.2.1 c hc).1
theorem hv_2 (h : HV μ o V) (hc : c < V 0 2) : μ.1 (o + 2) c = nI (V 2 c) := (h.2.2.2.2.2.1 c hc).2.1
theorem hv_3 (h : HV μ o V) (hc : c < V 0 2) : μ.1 (o + 3) c = nI (V 3 c) := (h.2.2.2.2.2.1 c hc).2.2.1
theorem hv_4 (h : HV μ o V) (hc : c < V 0 2) : μ.1 (o + 4) c = nI (V 4 c) := (h.2.2.2.2.2.1 c hc).2.2.2.1
theorem hv_5 (h : HV μ o V) (hc : c < V 0 2) : μ.1 (o + 5) c = nI (V 5 c) := (h.2.2.2.2.2.1 c hc).2.2.2.2
theorem hv_6 (h : HV μ o V) (hk : k < 12) : μ.1 (o + 6) k = nI (V 6 k) := h.2.2.2.2.2.2 k hk
end HVS
/-! bits -/
theorem nI_or (a c : Nat) : nI a ||| nI c = nI (a ||| c) := by
  apply Int32.toBitVec_inj.mp
  show BitVec.ofNat 32 a ||| BitVec.ofNat 32 c = BitVec.ofNat 32 (a ||| c)
  apply BitVec.eq_of_getLsbD_eq
  intro i hi
  simp [BitVec.getLsbD_or, BitVec.getLsbD_ofNat, Nat.testBit_or, hi]
theorem nI_and (a c : Nat) : nI a &&& nI c = nI (a &&& c) := by
  apply Int32.toBitVec_inj.mp
  show BitVec.ofNat 32 a &&& BitVec.ofNat 32 c = BitVec.ofNat 32 (a &&& c)
  apply BitVec.eq_of_getLsbD_eq
  intro i hi
  simp [BitVec.getLsbD_and, BitVec.getLsbD_ofNat, Nat.testBit_and, hi]
theorem bit_1 : ∀ c, c < 31 → nI 1 <<< (nI c &&& 31) = nI (2 ^ c) := by decide +kernel
theorem sh_nat : ∀ c, c < 32 → ((nI c &&& 31).toBitVec.smod 32).toNat = c := by decide +kernel
theorem shr_n {a c : Nat} (ha : a < 2147483648) (hc : c < 32) : nI a >>> (nI c &&& 31) = nI (a / 2 ^ c) := pk_shrN ha _ c (sh_nat c hc)
/-- bit c of a, as both sides ask it -/
theorem has_n {a c : Nat} (ha : a < 2147483648) (hc : c < 32) : (nI a >>> (nI c &&& 31)) &&& nI 1 = bI (a.testBit c) := by
  rw [shr_n ha hc, nI_and, Nat.and_one_is_mod]
  have : a.testBit c = decide (a / 2 ^ c % 2 = 1) := by
    rw [Nat.testBit_eq_decide_div_mod_eq]
  rw [this]
  rcases Nat.mod_two_eq_zero_or_one (a / 2 ^ c) with q | q <;> rw [q] <;> rfl
theorem or_lt8 {a c : Nat} (ha : a < 256) (hc : c < 256) : a ||| c < 256 := Nat.or_lt_two_pow (n := 8) ha hc
theorem pow_lt8 {c : Nat} (hc : c < 8) : 2 ^ c < 256 := Nat.pow_lt_pow_right (a := 2) (by decide) hc
theorem pow_lt12 {c : Nat} (hc : c < 12) : 2 ^ c < 4096 := Nat.pow_lt_pow_right (a := 2) (by decide) hc
theorem tb_or2 (a c i : Nat) : (a ||| 2 ^ c).testBit i = (a.testBit i || decide (c = i)) := by
  rw [Nat.testBit_or, Nat.testBit_two_pow]
/-! what lies in a cell -/
def lies (V : Vt) (c k : Nat) : Bool := !(V 4 c == k) && !(V 6 k).testBit c
def ly (V : Vt) (k : Nat) : Nat → Nat
  | 0 => 0
  | c + 1 => if lies V c k then ly V k c ||| 2 ^ c else ly V k c
def lyA (V : Vt) (k : Nat) : Nat := ly V k (V 0 2)
theorem ly_lt (V : Vt) (k : Nat) : ∀ i, ly V k i < 2 ^ i
  | 0 => by simp [ly]
  | i + 1 => by
    have ih := ly_lt V k i
    have h2 : 2 ^ (i + 1) = 2 ^ i * 2 := Nat.pow_succ ..
    unfold ly
    split
    · exact Nat.or_lt_two_pow (n := i + 1) (by omega) (by omega)
    · omega
theorem ly_lt8 (V : Vt) (k : Nat) {i : Nat} (h : i ≤ 8) : ly V k i < 256 := Nat.lt_of_lt_of_le (ly_lt V k i) (Nat.pow_le_pow_right (n := 2) (by decide) h)
theorem ly_bit (V : Vt) (k : Nat) : ∀ (i c : Nat), (ly V k i).testBit c = (decide (c < i) && lies V c k)
  | 0, c => by simp [ly]
  | i + 1, c => by
    have ih := ly_bit V k i c
    unfold ly
    by_cases hc : c = i
    · subst hc
      split <;> rename_i h <;> simp_all [tb_or2]
    · have e1 : decide (i = c) = false := decide_eq_false (fun z => hc z.symm)
      have e2 : decide (c < i + 1) = decide (c < i) := decide_eq_decide.mpr (by omega)
      split
      · rw [tb_or2, e1, ih, e2, Bool.or_false]
      · rw [ih, e2]
/-- the thickness of the coats lo .. i - 1 that lie in cell k -/
def dsum (V : Vt) (k lo : Nat) : Nat → Nat
  | 0 => 0
  | c + 1 => if lo ≤ c ∧ lies V c k = true then dsum V k lo c + V 3 c else dsum V k lo c
theorem dsum_0 (V : Vt) (k lo : Nat) : ∀ i, i ≤ lo → dsum V k lo i = 0
  | 0, _ => rfl
  | i + 1, h => by
    unfold dsum
    rw [if_neg (by omega), dsum_0 V k lo i (by omega)]
theorem dsum_le {V : Vt} (hV : HI V) (k lo : Nat) : ∀ i, i ≤ V 0 2 → dsum V k lo i ≤ 9 * i
  | 0, _ => by simp [dsum]
  | i + 1, h => by
    have ih := dsum_le hV k lo i (by omega)
    have := (hi_th hV (c := i) (by omega)).2
    unfold dsum
    split <;> omega
def depth (V : Vt) (k : Nat) : Nat := dsum V k 0 (V 0 2)
theorem depth_le {V : Vt} (hV : HI V) (k : Nat) : depth V k ≤ 72 := by
  have := dsum_le hV k 0 (V 0 2) (Nat.le_refl _)
  have := hi_n hV
  unfold depth
  omega
def skinTo (V : Vt) : Nat → Nat
  | 0 => 0
  | k + 1 => skinTo V k + depth V k
theorem skinTo_le {V : Vt} (hV : HI V) : ∀ k, skinTo V k ≤ 72 * k
  | 0 => by simp [skinTo]
  | k + 1 => by
    have ih := skinTo_le hV k
    have := depth_le hV k
    unfold skinTo
    omega
def skin (V : Vt) : Nat := skinTo V 12
def cellsTo (V : Vt) (c : Nat) : Nat → Nat
  | 0 => 0
  | k + 1 => if lies V c k then cellsTo V c k ||| 2 ^ k else cellsTo V c k
def deepTo (V : Vt) : Nat → Nat
  | 0 => 0
  | k + 1 => max (deepTo V k) (depth V k)
theorem deepTo_le {V : Vt} (hV : HI V) : ∀ k, deepTo V k ≤ 72
  | 0 => by simp [deepTo]
  | k + 1 => by
    have := deepTo_le hV k
    have := depth_le hV k
    unfold deepTo
    omega
def livedTo (V : Vt) : Nat → Nat
  | 0 => 0
  | c + 1 => livedTo V c ||| 2 ^ V 1 c
def coatsTo (V : Vt) (t : Nat) : Nat → Nat
  | 0 => 0
  | c + 1 => if V 1 c = t then coatsTo V t c + 1 else coatsTo V t c
theorem coatsTo_le (V : Vt) (t : Nat) : ∀ i, coatsTo V t i ≤ i
  | 0 => Nat.le_refl _
  | i + 1 => by
    have := coatsTo_le V t i
    unfold coatsTo
    split <;> omega
/-! wet and hard -/
def wet (V : Vt) (k d : Nat) : Nat :=
  let w := if (V 0 0 = 1 ∨ V 0 0 = 3) ∧ 0 < d then d + V 0 1 else d
  if V 0 0 = 3 ∧ 8 ≤ k then 2 * w else w
def hard (V : Vt) (k h : Nat) : Nat :=
  let x := if V 0 0 = 2 ∨ V 0 0 = 5 ∨ V 0 0 = 6 then h - V 0 1 else h
  if V 0 0 = 5 ∧ k < 4 then 0 else if V 0 0 = 6 then 2 * x else x
def counted (V : Vt) (x : Nat) : Nat := if V 0 0 = 4 then x - 1 else x
theorem wet_le {V : Vt} (hV : HI V) (k : Nat) {d : Nat} (hd : d < 100) : wet V k d ≤ 216 := by
  have := hi_a hV
  unfold wet
  dsimp only
  split <;> split <;> omega
theorem hard_le (V : Vt) (k : Nat) {h : Nat} (hd : h < 100) : hard V k h ≤ 198 := by
  unfold hard
  have hx : (if V 0 0 = 2 ∨ V 0 0 = 5 ∨ V 0 0 = 6 then h - V 0 1 else h) ≤ 99 := by split <;> omega
  dsimp only
  split
  · omega
  · split <;> omega
/-- of the coats below i that 'bits' has: what lies behind hail that is x hard, from coat i - 1 on down -/
def behind (V : Vt) : Nat → Nat → Nat → Nat
  | 0, bits, _ => bits
  | c + 1, bits, x => if bits.testBit c then (if x < V 3 c then bits else behind V c (bits ^^^ 2 ^ c) (x - V 3 c)) else behind V c bits x
end
section
def andN (a y : Nat) : Nat := a ^^^ (a &&& y)
theorem nI_andN (a y : Nat) : nI a &&& (nI y ^^^ (-1)) = nI (andN a y) := by
  apply Int32.toBitVec_inj.mp
  show BitVec.ofNat 32 a &&& (BitVec.ofNat 32 y ^^^ (-1#32)) = BitVec.ofNat 32 (a ^^^ (a &&& y))
  apply BitVec.eq_of_getLsbD_eq
  intro i hi
  have h1 : (-1#32).getLsbD i = true := by
    have : (-1#32) = BitVec.allOnes 32 := by decide
    rw [this, BitVec.getLsbD_allOnes]
    simp [hi]
  simp only [BitVec.getLsbD_and, BitVec.getLsbD_xor, h1, BitVec.getLsbD_ofNat, Nat.testBit_xor, Nat.testBit_and, hi, decide_true, Bool.true_and]
  cases a.testBit i <;> cases y.testBit i <;> rfl
theorem andN_bit (a y i : Nat) : (andN a y).testBit i = (a.testBit i && !y.testBit i) := by
  unfold andN
  rw [Nat.testBit_xor, Nat.testBit_and]
  cases a.testBit i <;> cases y.testBit i <;> rfl
theorem andN_pow {a c : Nat} (h : a.testBit c = true) : andN a (2 ^ c) = a ^^^ 2 ^ c := by
  apply Nat.eq_of_testBit_eq
  intro i
  rw [andN_bit, Nat.testBit_xor, Nat.testBit_two_pow]
  by_cases q : c = i
  · subst q
    simp [h]
  · simp [q]
section BITROWS
variable {κ : Kt} {δ : Dl} {b n nL : Nat} {sh : Sh} {tp : Prop} {Qc : Array Value → State → Outcome → State → Prop} {mc ms d : Nat} {own nm : String} {cc : ByteArray} {ret : Option FieldType} {N cells slots pc : Nat} {ls : List (Option Value)} {st : List Value} {μ : Mm}
theorem AW.iorN (X : CX κ (δ, b, n, nL, sh, tp, Qc, mc, ms) own nm cc ret d) {a c : Nat} (hd : decode cc pc = .ok (.ior, 1)) (k : AW κ (δ, b, n, nL, sh, tp, Qc, mc, ms) N cells slots (pc + 1) ls (.int (nI (a ||| c)) :: st) μ) : AW κ (δ, b, n, nL, sh, tp, Qc, mc, ms) N cells slots pc ls (.int (nI c) :: .int (nI a) :: st) μ := AW.ior X hd (by rw [nI_or]; exact k)
theorem AW.iandN (X : CX κ (δ, b, n, nL, sh, tp, Qc, mc, ms) own nm cc ret d) {a c : Nat} (hd : decode cc pc = .ok (.iand, 1)) (k : AW κ (δ, b, n, nL, sh, tp, Qc, mc, ms) N cells slots (pc + 1) ls (.int (nI (a &&& c)) :: st) μ) : AW κ (δ, b, n, nL, sh, tp, Qc, mc, ms) N cells slots pc ls (.int (nI c) :: .int (nI a) :: st) μ := AW.iand X hd (by rw [nI_and]; exact k)
theorem AW.shl1 (X : CX κ (δ, b, n, nL, sh, tp, Qc, mc, ms) own nm cc ret d) {c : Nat} (hd : decode cc pc = .ok (.ishl, 1)) (hc : c < 31) (k : AW κ (δ, b, n, nL, sh, tp, Qc, mc, ms) N cells slots (pc + 1) ls (.int (nI (2 ^ c)) :: st) μ) : AW κ (δ, b, n, nL, sh, tp, Qc, mc, ms) N cells slots pc ls (.int (nI c) :: .int (nI 1) :: st) μ := AW.ishl X hd (by rw [bit_1 c hc]; exact k)
theorem AW.hasN (X : CX κ (δ, b, n, nL, sh, tp, Qc, mc, ms) own nm cc ret d) {a c : Nat} (hd1 : decode cc pc = .ok (.ishr, 1)) (hd2 : decode cc (pc + 1) = .ok (.iconst 1, 1)) (hd3 : decode cc (pc + 1 + 1) = .ok (.iand, 1)) (ha : a < 2147483648) (hc : c < 32) (k : AW κ (δ, b, n, nL, sh, tp, Qc, mc, ms) N cells slots (pc + 1 + 1 + 1) ls (.int (bI (a.testBit c)) :: st) μ) : AW κ (δ, b, n, nL, sh, tp, Qc, mc, ms) N cells slots pc ls (.int (nI c) :: .int (nI a) :: st) μ :=
  AW.ishr X hd1 (AW.iconstN X 1 hd2 rfl (AW.iand X hd3 (by rw [has_n ha hc]; exact k)))
theorem AW.andNotN (X : CX κ (δ, b, n, nL, sh, tp, Qc, mc, ms) own nm cc ret d) {a y : Nat} (hd1 : decode cc pc = .ok (.iconst (-1), 1)) (hd2 : decode cc (pc + 1) = .ok (.ixor, 1)) (hd3 : decode cc (pc + 1 + 1) = .ok (.iand, 1)) (k : AW κ (δ, b, n, nL, sh, tp, Qc, mc, ms) N cells slots (pc + 1 + 1 + 1) ls (.int (nI (andN a y)) :: st) μ) : AW κ (δ, b, n, nL, sh, tp, Qc, mc, ms) N cells slots pc ls (.int (nI y) :: .int (nI a) :: st) μ :=
  AW.iconst X (v := -1) hd1 rfl (AW.ixor X hd2 (AW.iand X hd3 (by rw [nI_andN]; exact k)))
theorem AW.idivN (X : CX κ (δ, b, n, nL, sh, tp, Qc, mc, ms) own nm cc ret d) {a c : Nat} (hd : decode cc pc = .ok (.idiv, 1)) (ha : a < 2147483648) (h0 : 0 < c) (hc : c < 2147483648) (k : AW κ (δ, b, n, nL, sh, tp, Qc, mc, ms) N cells slots (pc + 1) ls (.int (nI (a / c)) :: st) μ) : AW κ (δ, b, n, nL, sh, tp, Qc, mc, ms) N cells slots pc ls (.int (nI c) :: .int (nI a) :: st) μ := AW.idiv X hd (nI_ne0 h0 hc) (by rw [pk_div ha h0 hc]; exact k)
theorem AW.iremN (X : CX κ (δ, b, n, nL, sh, tp, Qc, mc, ms) own nm cc ret d) {a c : Nat} (hd : decode cc pc = .ok (.irem, 1)) (ha : a < 2147483648) (h0 : 0 < c) (hc : c < 2147483648) (k : AW κ (δ, b, n, nL, sh, tp, Qc, mc, ms) N cells slots (pc + 1) ls (.int (nI (a % c)) :: st) μ) : AW κ (δ, b, n, nL, sh, tp, Qc, mc, ms) N cells slots pc ls (.int (nI c) :: .int (nI a) :: st) μ := AW.irem X hd (nI_ne0 h0 hc) (by rw [pk_rem ha h0 hc]; exact k)
theorem ush_nat : ∀ c, c < 32 → (((nI c).toUInt32 &&& Int32.toUInt32 31).toBitVec % 32).toNat = c := by decide +kernel
theorem AW.iushrN (X : CX κ (δ, b, n, nL, sh, tp, Qc, mc, ms) own nm cc ret d) {a c : Nat} (hd : decode cc pc = .ok (.iushr, 1)) (ha : a < 4294967296) (hc : c < 32) (k : AW κ (δ, b, n, nL, sh, tp, Qc, mc, ms) N cells slots (pc + 1) ls (.int (nI (a / 2 ^ c)) :: st) μ) : AW κ (δ, b, n, nL, sh, tp, Qc, mc, ms) N cells slots pc ls (.int (nI c) :: .int (nI a) :: st) μ := AW.iushr X hd (by rw [pk_ushrN ha _ c (ush_nat c hc)]; exact k)
theorem bI_1 {p : Bool} : bI p = nI 1 ↔ p = true := by cases p <;> decide
theorem AW.icmp_neB (X : CX κ (δ, b, n, nL, sh, tp, Qc, mc, ms) own nm cc ret d) {p : Bool} {off : Int} {tgt : Nat} (hd : decode cc pc = .ok (.if_icmp .ne off, 3)) (ht : (pc : Int) + off = (tgt : Int)) (k1 : p = false → AW κ (δ, b, n, nL, sh, tp, Qc, mc, ms) N cells slots tgt ls st μ) (k2 : p = true → AW κ (δ, b, n, nL, sh, tp, Qc, mc, ms) N cells slots (pc + 3) ls st μ) : AW κ (δ, b, n, nL, sh, tp, Qc, mc, ms) N cells slots pc ls (.int (nI 1) :: .int (bI p) :: st) μ :=
  AW.icmp_ne X hd ht (fun q => k1 (by cases p; rfl; exact absurd rfl q)) (fun q => k2 (bI_1.mp q))
end BITROWS
end
section
set_option maxRecDepth 100000 in
theorem lX6_max : LMax RX6 97 := ⟨tt_c3 97 (by decide +kernel) rfl, tt_c3 98 (by decide +kernel) rfl, tt_c1 15 (by decide +kernel) rfl, tt_c3 99 rfl rfl⟩
set_option maxRecDepth 100000 in
theorem lX3_max : LMax RX3 62 := ⟨tt_c3 223 (by decide +kernel) rfl, tt_c3 98 (by decide +kernel) rfl, tt_c1 15 (by decide +kernel) rfl, tt_c3 99 rfl rfl⟩
set_option maxRecDepth 100000 in
theorem lX12_max : LMax RX12 223 := ⟨tt_c5 140 (by decide +kernel) rfl, tt_c3 98 (by decide +kernel) rfl, tt_c1 15 (by decide +kernel) rfl, tt_c3 99 rfl rfl⟩
theorem kJ6_265 : Cond.constant RJ6 265 (1431655765) ∈ TT := tt_c3 145 (by decide +kernel) rfl
theorem kJ6_266 : Cond.constant RJ6 266 (858993459) ∈ TT := tt_c3 146 (by decide +kernel) rfl
theorem kJ6_267 : Cond.constant RJ6 267 (252645135) ∈ TT := tt_c3 147 (by decide +kernel) rfl
theorem kX9_114 : Cond.constant RX9 114 (1103515245) ∈ TT := tt_c4 87 (by decide +kernel) rfl
theorem kJ6_127 : Cond.constant RJ6 127 (-2147483648) ∈ TT := tt_c5 230 (by decide +kernel) rfl
theorem kJ6_264 : Cond.constant RJ6 264 (65536) ∈ TT := tt_c5 234 (by decide +kernel) rfl
theorem kX12_278 : Cond.constant RX12 278 (1103515245) ∈ TT := tt_c6 141 (by decide +kernel) rfl
theorem kL_18 : Cond.constantLong "PaintedOverLaw" 18 (4294967295) ∈ TT := tt_c6 182 (by decide +kernel) rfl
theorem lX11_copy : LCopy RX11 117 := ⟨tt_c2 87 (by decide +kernel) rfl, tt_c2 89 (by decide +kernel) rfl, tt_c2 88 (by decide +kernel) rfl, tt_c1 14 (by decide +kernel) rfl⟩
theorem lX3_copy : LCopy RX3 44 := ⟨tt_c3 18 (by decide +kernel) rfl, tt_c2 89 (by decide +kernel) rfl, tt_c2 88 (by decide +kernel) rfl, tt_c1 14 (by decide +kernel) rfl⟩
theorem lX9_copy : LCopy RX9 54 := ⟨tt_c3 19 (by decide +kernel) rfl, tt_c2 89 (by decide +kernel) rfl, tt_c2 88 (by decide +kernel) rfl, tt_c1 14 (by decide +kernel) rfl⟩
theorem clX11_38 : Cond.classLink RX11 38 RX6 ∈ TT := tt_c1 31 (by decide +kernel) rfl
theorem clX11_48 : Cond.classLink RX11 48 RX10 ∈ TT := tt_c1 59 (by decide +kernel) rfl
theorem clX11_55 : Cond.classLink RX11 55 RX4 ∈ TT := tt_c1 87 (by decide +kernel) rfl
theorem clX11_58 : Cond.classLink RX11 58 RX2 ∈ TT := tt_c1 95 (by decide +kernel) rfl
theorem clX11_61 : Cond.classLink RX11 61 RX5 ∈ TT := tt_c1 102 (by decide +kernel) rfl
theorem clX11_64 : Cond.classLink RX11 64 RX1 ∈ TT := tt_c1 109 (by decide +kernel) rfl
theorem clX11_67 : Cond.classLink RX11 67 RX7 ∈ TT := tt_c1 116 (by decide +kernel) rfl
theorem clX11_70 : Cond.classLink RX11 70 RX8 ∈ TT := tt_c1 123 (by decide +kernel) rfl
theorem clX11_73 : Cond.classLink RX11 73 RX0 ∈ TT := tt_c1 130 (by decide +kernel) rfl
theorem clX11_76 : Cond.classLink RX11 76 RX9 ∈ TT := tt_c1 137 (by decide +kernel) rfl
theorem ca_X1_X2 : Cond.castable RX1 RX2 ∈ NW := List.mem_filter.mpr ⟨List.mem_of_getElem? (i := 1457) (by decide +kernel), rfl⟩
theorem ca_X0_X5 : Cond.castable RX0 RX5 ∈ NW := List.mem_filter.mpr ⟨List.mem_of_getElem? (i := 1458) (by decide +kernel), rfl⟩
theorem ca_X8_X5 : Cond.castable RX8 RX5 ∈ NW := List.mem_filter.mpr ⟨List.mem_of_getElem? (i := 1459) (by decide +kernel), rfl⟩
theorem ca_X2_X4 : Cond.castable RX2 RX4 ∈ NW := List.mem_filter.mpr ⟨List.mem_of_getElem? (i := 1460) (by decide +kernel), rfl⟩
theorem ca_X5_X4 : Cond.castable RX5 RX4 ∈ NW := List.mem_filter.mpr ⟨List.mem_of_getElem? (i := 1461) (by decide +kernel), rfl⟩
theorem ca_X1_X4 : Cond.castable RX1 RX4 ∈ NW := List.mem_filter.mpr ⟨List.mem_of_getElem? (i := 1462) (by decide +kernel), rfl⟩
theorem ca_X7_X4 : Cond.castable RX7 RX4 ∈ NW := List.mem_filter.mpr ⟨List.mem_of_getElem? (i := 1463) (by decide +kernel), rfl⟩
theorem ca_X8_X4 : Cond.castable RX8 RX4 ∈ NW := List.mem_filter.mpr ⟨List.mem_of_getElem? (i := 1464) (by decide +kernel), rfl⟩
theorem ca_X0_X4 : Cond.castable RX0 RX4 ∈ NW := List.mem_filter.mpr ⟨List.mem_of_getElem? (i := 1465) (by decide +kernel), rfl⟩
end
section
def bcI (x : Int32) : Int32 := ((((((((x - (((x.toUInt32 >>> ((nI 1).toUInt32 &&& Int32.toUInt32 31)).toInt32) &&& (1431655765))) &&& (858993459)) + ((((x - (((x.toUInt32 >>> ((nI 1).toUInt32 &&& Int32.toUInt32 31)).toInt32) &&& (1431655765))).toUInt32 >>> ((nI 2).toUInt32 &&& Int32.toUInt32 31)).toInt32) &&& (858993459))) + (((((x - (((x.toUInt32 >>> ((nI 1).toUInt32 &&& Int32.toUInt32 31)).toInt32) &&& (1431655765))) &&& (858993459)) + ((((x - (((x.toUInt32 >>> ((nI 1).toUInt32 &&& Int32.toUInt32 31)).toInt32) &&& (1431655765))).toUInt32 >>> ((nI 2).toUInt32 &&& Int32.toUInt32 31)).toInt32) &&& (858993459))).toUInt32 >>> ((nI 4).toUInt32 &&& Int32.toUInt32 31)).toInt32)) &&& (252645135)) + (((((((x - (((x.toUInt32 >>> ((nI 1).toUInt32 &&& Int32.toUInt32 31)).toInt32) &&& (1431655765))) &&& (858993459)) + ((((x - (((x.toUInt32 >>> ((nI 1).toUInt32 &&& Int32.toUInt32 31)).toInt32) &&& (1431655765))).toUInt32 >>> ((nI 2).toUInt32 &&& Int32.toUInt32 31)).toInt32) &&& (858993459))) + (((((x - (((x.toUInt32 >>> ((nI 1).toUInt32 &&& Int32.toUInt32 31)).toInt32) &&& (1431655765))) &&& (858993459)) + ((((x - (((x.toUInt32 >>> ((nI 1).toUInt32 &&& Int32.toUInt32 31)).toInt32) &&& (1431655765))).toUInt32 >>> ((nI 2).toUInt32 &&& Int32.toUInt32 31)).toInt32) &&& (858993459))).toUInt32 >>> ((nI 4).toUInt32 &&& Int32.toUInt32 31)).toInt32)) &&& (252645135)).toUInt32 >>> ((nI 8).toUInt32 &&& Int32.toUInt32 31)).toInt32)) + ((((((((x - (((x.toUInt32 >>> ((nI 1).toUInt32 &&& Int32.toUInt32 31)).toInt32) &&& (1431655765))) &&& (858993459)) + ((((x - (((x.toUInt32 >>> ((nI 1).toUInt32 &&& Int32.toUInt32 31)).toInt32) &&& (1431655765))).toUInt32 >>> ((nI 2).toUInt32 &&& Int32.toUInt32 31)).toInt32) &&& (858993459))) + (((((x - (((x.toUInt32 >>> ((nI 1).toUInt32 &&& Int32.toUInt32 31)).toInt32) &&& (1431655765))) &&& (858993459)) + ((((x - (((x.toUInt32 >>> ((nI 1).toUInt32 &&& Int32.toUInt32 31)).toInt32) &&& (1431655765))).toUInt32 >>> ((nI 2).toUInt32 &&& Int32.toUInt32 31)).toInt32) &&& (858993459))).toUInt32 >>> ((nI 4).toUInt32 &&& Int32.toUInt32 31)).toInt32)) &&& (252645135)) + (((((((x - (((x.toUInt32 >>> ((nI 1).toUInt32 &&& Int32.toUInt32 31)).toInt32) &&& (1431655765))) &&& (858993459)) + ((((x - (((x.toUInt32 >>> ((nI 1).toUInt32 &&& Int32.toUInt32 31)).toInt32) &&& (1431655765))).toUInt32 >>> ((nI 2).toUInt32 &&& Int32.toUInt32 31)).toInt32) &&& (858993459))) + (((((x - (((x.toUInt32 >>> ((nI 1).toUInt32 &&& Int32.toUInt32 31)).toInt32) &&& (1431655765))) &&& (858993459)) + ((((x - (((x.toUInt32 >>> ((nI 1).toUInt32 &&& Int32.toUInt32 31)).toInt32) &&& (1431655765))).toUInt32 >>> ((nI 2).toUInt32 &&& Int32.toUInt32 31)).toInt32) &&& (858993459))).toUInt32 >>> ((nI 4).toUInt32 &&& Int32.toUInt32 31)).toInt32)) &&& (252645135)).toUInt32 >>> ((nI 8).toUInt32 &&& Int32.toUInt32 31)).toInt32)).toUInt32 >>> ((nI 16).toUInt32 &&& Int32.toUInt32 31)).toInt32)) &&& (nI 63))
def pcnt (a : Nat) : Nat := ((List.range 8).filter (fun i => a.testBit i)).length
theorem bc_n : ∀ a, a < 256 → bcI (nI a) = nI (pcnt a) := by decide +kernel
theorem pcnt_le (a : Nat) : pcnt a ≤ 8 := by
  have := List.length_filter_le (fun i => a.testBit i) (List.range 8)
  simpa [pcnt] using this
def top (a : Nat) : Nat := Nat.log2 a
theorem nlz_1 : ∀ a, a < 256 → 0 < a → a < 4 → 31 - a / 2 ^ 1 = 31 - top a := by decide +kernel
theorem nlz_2 : ∀ a, a < 256 → a < 16 → 4 ≤ a → 31 - 2 - a / 2 ^ 2 / 2 ^ 1 = 31 - top a := by decide +kernel
theorem nlz_3 : ∀ a, a < 256 → 16 ≤ a → a / 2 ^ 4 < 4 → 31 - 4 - a / 2 ^ 4 / 2 ^ 1 = 31 - top a := by decide +kernel
theorem nlz_4 : ∀ a, a < 256 → 4 ≤ a / 2 ^ 4 → 31 - 4 - 2 - a / 2 ^ 4 / 2 ^ 2 / 2 ^ 1 = 31 - top a := by decide +kernel
theorem hob_t : ∀ a, a < 256 → 0 < a → nI a &&& ((-2147483648 : Int32).toUInt32 >>> ((nI (31 - top a)).toUInt32 &&& Int32.toUInt32 31)).toInt32 = nI (2 ^ top a) := by decide +kernel
theorem top_bit : ∀ a, a < 256 → 0 < a → a.testBit (top a) = true ∧ top a < 8 ∧ ∀ i, i < 8 → top a < i → a.testBit i = false := by decide +kernel
set_option maxRecDepth 100000 in
set_option maxHeartbeats 4000000 in
theorem c_J6_bitCount_0f7a4 {l : Launch} {δ : Dl} {b nn NN : Nat} {sh : Sh} {μ : Mm} {x : Int32} : MC l δ b nn sh False yJ6_bitCount_0f7a4 cJ6_bitCount_0f7a4 1 (some .int) 1 0 0 NN NN [.int x] μ (pI fun r μ' => r = bcI x ∧ μ' = μ) := by
  refine MC.intro ([some (.int x)]) (by decide) rfl rfl fun κ Qc hl hQ X => ?_
  subst hl
  refine AW.iload_n X dJ6_bitCount_0f7a4_0 (i := 0) rfl rfl ?_
  refine AW.iload_n X dJ6_bitCount_0f7a4_1 (i := 0) rfl rfl ?_
  refine AW.iconstN X 1 dJ6_bitCount_0f7a4_2 rfl ?_
  refine AW.iushr X dJ6_bitCount_0f7a4_3 ?_
  refine AW.ldciw X (v := 1431655765) dJ6_bitCount_0f7a4_4 kJ6_265 ?_
  refine AW.iand X dJ6_bitCount_0f7a4_7 ?_
  refine AW.isub X dJ6_bitCount_0f7a4_8 ?_
  refine AW.istore_n X dJ6_bitCount_0f7a4_9 (i := 0) rfl rfl ?_
  refine AW.iload_n X dJ6_bitCount_0f7a4_10 (i := 0) rfl rfl ?_
  refine AW.ldciw X (v := 858993459) dJ6_bitCount_0f7a4_11 kJ6_266 ?_
  refine AW.iand X dJ6_bitCount_0f7a4_14 ?_
  refine AW.iload_n X dJ6_bitCount_0f7a4_15 (i := 0) rfl rfl ?_
  refine AW.iconstN X 2 dJ6_bitCount_0f7a4_16 rfl ?_
  refine AW.iushr X dJ6_bitCount_0f7a4_17 ?_
  refine AW.ldciw X (v := 858993459) dJ6_bitCount_0f7a4_18 kJ6_266 ?_
  refine AW.iand X dJ6_bitCount_0f7a4_21 ?_
  refine AW.iadd X dJ6_bitCount_0f7a4_22 ?_
  refine AW.istore_n X dJ6_bitCount_0f7a4_23 (i := 0) rfl rfl ?_
  refine AW.iload_n X dJ6_bitCount_0f7a4_24 (i := 0) rfl rfl ?_
  refine AW.iload_n X dJ6_bitCount_0f7a4_25 (i := 0) rfl rfl ?_
  refine AW.iconstN X 4 dJ6_bitCount_0f7a4_26 rfl ?_
  refine AW.iushr X dJ6_bitCount_0f7a4_27 ?_
  refine AW.iadd X dJ6_bitCount_0f7a4_28 ?_
  refine AW.ldciw X (v := 252645135) dJ6_bitCount_0f7a4_29 kJ6_267 ?_
  refine AW.iand X dJ6_bitCount_0f7a4_32 ?_
  refine AW.istore_n X dJ6_bitCount_0f7a4_33 (i := 0) rfl rfl ?_
  refine AW.iload_n X dJ6_bitCount_0f7a4_34 (i := 0) rfl rfl ?_
  refine AW.iload_n X dJ6_bitCount_0f7a4_35 (i := 0) rfl rfl ?_
  refine AW.bipushN X 8 dJ6_bitCount_0f7a4_36 rfl ?_
  refine AW.iushr X dJ6_bitCount_0f7a4_38 ?_
  refine AW.iadd X dJ6_bitCount_0f7a4_39 ?_
  refine AW.istore_n X dJ6_bitCount_0f7a4_40 (i := 0) rfl rfl ?_
  refine AW.iload_n X dJ6_bitCount_0f7a4_41 (i := 0) rfl rfl ?_
  refine AW.iload_n X dJ6_bitCount_0f7a4_42 (i := 0) rfl rfl ?_
  refine AW.bipushN X 16 dJ6_bitCount_0f7a4_43 rfl ?_
  refine AW.iushr X dJ6_bitCount_0f7a4_45 ?_
  refine AW.iadd X dJ6_bitCount_0f7a4_46 ?_
  refine AW.istore_n X dJ6_bitCount_0f7a4_47 (i := 0) rfl rfl ?_
  refine AW.iload_n X dJ6_bitCount_0f7a4_48 (i := 0) rfl rfl ?_
  refine AW.bipushN X 63 dJ6_bitCount_0f7a4_49 rfl ?_
  refine AW.iand X dJ6_bitCount_0f7a4_51 ?_
  refine AW.iret X hQ dJ6_bitCount_0f7a4_52 ⟨_, rfl, ?_⟩
  exact ⟨rfl, rfl⟩
set_option maxRecDepth 100000 in
set_option maxHeartbeats 4000000 in
theorem c_J6_numberOfLeadingZeros_0f7a4 {l : Launch} {δ : Dl} {b nn NN : Nat} {sh : Sh} {μ : Mm} {a : Nat} (h0 : 0 < a) (ha : a < 256) : MC l δ b nn sh False yJ6_numberOfLeadingZeros_0f7a4 cJ6_numberOfLeadingZeros_0f7a4 2 (some .int) 1 0 0 NN NN [.int (nI a)] μ (pI fun r μ' => r = nI (31 - top a) ∧ μ' = μ) := by
  refine MC.intro ([some (.int (nI a)), none]) (by decide) rfl rfl fun κ Qc hl hQ X => ?_
  subst hl
  refine AW.iload_n X dJ6_numberOfLeadingZeros_0f7a4_0 (i := 0) rfl rfl ?_
  refine AW.if_gtN X (tgt := 15) dJ6_numberOfLeadingZeros_0f7a4_1 (by decide) (by omega) (fun h1 => ?_) (fun h1 => ?_)
  · refine AW.bipushN X 31 dJ6_numberOfLeadingZeros_0f7a4_15 rfl ?_
    refine AW.istore_n X dJ6_numberOfLeadingZeros_0f7a4_17 (i := 1) rfl rfl ?_
    refine AW.iload_n X dJ6_numberOfLeadingZeros_0f7a4_18 (i := 0) rfl rfl ?_
    refine AW.ldciw X (v := 65536) dJ6_numberOfLeadingZeros_0f7a4_19 kJ6_264 ?_
    rw [show (65536 : Int32) = nI 65536 from rfl]
    refine AW.icmp_ltN X (tgt := 33) dJ6_numberOfLeadingZeros_0f7a4_22 (by decide) (by omega) (by omega) (fun h22 => ?_) (fun h22 => ?_)
    · refine AW.iload_n X dJ6_numberOfLeadingZeros_0f7a4_33 (i := 0) rfl rfl ?_
      refine AW.sipushN X 256 dJ6_numberOfLeadingZeros_0f7a4_34 rfl ?_
      refine AW.icmp_ltN X (tgt := 48) dJ6_numberOfLeadingZeros_0f7a4_37 (by decide) (by omega) (by omega) (fun h37 => ?_) (fun h37 => ?_)
      · refine AW.iload_n X dJ6_numberOfLeadingZeros_0f7a4_48 (i := 0) rfl rfl ?_
        refine AW.bipushN X 16 dJ6_numberOfLeadingZeros_0f7a4_49 rfl ?_
        refine AW.icmp_ltN X (tgt := 61) dJ6_numberOfLeadingZeros_0f7a4_51 (by decide) (by omega) (by omega) (fun h51 => ?_) (fun h51 => ?_)
        · refine AW.iload_n X dJ6_numberOfLeadingZeros_0f7a4_61 (i := 0) rfl rfl ?_
          refine AW.iconstN X 4 dJ6_numberOfLeadingZeros_0f7a4_62 rfl ?_
          refine AW.icmp_ltN X (tgt := 73) dJ6_numberOfLeadingZeros_0f7a4_63 (by decide) (by omega) (by omega) (fun h63 => ?_) (fun h63 => ?_)
          · refine AW.iload_n X dJ6_numberOfLeadingZeros_0f7a4_73 (i := 1) rfl rfl ?_
            refine AW.iload_n X dJ6_numberOfLeadingZeros_0f7a4_74 (i := 0) rfl rfl ?_
            refine AW.iconstN X 1 dJ6_numberOfLeadingZeros_0f7a4_75 rfl ?_
            refine AW.iushrN X dJ6_numberOfLeadingZeros_0f7a4_76 (by omega) (by decide) ?_
            refine AW.isubN X dJ6_numberOfLeadingZeros_0f7a4_77 (by omega) ?_
            refine AW.iret X hQ dJ6_numberOfLeadingZeros_0f7a4_78 ⟨_, rfl, ?_⟩
            exact ⟨congrArg nI (by first | exact nlz_1 a ha h0 (by omega) | exact nlz_2 a ha (by omega) (by omega) | exact nlz_3 a ha (by omega) (by omega) | exact nlz_4 a ha (by omega)), rfl⟩
          · refine AW.iincN X (c := (31 - 2)) dJ6_numberOfLeadingZeros_0f7a4_66 rfl (by decide) rfl ?_
            refine AW.iload_n X dJ6_numberOfLeadingZeros_0f7a4_69 (i := 0) rfl rfl ?_
            refine AW.iconstN X 2 dJ6_numberOfLeadingZeros_0f7a4_70 rfl ?_
            refine AW.iushrN X dJ6_numberOfLeadingZeros_0f7a4_71 (by omega) (by decide) ?_
            refine AW.istore_n X dJ6_numberOfLeadingZeros_0f7a4_72 (i := 0) rfl rfl ?_
            refine AW.iload_n X dJ6_numberOfLeadingZeros_0f7a4_73 (i := 1) rfl rfl ?_
            refine AW.iload_n X dJ6_numberOfLeadingZeros_0f7a4_74 (i := 0) rfl rfl ?_
            refine AW.iconstN X 1 dJ6_numberOfLeadingZeros_0f7a4_75 rfl ?_
            refine AW.iushrN X dJ6_numberOfLeadingZeros_0f7a4_76 (by omega) (by decide) ?_
            refine AW.isubN X dJ6_numberOfLeadingZeros_0f7a4_77 (by omega) ?_
            refine AW.iret X hQ dJ6_numberOfLeadingZeros_0f7a4_78 ⟨_, rfl, ?_⟩
            exact ⟨congrArg nI (by first | exact nlz_1 a ha h0 (by omega) | exact nlz_2 a ha (by omega) (by omega) | exact nlz_3 a ha (by omega) (by omega) | exact nlz_4 a ha (by omega)), rfl⟩
        · refine AW.iincN X (c := (31 - 4)) dJ6_numberOfLeadingZeros_0f7a4_54 rfl (by decide) rfl ?_
          refine AW.iload_n X dJ6_numberOfLeadingZeros_0f7a4_57 (i := 0) rfl rfl ?_
          refine AW.iconstN X 4 dJ6_numberOfLeadingZeros_0f7a4_58 rfl ?_
          refine AW.iushrN X dJ6_numberOfLeadingZeros_0f7a4_59 (by omega) (by decide) ?_
          refine AW.istore_n X dJ6_numberOfLeadingZeros_0f7a4_60 (i := 0) rfl rfl ?_
          refine AW.iload_n X dJ6_numberOfLeadingZeros_0f7a4_61 (i := 0) rfl rfl ?_
          refine AW.iconstN X 4 dJ6_numberOfLeadingZeros_0f7a4_62 rfl ?_
          refine AW.icmp_ltN X (tgt := 73) dJ6_numberOfLeadingZeros_0f7a4_63 (by decide) (by omega) (by omega) (fun h63 => ?_) (fun h63 => ?_)
          · refine AW.iload_n X dJ6_numberOfLeadingZeros_0f7a4_73 (i := 1) rfl rfl ?_
            refine AW.iload_n X dJ6_numberOfLeadingZeros_0f7a4_74 (i := 0) rfl rfl ?_
            refine AW.iconstN X 1 dJ6_numberOfLeadingZeros_0f7a4_75 rfl ?_
            refine AW.iushrN X dJ6_numberOfLeadingZeros_0f7a4_76 (by omega) (by decide) ?_
            refine AW.isubN X dJ6_numberOfLeadingZeros_0f7a4_77 (by omega) ?_
            refine AW.iret X hQ dJ6_numberOfLeadingZeros_0f7a4_78 ⟨_, rfl, ?_⟩
            exact ⟨congrArg nI (by first | exact nlz_1 a ha h0 (by omega) | exact nlz_2 a ha (by omega) (by omega) | exact nlz_3 a ha (by omega) (by omega) | exact nlz_4 a ha (by omega)), rfl⟩
          · refine AW.iincN X (c := ((31 - 4) - 2)) dJ6_numberOfLeadingZeros_0f7a4_66 rfl (by decide) rfl ?_
            refine AW.iload_n X dJ6_numberOfLeadingZeros_0f7a4_69 (i := 0) rfl rfl ?_
            refine AW.iconstN X 2 dJ6_numberOfLeadingZeros_0f7a4_70 rfl ?_
            refine AW.iushrN X dJ6_numberOfLeadingZeros_0f7a4_71 (by omega) (by decide) ?_
            refine AW.istore_n X dJ6_numberOfLeadingZeros_0f7a4_72 (i := 0) rfl rfl ?_
            refine AW.iload_n X dJ6_numberOfLeadingZeros_0f7a4_73 (i := 1) rfl rfl ?_
            refine AW.iload_n X dJ6_numberOfLeadingZeros_0f7a4_74 (i := 0) rfl rfl ?_
            refine AW.iconstN X 1 dJ6_numberOfLeadingZeros_0f7a4_75 rfl ?_
            refine AW.iushrN X dJ6_numberOfLeadingZeros_0f7a4_76 (by omega) (by decide) ?_
            refine AW.isubN X dJ6_numberOfLeadingZeros_0f7a4_77 (by omega) ?_
            refine AW.iret X hQ dJ6_numberOfLeadingZeros_0f7a4_78 ⟨_, rfl, ?_⟩
            exact ⟨congrArg nI (by first | exact nlz_1 a ha h0 (by omega) | exact nlz_2 a ha (by omega) (by omega) | exact nlz_3 a ha (by omega) (by omega) | exact nlz_4 a ha (by omega)), rfl⟩
      · omega
    · omega
  · omega
set_option maxRecDepth 100000 in
set_option maxHeartbeats 4000000 in
theorem c_J6_highestOneBit_0f7a4 {l : Launch} {δ : Dl} {b nn NN : Nat} {sh : Sh} {μ : Mm} {a : Nat} (h0 : 0 < a) (ha : a < 256) : MC l δ b nn sh False yJ6_highestOneBit_0f7a4 cJ6_highestOneBit_0f7a4 1 (some .int) 2 0 0 NN NN [.int (nI a)] μ (pI fun r μ' => r = nI (2 ^ top a) ∧ μ' = μ) := by
  refine MC.intro ([some (.int (nI a))]) (by decide) rfl rfl fun κ Qc hl hQ X => ?_
  subst hl
  refine AW.iload_n X dJ6_highestOneBit_0f7a4_0 (i := 0) rfl rfl ?_
  refine AW.ldci X (v := -2147483648) dJ6_highestOneBit_0f7a4_1 kJ6_127 ?_
  refine AW.iload_n X dJ6_highestOneBit_0f7a4_3 (i := 0) rfl rfl ?_
  refine AW.callS X dJ6_highestOneBit_0f7a4_4 lJ6_51 (c_J6_numberOfLeadingZeros_0f7a4 h0 ha) rfl rfl rfl rfl ⟨rfl, rfl⟩ (pR_k ?_)
  refine AW.iushr X dJ6_highestOneBit_0f7a4_7 ?_
  refine AW.iand X dJ6_highestOneBit_0f7a4_8 ?_
  refine AW.iret X hQ dJ6_highestOneBit_0f7a4_9 ⟨_, rfl, ?_⟩
  exact ⟨hob_t a ha h0, rfl⟩
end
section
set_option maxRecDepth 100000 in
set_option maxHeartbeats 4000000 in
theorem c_X3_lies {l : Launch} {δ : Dl} {b : Nat} {μ : Mm} (W : WX μ.2.2) {o : Nat} (hF : FA o) {V : Vt} (hV : HV μ o V) {c k : Nat} (hc : c < V 0 2) (hk : k < 12) : MCX l δ b yX3_lies cX3_lies 3 (some .boolean) 1 [.ref (b + o), .int (nI c), .int (nI k)] μ (pI fun r μ' => r = bI (lies V c k) ∧ μ' = μ) := by
  have bn := hi_n hV.1
  have bg := hi_gap hV.1 hc
  have bo := hi_go hV.1 hk
  refine MC.intro ([some (.ref (b + o)), some (.int (nI c)), some (.int (nI k))]) (by decide) rfl rfl fun κ Qc hl hQ X => ?_
  subst hl
  refine AW.aload_n X dX3_lies_0 (i := 0) rfl rfl ?_
  refine AW.getR X dX3_lies_1 fX3_31 rfl (fa_ob hF) (wx_gap W hF) ?_
  refine AW.iload_n X dX3_lies_4 (i := 1) rfl rfl ?_
  refine AW.iaload X dX3_lies_5 (fa_4 hF) (n2_in (by omega) (by decide)) (v := (nI (V 4 c))) (by rw [n2_clamp (by omega)]; exact hv_4 hV (by omega)) ?_
  refine AW.iload_n X dX3_lies_6 (i := 2) rfl rfl ?_
  refine AW.icmp_eqN X (tgt := 27) dX3_lies_7 (by decide) (by omega) (by omega) (fun h7 => ?_) (fun h7 => ?_)
  · refine AW.iconstN X 0 dX3_lies_27 rfl ?_
    refine AW.zret X rfl hQ dX3_lies_28 ⟨_, rfl, ?_⟩
    have e : (lies V c k) = false := by simp [lies, *]
    exact ⟨by rw [e]; rfl, rfl⟩
  · refine AW.aload_n X dX3_lies_10 (i := 0) rfl rfl ?_
    refine AW.getR X dX3_lies_11 fX3_37 rfl (fa_ob hF) (wx_gone W hF) ?_
    refine AW.iload_n X dX3_lies_14 (i := 2) rfl rfl ?_
    refine AW.iaload X dX3_lies_15 (fa_6 hF) (n2_in (by omega) (by decide)) (v := (nI (V 6 k))) (by rw [n2_clamp (by omega)]; exact hv_6 hV (by omega)) ?_
    refine AW.iload_n X dX3_lies_16 (i := 1) rfl rfl ?_
    refine AW.hasN X dX3_lies_17 dX3_lies_18 dX3_lies_19 (by omega) (by omega) ?_
    refine AW.if_neB X (tgt := 27) dX3_lies_20 (by decide) (fun h20 => ?_) (fun h20 => ?_)
    · refine AW.iconstN X 0 dX3_lies_27 rfl ?_
      refine AW.zret X rfl hQ dX3_lies_28 ⟨_, rfl, ?_⟩
      have e : (lies V c k) = false := by simp [lies, *]
      exact ⟨by rw [e]; rfl, rfl⟩
    · refine AW.iconstN X 1 dX3_lies_23 rfl ?_
      refine AW.goto X (tgt := 28) dX3_lies_24 (by decide) ?_
      refine AW.zret X rfl hQ dX3_lies_28 ⟨_, rfl, ?_⟩
      have e : (lies V c k) = true := by simp [lies, *]
      exact ⟨by rw [e]; rfl, rfl⟩
set_option maxRecDepth 100000 in
set_option maxHeartbeats 4000000 in
theorem c_X3_lyingIn {l : Launch} {δ : Dl} {b : Nat} {μ : Mm} (W : WX μ.2.2) {o : Nat} (hF : FA o) {V : Vt} (hV : HV μ o V) {k : Nat} (hk : k < 12) : MCX l δ b yX3_lyingIn cX3_lyingIn 4 (some .int) 2 [.ref (b + o), .int (nI k)] μ (pI fun r μ' => r = nI (lyA V k) ∧ μ' = μ) := by
  have bn := hi_n hV.1
  refine MC.intro ([some (.ref (b + o)), some (.int (nI k)), none, none]) (by decide) rfl rfl fun κ Qc hl hQ X => ?_
  subst hl
  have L4 : ∀ (m i : Nat), V 0 2 - i < m → i ≤ V 0 2 → AW κ (δ, b, NX, 4, shX, False, Qc, 0, 0) NX 0 0 4 [some (.ref (b + o)), some (.int (nI k)), some (.int (nI (ly V k i))), some (.int (nI i))] [] μ := by
    intro m
    induction m with
    | zero => intro i hm; exact absurd hm (Nat.not_lt_zero _)
    | succ m ih =>
      intro i hm hi 
      have b1 := ly_lt8 V k (i := i) (by omega)
      refine AW.iload_n X dX3_lyingIn_4 (i := 3) rfl rfl ?_
      refine AW.aload_n X dX3_lyingIn_5 (i := 0) rfl rfl ?_
      refine AW.getI X dX3_lyingIn_6 fX3_18 rfl (fa_ob hF) (hv_n hV) ?_
      refine AW.icmp_geN X (tgt := 33) dX3_lyingIn_9 (by decide) (by omega) (by omega) (fun h9 => ?_) (fun h9 => ?_)
      · obtain rfl : i = V 0 2 := by omega
        refine AW.iload_n X dX3_lyingIn_33 (i := 2) rfl rfl ?_
        refine AW.iret X hQ dX3_lyingIn_34 ⟨_, rfl, ?_⟩
        exact ⟨rfl, rfl⟩
      · refine AW.aload_n X dX3_lyingIn_12 (i := 0) rfl rfl ?_
        refine AW.iload_n X dX3_lyingIn_13 (i := 3) rfl rfl ?_
        refine AW.iload_n X dX3_lyingIn_14 (i := 1) rfl rfl ?_
        refine AW.callV X dX3_lyingIn_15 lX3_50 cfX3 (c_X3_lies W hF hV (by omega) (by omega)) (fa_ob hF) rfl rfl rfl rfl ⟨rfl, rfl⟩ (pR_k ?_)
        refine AW.if_eqB X (tgt := 27) dX3_lyingIn_18 (by decide) (fun h18 => ?_) (fun h18 => ?_)
        · refine AW.iincN X (c := (i + 1)) dX3_lyingIn_27 rfl (inc_1 _) rfl ?_
          refine AW.goto X (tgt := 4) dX3_lyingIn_30 (by decide) ?_
          refine AW.cg ?_ (ih (i + 1) (by omega) (by omega))
          simp [ly, *]
        · refine AW.iload_n X dX3_lyingIn_21 (i := 2) rfl rfl ?_
          refine AW.iconstN X 1 dX3_lyingIn_22 rfl ?_
          refine AW.iload_n X dX3_lyingIn_23 (i := 3) rfl rfl ?_
          refine AW.shl1 X dX3_lyingIn_24 (by omega) ?_
          refine AW.iorN X dX3_lyingIn_25 ?_
          refine AW.istore_n X dX3_lyingIn_26 (i := 2) rfl rfl ?_
          refine AW.iincN X (c := (i + 1)) dX3_lyingIn_27 rfl (inc_1 _) rfl ?_
          refine AW.goto X (tgt := 4) dX3_lyingIn_30 (by decide) ?_
          refine AW.cg ?_ (ih (i + 1) (by omega) (by omega))
          simp [ly, *]
  refine AW.iconstN X 0 dX3_lyingIn_0 rfl ?_
  refine AW.istore_n X dX3_lyingIn_1 (i := 2) rfl rfl ?_
  refine AW.iconstN X 0 dX3_lyingIn_2 rfl ?_
  refine AW.istore_n X dX3_lyingIn_3 (i := 3) rfl rfl ?_
  exact L4 _ 0 (Nat.lt_succ_self _) (by omega)
set_option maxRecDepth 100000 in
set_option maxHeartbeats 4000000 in
theorem c_X3_cellsOf {l : Launch} {δ : Dl} {b : Nat} {μ : Mm} (W : WX μ.2.2) {o : Nat} (hF : FA o) {V : Vt} (hV : HV μ o V) {c : Nat} (hc : c < V 0 2) : MCX l δ b yX3_cellsOf cX3_cellsOf 4 (some .int) 2 [.ref (b + o), .int (nI c)] μ (pI fun r μ' => r = nI (cellsTo V c 12) ∧ μ' = μ) := by
  have bn := hi_n hV.1
  refine MC.intro ([some (.ref (b + o)), some (.int (nI c)), none, none]) (by decide) rfl rfl fun κ Qc hl hQ X => ?_
  subst hl
  have L4 : ∀ (m i : Nat), 12 - i < m → i ≤ 12 → AW κ (δ, b, NX, 4, shX, False, Qc, 0, 0) NX 0 0 4 [some (.ref (b + o)), some (.int (nI c)), some (.int (nI (cellsTo V c i))), some (.int (nI i))] [] μ := by
    intro m
    induction m with
    | zero => intro i hm; exact absurd hm (Nat.not_lt_zero _)
    | succ m ih =>
      intro i hm hi 
      refine AW.iload_n X dX3_cellsOf_4 (i := 3) rfl rfl ?_
      refine AW.bipushN X 12 dX3_cellsOf_5 rfl ?_
      refine AW.icmp_geN X (tgt := 31) dX3_cellsOf_7 (by decide) (by omega) (by omega) (fun h7 => ?_) (fun h7 => ?_)
      · obtain rfl : i = 12 := by omega
        refine AW.iload_n X dX3_cellsOf_31 (i := 2) rfl rfl ?_
        refine AW.iret X hQ dX3_cellsOf_32 ⟨_, rfl, ?_⟩
        exact ⟨rfl, rfl⟩
      · refine AW.aload_n X dX3_cellsOf_10 (i := 0) rfl rfl ?_
        refine AW.iload_n X dX3_cellsOf_11 (i := 1) rfl rfl ?_
        refine AW.iload_n X dX3_cellsOf_12 (i := 3) rfl rfl ?_
        refine AW.callV X dX3_cellsOf_13 lX3_50 cfX3 (c_X3_lies W hF hV (by omega) (by omega)) (fa_ob hF) rfl rfl rfl rfl ⟨rfl, rfl⟩ (pR_k ?_)
        refine AW.if_eqB X (tgt := 25) dX3_cellsOf_16 (by decide) (fun h16 => ?_) (fun h16 => ?_)
        · refine AW.iincN X (c := (i + 1)) dX3_cellsOf_25 rfl (inc_1 _) rfl ?_
          refine AW.goto X (tgt := 4) dX3_cellsOf_28 (by decide) ?_
          refine AW.cg ?_ (ih (i + 1) (by omega) (by omega))
          simp [cellsTo, *]
        · refine AW.iload_n X dX3_cellsOf_19 (i := 2) rfl rfl ?_
          refine AW.iconstN X 1 dX3_cellsOf_20 rfl ?_
          refine AW.iload_n X dX3_cellsOf_21 (i := 3) rfl rfl ?_
          refine AW.shl1 X dX3_cellsOf_22 (by omega) ?_
          refine AW.iorN X dX3_cellsOf_23 ?_
          refine AW.istore_n X dX3_cellsOf_24 (i := 2) rfl rfl ?_
          refine AW.iincN X (c := (i + 1)) dX3_cellsOf_25 rfl (inc_1 _) rfl ?_
          refine AW.goto X (tgt := 4) dX3_cellsOf_28 (by decide) ?_
          refine AW.cg ?_ (ih (i + 1) (by omega) (by omega))
          simp [cellsTo, *]
  refine AW.iconstN X 0 dX3_cellsOf_0 rfl ?_
  refine AW.istore_n X dX3_cellsOf_1 (i := 2) rfl rfl ?_
  refine AW.iconstN X 0 dX3_cellsOf_2 rfl ?_
  refine AW.istore_n X dX3_cellsOf_3 (i := 3) rfl rfl ?_
  exact L4 _ 0 (Nat.lt_succ_self _) (by omega)
set_option maxRecDepth 100000 in
set_option maxHeartbeats 4000000 in
theorem c_X3_depthFrom {l : Launch} {δ : Dl} {b : Nat} {μ : Mm} (W : WX μ.2.2) {o : Nat} (hF : FA o) {V : Vt} (hV : HV μ o V) {lo k : Nat} (hlo : lo ≤ V 0 2) (hk : k < 12) : MCX l δ b yX3_depthFrom cX3_depthFrom 5 (some .int) 2 [.ref (b + o), .int (nI lo), .int (nI k)] μ (pI fun r μ' => r = nI (dsum V k lo (V 0 2)) ∧ μ' = μ) := by
  have bn := hi_n hV.1
  refine MC.intro ([some (.ref (b + o)), some (.int (nI lo)), some (.int (nI k)), none, none]) (by decide) rfl rfl fun κ Qc hl hQ X => ?_
  subst hl
  have L5 : ∀ (m i : Nat), V 0 2 - i < m → i ≤ V 0 2 → lo ≤ i → AW κ (δ, b, NX, 5, shX, False, Qc, 0, 0) NX 0 0 5 [some (.ref (b + o)), some (.int (nI lo)), some (.int (nI k)), some (.int (nI (dsum V k lo i))), some (.int (nI i))] [] μ := by
    intro m
    induction m with
    | zero => intro i hm; exact absurd hm (Nat.not_lt_zero _)
    | succ m ih =>
      intro i hm hi 
      intro hl2
      have b1 := dsum_le hV.1 k lo i (by omega)
      refine AW.iload X dX3_depthFrom_5 rfl ?_
      refine AW.aload_n X dX3_depthFrom_7 (i := 0) rfl rfl ?_
      refine AW.getI X dX3_depthFrom_8 fX3_18 rfl (fa_ob hF) (hv_n hV) ?_
      refine AW.icmp_geN X (tgt := 40) dX3_depthFrom_11 (by decide) (by omega) (by omega) (fun h11 => ?_) (fun h11 => ?_)
      · obtain rfl : i = V 0 2 := by omega
        refine AW.iload_n X dX3_depthFrom_40 (i := 3) rfl rfl ?_
        refine AW.iret X hQ dX3_depthFrom_41 ⟨_, rfl, ?_⟩
        exact ⟨rfl, rfl⟩
      · refine AW.aload_n X dX3_depthFrom_14 (i := 0) rfl rfl ?_
        refine AW.iload X dX3_depthFrom_15 rfl ?_
        refine AW.iload_n X dX3_depthFrom_17 (i := 2) rfl rfl ?_
        refine AW.callV X dX3_depthFrom_18 lX3_50 cfX3 (c_X3_lies W hF hV (by omega) (by omega)) (fa_ob hF) rfl rfl rfl rfl ⟨rfl, rfl⟩ (pR_k ?_)
        refine AW.if_eqB X (tgt := 34) dX3_depthFrom_21 (by decide) (fun h21 => ?_) (fun h21 => ?_)
        · refine AW.iincN X (c := (i + 1)) dX3_depthFrom_34 rfl (inc_1 _) rfl ?_
          refine AW.goto X (tgt := 5) dX3_depthFrom_37 (by decide) ?_
          refine AW.cg ?_ (ih (i + 1) (by omega) (by omega) (by omega))
          simp [dsum, *]
        · refine AW.iload_n X dX3_depthFrom_24 (i := 3) rfl rfl ?_
          refine AW.aload_n X dX3_depthFrom_25 (i := 0) rfl rfl ?_
          refine AW.getR X dX3_depthFrom_26 fX3_28 rfl (fa_ob hF) (wx_thick W hF) ?_
          refine AW.iload X dX3_depthFrom_29 rfl ?_
          refine AW.iaload X dX3_depthFrom_31 (fa_3 hF) (n2_in (by omega) (by decide)) (v := (nI (V 3 i))) (by rw [n2_clamp (by omega)]; exact hv_3 hV (by omega)) ?_
          refine AW.iaddN X dX3_depthFrom_32 ?_
          refine AW.istore_n X dX3_depthFrom_33 (i := 3) rfl rfl ?_
          refine AW.iincN X (c := (i + 1)) dX3_depthFrom_34 rfl (inc_1 _) rfl ?_
          refine AW.goto X (tgt := 5) dX3_depthFrom_37 (by decide) ?_
          refine AW.cg ?_ (ih (i + 1) (by omega) (by omega) (by omega))
          simp [dsum, *]
  refine AW.iconstN X 0 dX3_depthFrom_0 rfl ?_
  refine AW.istore_n X dX3_depthFrom_1 (i := 3) rfl rfl ?_
  refine AW.iload_n X dX3_depthFrom_2 (i := 1) rfl rfl ?_
  refine AW.istore X dX3_depthFrom_3 rfl ?_
  have e0 := dsum_0 V k lo lo (Nat.le_refl _)
  refine AW.cg ?_ (L5 _ lo (Nat.lt_succ_self _) hlo (Nat.le_refl _))
  simp [e0]
set_option maxRecDepth 100000 in
set_option maxHeartbeats 4000000 in
theorem c_X3_depth {l : Launch} {δ : Dl} {b : Nat} {μ : Mm} (W : WX μ.2.2) {o : Nat} (hF : FA o) {V : Vt} (hV : HV μ o V) {k : Nat} (hk : k < 12) : MCX l δ b yX3_depth cX3_depth 2 (some .int) 3 [.ref (b + o), .int (nI k)] μ (pI fun r μ' => r = nI (depth V k) ∧ μ' = μ) := by
  have bn := hi_n hV.1
  refine MC.intro ([some (.ref (b + o)), some (.int (nI k))]) (by decide) rfl rfl fun κ Qc hl hQ X => ?_
  subst hl
  refine AW.aload_n X dX3_depth_0 (i := 0) rfl rfl ?_
  refine AW.iconstN X 0 dX3_depth_1 rfl ?_
  refine AW.iload_n X dX3_depth_2 (i := 1) rfl rfl ?_
  refine AW.callV X dX3_depth_3 lX3_54 cfX3 (c_X3_depthFrom W hF hV (by omega) (by omega)) (fa_ob hF) rfl rfl rfl rfl ⟨rfl, rfl⟩ (pR_k ?_)
  refine AW.iret X hQ dX3_depth_6 ⟨_, rfl, ?_⟩
  exact ⟨rfl, rfl⟩
set_option maxRecDepth 100000 in
set_option maxHeartbeats 4000000 in
theorem c_X3_wholeSkin {l : Launch} {δ : Dl} {b : Nat} {μ : Mm} (W : WX μ.2.2) {o : Nat} (hF : FA o) {V : Vt} (hV : HV μ o V)  : MCX l δ b yX3_wholeSkin cX3_wholeSkin 3 (some .int) 4 [.ref (b + o)] μ (pI fun r μ' => r = nI (skin V) ∧ μ' = μ) := by
  have bn := hi_n hV.1
  refine MC.intro ([some (.ref (b + o)), none, none]) (by decide) rfl rfl fun κ Qc hl hQ X => ?_
  subst hl
  have L4 : ∀ (m i : Nat), 12 - i < m → i ≤ 12 → AW κ (δ, b, NX, 3, shX, False, Qc, 0, 0) NX 0 0 4 [some (.ref (b + o)), some (.int (nI (skinTo V i))), some (.int (nI i))] [] μ := by
    intro m
    induction m with
    | zero => intro i hm; exact absurd hm (Nat.not_lt_zero _)
    | succ m ih =>
      intro i hm hi 
      have b1 := skinTo_le hV.1 i
      refine AW.iload_n X dX3_wholeSkin_4 (i := 2) rfl rfl ?_
      refine AW.bipushN X 12 dX3_wholeSkin_5 rfl ?_
      refine AW.icmp_geN X (tgt := 24) dX3_wholeSkin_7 (by decide) (by omega) (by omega) (fun h7 => ?_) (fun h7 => ?_)
      · obtain rfl : i = 12 := by omega
        refine AW.iload_n X dX3_wholeSkin_24 (i := 1) rfl rfl ?_
        refine AW.iret X hQ dX3_wholeSkin_25 ⟨_, rfl, ?_⟩
        exact ⟨rfl, rfl⟩
      · refine AW.iload_n X dX3_wholeSkin_10 (i := 1) rfl rfl ?_
        refine AW.aload_n X dX3_wholeSkin_11 (i := 0) rfl rfl ?_
        refine AW.iload_n X dX3_wholeSkin_12 (i := 2) rfl rfl ?_
        refine AW.callV X dX3_wholeSkin_13 lX3_58 cfX3 (c_X3_depth W hF hV (by omega)) (fa_ob hF) rfl rfl rfl rfl ⟨rfl, rfl⟩ (pR_k ?_)
        refine AW.iaddN X dX3_wholeSkin_16 ?_
        refine AW.istore_n X dX3_wholeSkin_17 (i := 1) rfl rfl ?_
        refine AW.iincN X (c := (i + 1)) dX3_wholeSkin_18 rfl (inc_1 _) rfl ?_
        refine AW.goto X (tgt := 4) dX3_wholeSkin_21 (by decide) ?_
        refine AW.cg ?_ (ih (i + 1) (by omega) (by omega))
        simp [skinTo, *]
  refine AW.iconstN X 0 dX3_wholeSkin_0 rfl ?_
  refine AW.istore_n X dX3_wholeSkin_1 (i := 1) rfl rfl ?_
  refine AW.iconstN X 0 dX3_wholeSkin_2 rfl ?_
  refine AW.istore_n X dX3_wholeSkin_3 (i := 2) rfl rfl ?_
  exact L4 _ 0 (Nat.lt_succ_self _) (by omega)
set_option maxRecDepth 100000 in
set_option maxHeartbeats 4000000 in
theorem c_X3_greatestDepth {l : Launch} {δ : Dl} {b : Nat} {μ : Mm} (W : WX μ.2.2) {o : Nat} (hF : FA o) {V : Vt} (hV : HV μ o V)  : MCX l δ b yX3_greatestDepth cX3_greatestDepth 3 (some .int) 4 [.ref (b + o)] μ (pI fun r μ' => r = nI (deepTo V 12) ∧ μ' = μ) := by
  have bn := hi_n hV.1
  refine MC.intro ([some (.ref (b + o)), none, none]) (by decide) rfl rfl fun κ Qc hl hQ X => ?_
  subst hl
  have L4 : ∀ (m i : Nat), 12 - i < m → i ≤ 12 → AW κ (δ, b, NX, 3, shX, False, Qc, 0, 0) NX 0 0 4 [some (.ref (b + o)), some (.int (nI (deepTo V i))), some (.int (nI i))] [] μ := by
    intro m
    induction m with
    | zero => intro i hm; exact absurd hm (Nat.not_lt_zero _)
    | succ m ih =>
      intro i hm hi 
      have b1 := deepTo_le hV.1 i
      have b2 := depth_le hV.1 i
      refine AW.iload_n X dX3_greatestDepth_4 (i := 2) rfl rfl ?_
      refine AW.bipushN X 12 dX3_greatestDepth_5 rfl ?_
      refine AW.icmp_geN X (tgt := 26) dX3_greatestDepth_7 (by decide) (by omega) (by omega) (fun h7 => ?_) (fun h7 => ?_)
      · obtain rfl : i = 12 := by omega
        refine AW.iload_n X dX3_greatestDepth_26 (i := 1) rfl rfl ?_
        refine AW.iret X hQ dX3_greatestDepth_27 ⟨_, rfl, ?_⟩
        exact ⟨rfl, rfl⟩
      · refine AW.iload_n X dX3_greatestDepth_10 (i := 1) rfl rfl ?_
        refine AW.aload_n X dX3_greatestDepth_11 (i := 0) rfl rfl ?_
        refine AW.iload_n X dX3_greatestDepth_12 (i := 2) rfl rfl ?_
        refine AW.callV X dX3_greatestDepth_13 lX3_58 cfX3 (c_X3_depth W hF hV (by omega)) (fa_ob hF) rfl rfl rfl rfl ⟨rfl, rfl⟩ (pR_k ?_)
        refine AW.maxN X dX3_greatestDepth_16 (by omega) (by omega) lX3_max (by decide) ?_
        refine AW.istore_n X dX3_greatestDepth_19 (i := 1) rfl rfl ?_
        refine AW.iincN X (c := (i + 1)) dX3_greatestDepth_20 rfl (inc_1 _) rfl ?_
        refine AW.goto X (tgt := 4) dX3_greatestDepth_23 (by decide) ?_
        refine AW.cg ?_ (ih (i + 1) (by omega) (by omega))
        simp [deepTo, *]
  refine AW.iconstN X 0 dX3_greatestDepth_0 rfl ?_
  refine AW.istore_n X dX3_greatestDepth_1 (i := 1) rfl rfl ?_
  refine AW.iconstN X 0 dX3_greatestDepth_2 rfl ?_
  refine AW.istore_n X dX3_greatestDepth_3 (i := 2) rfl rfl ?_
  exact L4 _ 0 (Nat.lt_succ_self _) (by omega)
set_option maxRecDepth 100000 in
set_option maxHeartbeats 4000000 in
theorem c_X3_lived {l : Launch} {δ : Dl} {b : Nat} {μ : Mm} (W : WX μ.2.2) {o : Nat} (hF : FA o) {V : Vt} (hV : HV μ o V)  : MCX l δ b yX3_lived cX3_lived 3 (some .int) 1 [.ref (b + o)] μ (pI fun r μ' => r = nI (livedTo V (V 0 2)) ∧ μ' = μ) := by
  have bn := hi_n hV.1
  refine MC.intro ([some (.ref (b + o)), none, none]) (by decide) rfl rfl fun κ Qc hl hQ X => ?_
  subst hl
  have L4 : ∀ (m i : Nat), V 0 2 - i < m → i ≤ V 0 2 → AW κ (δ, b, NX, 3, shX, False, Qc, 0, 0) NX 0 0 4 [some (.ref (b + o)), some (.int (nI (livedTo V i))), some (.int (nI i))] [] μ := by
    intro m
    induction m with
    | zero => intro i hm; exact absurd hm (Nat.not_lt_zero _)
    | succ m ih =>
      intro i hm hi 
      refine AW.iload_n X dX3_lived_4 (i := 2) rfl rfl ?_
      refine AW.aload_n X dX3_lived_5 (i := 0) rfl rfl ?_
      refine AW.getI X dX3_lived_6 fX3_18 rfl (fa_ob hF) (hv_n hV) ?_
      refine AW.icmp_geN X (tgt := 29) dX3_lived_9 (by decide) (by omega) (by omega) (fun h9 => ?_) (fun h9 => ?_)
      · obtain rfl : i = V 0 2 := by omega
        refine AW.iload_n X dX3_lived_29 (i := 1) rfl rfl ?_
        refine AW.iret X hQ dX3_lived_30 ⟨_, rfl, ?_⟩
        exact ⟨rfl, rfl⟩
      · have bt := hi_ten hV.1 h9
        refine AW.iload_n X dX3_lived_12 (i := 1) rfl rfl ?_
        refine AW.iconstN X 1 dX3_lived_13 rfl ?_
        refine AW.aload_n X dX3_lived_14 (i := 0) rfl rfl ?_
        refine AW.getR X dX3_lived_15 fX3_21 rfl (fa_ob hF) (wx_tenant W hF) ?_
        refine AW.iload_n X dX3_lived_18 (i := 2) rfl rfl ?_
        refine AW.iaload X dX3_lived_19 (fa_1 hF) (n2_in (by omega) (by decide)) (v := (nI (V 1 i))) (by rw [n2_clamp (by omega)]; exact hv_1 hV (by omega)) ?_
        refine AW.shl1 X dX3_lived_20 (by omega) ?_
        refine AW.iorN X dX3_lived_21 ?_
        refine AW.istore_n X dX3_lived_22 (i := 1) rfl rfl ?_
        refine AW.iincN X (c := (i + 1)) dX3_lived_23 rfl (inc_1 _) rfl ?_
        refine AW.goto X (tgt := 4) dX3_lived_26 (by decide) ?_
        refine AW.cg ?_ (ih (i + 1) (by omega) (by omega))
        simp [livedTo, *]
  refine AW.iconstN X 0 dX3_lived_0 rfl ?_
  refine AW.istore_n X dX3_lived_1 (i := 1) rfl rfl ?_
  refine AW.iconstN X 0 dX3_lived_2 rfl ?_
  refine AW.istore_n X dX3_lived_3 (i := 2) rfl rfl ?_
  exact L4 _ 0 (Nat.lt_succ_self _) (by omega)
set_option maxRecDepth 100000 in
set_option maxHeartbeats 4000000 in
theorem c_X3_coatsOf {l : Launch} {δ : Dl} {b : Nat} {μ : Mm} (W : WX μ.2.2) {o : Nat} (hF : FA o) {V : Vt} (hV : HV μ o V) {t : Nat} (ht : t < 8) : MCX l δ b yX3_coatsOf cX3_coatsOf 4 (some .int) 1 [.ref (b + o), .int (nI t)] μ (pI fun r μ' => r = nI (coatsTo V t (V 0 2)) ∧ μ' = μ) := by
  have bn := hi_n hV.1
  refine MC.intro ([some (.ref (b + o)), some (.int (nI t)), none, none]) (by decide) rfl rfl fun κ Qc hl hQ X => ?_
  subst hl
  have L4 : ∀ (m i : Nat), V 0 2 - i < m → i ≤ V 0 2 → AW κ (δ, b, NX, 4, shX, False, Qc, 0, 0) NX 0 0 4 [some (.ref (b + o)), some (.int (nI t)), some (.int (nI (coatsTo V t i))), some (.int (nI i))] [] μ := by
    intro m
    induction m with
    | zero => intro i hm; exact absurd hm (Nat.not_lt_zero _)
    | succ m ih =>
      intro i hm hi 
      refine AW.iload_n X dX3_coatsOf_4 (i := 3) rfl rfl ?_
      refine AW.aload_n X dX3_coatsOf_5 (i := 0) rfl rfl ?_
      refine AW.getI X dX3_coatsOf_6 fX3_18 rfl (fa_ob hF) (hv_n hV) ?_
      refine AW.icmp_geN X (tgt := 31) dX3_coatsOf_9 (by decide) (by omega) (by omega) (fun h9 => ?_) (fun h9 => ?_)
      · obtain rfl : i = V 0 2 := by omega
        refine AW.iload_n X dX3_coatsOf_31 (i := 2) rfl rfl ?_
        refine AW.iret X hQ dX3_coatsOf_32 ⟨_, rfl, ?_⟩
        exact ⟨rfl, rfl⟩
      · have bt := hi_ten hV.1 h9
        refine AW.aload_n X dX3_coatsOf_12 (i := 0) rfl rfl ?_
        refine AW.getR X dX3_coatsOf_13 fX3_21 rfl (fa_ob hF) (wx_tenant W hF) ?_
        refine AW.iload_n X dX3_coatsOf_16 (i := 3) rfl rfl ?_
        refine AW.iaload X dX3_coatsOf_17 (fa_1 hF) (n2_in (by omega) (by decide)) (v := (nI (V 1 i))) (by rw [n2_clamp (by omega)]; exact hv_1 hV (by omega)) ?_
        refine AW.iload_n X dX3_coatsOf_18 (i := 1) rfl rfl ?_
        refine AW.icmp_neN X (tgt := 25) dX3_coatsOf_19 (by decide) (by omega) (by omega) (fun h19 => ?_) (fun h19 => ?_)
        · refine AW.iincN X (c := (i + 1)) dX3_coatsOf_25 rfl (inc_1 _) rfl ?_
          refine AW.goto X (tgt := 4) dX3_coatsOf_28 (by decide) ?_
          refine AW.cg ?_ (ih (i + 1) (by omega) (by omega))
          simp [coatsTo, *]
        · refine AW.iincN X (c := ((coatsTo V t i) + 1)) dX3_coatsOf_22 rfl (inc_1 _) rfl ?_
          refine AW.iincN X (c := (i + 1)) dX3_coatsOf_25 rfl (inc_1 _) rfl ?_
          refine AW.goto X (tgt := 4) dX3_coatsOf_28 (by decide) ?_
          refine AW.cg ?_ (ih (i + 1) (by omega) (by omega))
          simp [coatsTo, *]
  refine AW.iconstN X 0 dX3_coatsOf_0 rfl ?_
  refine AW.istore_n X dX3_coatsOf_1 (i := 2) rfl rfl ?_
  refine AW.iconstN X 0 dX3_coatsOf_2 rfl ?_
  refine AW.istore_n X dX3_coatsOf_3 (i := 3) rfl rfl ?_
  exact L4 _ 0 (Nat.lt_succ_self _) (by omega)
end
section
set_option maxRecDepth 100000 in
set_option maxHeartbeats 4000000 in
theorem c_X4_wetness {l : Launch} {δ : Dl} {b : Nat} {μ : Mm} {o a k d : Nat}  : MCX l δ b yX4_wetness cX4_wetness 4 (some .int) 1 [.ref (b + o), .int (nI a), .int (nI k), .int (nI d)] μ (pI fun r μ' => r = nI d ∧ μ' = μ) := by
  refine MC.intro ([some (.ref (b + o)), some (.int (nI a)), some (.int (nI k)), some (.int (nI d))]) (by decide) rfl rfl fun κ Qc hl hQ X => ?_
  subst hl
  refine AW.iload_n X dX4_wetness_0 (i := 3) rfl rfl ?_
  refine AW.iret X hQ dX4_wetness_1 ⟨_, rfl, ?_⟩
  exact ⟨rfl, rfl⟩
set_option maxRecDepth 100000 in
set_option maxHeartbeats 4000000 in
theorem c_X4_hardness {l : Launch} {δ : Dl} {b : Nat} {μ : Mm} {o a k d : Nat}  : MCX l δ b yX4_hardness cX4_hardness 4 (some .int) 1 [.ref (b + o), .int (nI a), .int (nI k), .int (nI d)] μ (pI fun r μ' => r = nI d ∧ μ' = μ) := by
  refine MC.intro ([some (.ref (b + o)), some (.int (nI a)), some (.int (nI k)), some (.int (nI d))]) (by decide) rfl rfl fun κ Qc hl hQ X => ?_
  subst hl
  refine AW.iload_n X dX4_hardness_0 (i := 3) rfl rfl ?_
  refine AW.iret X hQ dX4_hardness_1 ⟨_, rfl, ?_⟩
  exact ⟨rfl, rfl⟩
set_option maxRecDepth 100000 in
set_option maxHeartbeats 4000000 in
theorem c_X4_counted {l : Launch} {δ : Dl} {b : Nat} {μ : Mm} {o x : Nat}  : MCX l δ b yX4_counted cX4_counted 2 (some .int) 1 [.ref (b + o), .int (nI x)] μ (pI fun r μ' => r = nI x ∧ μ' = μ) := by
  refine MC.intro ([some (.ref (b + o)), some (.int (nI x))]) (by decide) rfl rfl fun κ Qc hl hQ X => ?_
  subst hl
  refine AW.iload_n X dX4_counted_0 (i := 1) rfl rfl ?_
  refine AW.iret X hQ dX4_counted_1 ⟨_, rfl, ?_⟩
  exact ⟨rfl, rfl⟩
set_option maxRecDepth 100000 in
set_option maxHeartbeats 4000000 in
theorem c_X7_counted {l : Launch} {δ : Dl} {b : Nat} {μ : Mm} {o x : Nat} (hx : x < 100) : MCX l δ b yX7_counted cX7_counted 2 (some .int) 1 [.ref (b + o), .int (nI x)] μ (pI fun r μ' => r = nI (x - 1) ∧ μ' = μ) := by
  refine MC.intro ([some (.ref (b + o)), some (.int (nI x))]) (by decide) rfl rfl fun κ Qc hl hQ X => ?_
  subst hl
  refine AW.iload_n X dX7_counted_0 (i := 1) rfl rfl ?_
  refine AW.if_leN X (tgt := 10) dX7_counted_1 (by decide) (by omega) (fun h1 => ?_) (fun h1 => ?_)
  · refine AW.iconstN X 0 dX7_counted_10 rfl ?_
    refine AW.iret X hQ dX7_counted_11 ⟨_, rfl, ?_⟩
    exact ⟨congrArg nI (by first | rfl | omega | (simp [h1]; done) | (simp [h1]; omega)), rfl⟩
  · refine AW.iload_n X dX7_counted_4 (i := 1) rfl rfl ?_
    refine AW.iconstN X 1 dX7_counted_5 rfl ?_
    refine AW.isubN X dX7_counted_6 (by omega) ?_
    refine AW.goto X (tgt := 11) dX7_counted_7 (by decide) ?_
    refine AW.iret X hQ dX7_counted_11 ⟨_, rfl, ?_⟩
    exact ⟨congrArg nI (by first | rfl | omega | (simp [h1]; done) | (simp [h1]; omega)), rfl⟩
set_option maxRecDepth 100000 in
set_option maxHeartbeats 4000000 in
theorem c_X2_wetness {l : Launch} {δ : Dl} {b : Nat} {μ : Mm} {o a k d : Nat} (ha : a ≤ 9) (hk : k < 12) (hd : d < 100) : MCX l δ b yX2_wetness cX2_wetness 4 (some .int) 1 [.ref (b + o), .int (nI a), .int (nI k), .int (nI d)] μ (pI fun r μ' => r = nI (if 0 < d then d + a else d) ∧ μ' = μ) := by
  refine MC.intro ([some (.ref (b + o)), some (.int (nI a)), some (.int (nI k)), some (.int (nI d))]) (by decide) rfl rfl fun κ Qc hl hQ X => ?_
  subst hl
  refine AW.iload_n X dX2_wetness_0 (i := 3) rfl rfl ?_
  refine AW.if_leN X (tgt := 10) dX2_wetness_1 (by decide) (by omega) (fun h1 => ?_) (fun h1 => ?_)
  · refine AW.iload_n X dX2_wetness_10 (i := 3) rfl rfl ?_
    refine AW.iret X hQ dX2_wetness_11 ⟨_, rfl, ?_⟩
    exact ⟨congrArg nI (by first | rfl | omega | (simp [h1]; done) | (simp [h1]; omega)), rfl⟩
  · refine AW.iload_n X dX2_wetness_4 (i := 3) rfl rfl ?_
    refine AW.iload_n X dX2_wetness_5 (i := 1) rfl rfl ?_
    refine AW.iaddN X dX2_wetness_6 ?_
    refine AW.goto X (tgt := 11) dX2_wetness_7 (by decide) ?_
    refine AW.iret X hQ dX2_wetness_11 ⟨_, rfl, ?_⟩
    exact ⟨congrArg nI (by first | rfl | omega | (simp [h1]; done) | (simp [h1]; omega)), rfl⟩
set_option maxRecDepth 100000 in
set_option maxHeartbeats 4000000 in
theorem c_X5_hardness {l : Launch} {δ : Dl} {b : Nat} {μ : Mm} {o a k d : Nat} (ha : a ≤ 9) (hk : k < 12) (hd : d < 100) : MCX l δ b yX5_hardness cX5_hardness 4 (some .int) 1 [.ref (b + o), .int (nI a), .int (nI k), .int (nI d)] μ (pI fun r μ' => r = nI (d - a) ∧ μ' = μ) := by
  refine MC.intro ([some (.ref (b + o)), some (.int (nI a)), some (.int (nI k)), some (.int (nI d))]) (by decide) rfl rfl fun κ Qc hl hQ X => ?_
  subst hl
  refine AW.iload_n X dX5_hardness_0 (i := 3) rfl rfl ?_
  refine AW.iload_n X dX5_hardness_1 (i := 1) rfl rfl ?_
  refine AW.icmp_leN X (tgt := 11) dX5_hardness_2 (by decide) (by omega) (by omega) (fun h2 => ?_) (fun h2 => ?_)
  · refine AW.iconstN X 0 dX5_hardness_11 rfl ?_
    refine AW.iret X hQ dX5_hardness_12 ⟨_, rfl, ?_⟩
    exact ⟨congrArg nI (by first | rfl | omega | (simp [h2]; done) | (simp [h2]; omega)), rfl⟩
  · refine AW.iload_n X dX5_hardness_5 (i := 3) rfl rfl ?_
    refine AW.iload_n X dX5_hardness_6 (i := 1) rfl rfl ?_
    refine AW.isubN X dX5_hardness_7 (by omega) ?_
    refine AW.goto X (tgt := 12) dX5_hardness_8 (by decide) ?_
    refine AW.iret X hQ dX5_hardness_12 ⟨_, rfl, ?_⟩
    exact ⟨congrArg nI (by first | rfl | omega | (simp [h2]; done) | (simp [h2]; omega)), rfl⟩
set_option maxRecDepth 100000 in
set_option maxHeartbeats 4000000 in
theorem c_X1_wetness {l : Launch} {δ : Dl} {b : Nat} {μ : Mm} {o a k d : Nat} (ha : a ≤ 9) (hk : k < 12) (hd : d < 100) (ho : OX o 1) : MCX l δ b yX1_wetness cX1_wetness 5 (some .int) 2 [.ref (b + o), .int (nI a), .int (nI k), .int (nI d)] μ (pI fun r μ' => r = nI (if 8 ≤ k then 2 * (if 0 < d then d + a else d) else (if 0 < d then d + a else d)) ∧ μ' = μ) := by
  refine MC.intro ([some (.ref (b + o)), some (.int (nI a)), some (.int (nI k)), some (.int (nI d)), none]) (by decide) rfl rfl fun κ Qc hl hQ X => ?_
  subst hl
  refine AW.aload_n X dX1_wetness_0 (i := 0) rfl rfl ?_
  refine AW.iload_n X dX1_wetness_1 (i := 1) rfl rfl ?_
  refine AW.iload_n X dX1_wetness_2 (i := 2) rfl rfl ?_
  refine AW.iload_n X dX1_wetness_3 (i := 3) rfl rfl ?_
  refine AW.callSU X dX1_wetness_4 lX1_9 cfX1 (c_X2_wetness ha hk hd) ho rfl rfl rfl rfl ⟨rfl, rfl⟩ (pR_k ?_)
  refine AW.istore X dX1_wetness_7 rfl ?_
  refine AW.iload_n X dX1_wetness_9 (i := 2) rfl rfl ?_
  refine AW.iconstN X 4 dX1_wetness_10 rfl ?_
  refine AW.idivN X dX1_wetness_11 (by first | omega | (split <;> omega)) (by first | omega | (split <;> omega)) (by first | omega | (split <;> omega)) ?_
  refine AW.iconstN X 2 dX1_wetness_12 rfl ?_
  refine AW.icmp_neN X (tgt := 23) dX1_wetness_13 (by decide) (by first | omega | (split <;> omega)) (by first | omega | (split <;> omega)) (fun h13 => ?_) (fun h13 => ?_)
  · refine AW.iload X dX1_wetness_23 rfl ?_
    refine AW.iret X hQ dX1_wetness_25 ⟨_, rfl, ?_⟩
    exact ⟨congrArg nI (by by_cases q : 8 ≤ k <;> first | (rw [if_pos q]; done) | (rw [if_neg q]; done) | omega), rfl⟩
  · refine AW.iconstN X 2 dX1_wetness_16 rfl ?_
    refine AW.iload X dX1_wetness_17 rfl ?_
    refine AW.imulN X dX1_wetness_19 ?_
    refine AW.goto X (tgt := 25) dX1_wetness_20 (by decide) ?_
    refine AW.iret X hQ dX1_wetness_25 ⟨_, rfl, ?_⟩
    exact ⟨congrArg nI (by by_cases q : 8 ≤ k <;> first | (rw [if_pos q]; done) | (rw [if_neg q]; done) | omega), rfl⟩
set_option maxRecDepth 100000 in
set_option maxHeartbeats 4000000 in
theorem c_X0_hardness {l : Launch} {δ : Dl} {b : Nat} {μ : Mm} {o a k d : Nat} (ha : a ≤ 9) (hk : k < 12) (hd : d < 100) (ho : OX o 0) : MCX l δ b yX0_hardness cX0_hardness 4 (some .int) 2 [.ref (b + o), .int (nI a), .int (nI k), .int (nI d)] μ (pI fun r μ' => r = nI (2 * (d - a)) ∧ μ' = μ) := by
  refine MC.intro ([some (.ref (b + o)), some (.int (nI a)), some (.int (nI k)), some (.int (nI d))]) (by decide) rfl rfl fun κ Qc hl hQ X => ?_
  subst hl
  refine AW.iconstN X 2 dX0_hardness_0 rfl ?_
  refine AW.aload_n X dX0_hardness_1 (i := 0) rfl rfl ?_
  refine AW.iload_n X dX0_hardness_2 (i := 1) rfl rfl ?_
  refine AW.iload_n X dX0_hardness_3 (i := 2) rfl rfl ?_
  refine AW.iload_n X dX0_hardness_4 (i := 3) rfl rfl ?_
  refine AW.callSU X dX0_hardness_5 lX0_7 cfX0 (c_X5_hardness ha hk hd) ho rfl rfl rfl rfl ⟨rfl, rfl⟩ (pR_k ?_)
  refine AW.imulN X dX0_hardness_8 ?_
  refine AW.iret X hQ dX0_hardness_9 ⟨_, rfl, ?_⟩
  exact ⟨rfl, rfl⟩
set_option maxRecDepth 100000 in
set_option maxHeartbeats 4000000 in
theorem c_X8_hardness {l : Launch} {δ : Dl} {b : Nat} {μ : Mm} {o a k d : Nat} (ha : a ≤ 9) (hk : k < 12) (hd : d < 100) (ho : OX o 8) : MCX l δ b yX8_hardness cX8_hardness 4 (some .int) 2 [.ref (b + o), .int (nI a), .int (nI k), .int (nI d)] μ (pI fun r μ' => r = nI (if k < 4 then 0 else d - a) ∧ μ' = μ) := by
  refine MC.intro ([some (.ref (b + o)), some (.int (nI a)), some (.int (nI k)), some (.int (nI d))]) (by decide) rfl rfl fun κ Qc hl hQ X => ?_
  subst hl
  refine AW.iload_n X dX8_hardness_0 (i := 2) rfl rfl ?_
  refine AW.iconstN X 4 dX8_hardness_1 rfl ?_
  refine AW.idivN X dX8_hardness_2 (by omega) (by omega) (by omega) ?_
  refine AW.if_neN X (tgt := 10) dX8_hardness_3 (by decide) (by omega) (fun h3 => ?_) (fun h3 => ?_)
  · refine AW.aload_n X dX8_hardness_10 (i := 0) rfl rfl ?_
    refine AW.iload_n X dX8_hardness_11 (i := 1) rfl rfl ?_
    refine AW.iload_n X dX8_hardness_12 (i := 2) rfl rfl ?_
    refine AW.iload_n X dX8_hardness_13 (i := 3) rfl rfl ?_
    refine AW.callSU X dX8_hardness_14 lX8_9 cfX8 (c_X5_hardness ha hk hd) ho rfl rfl rfl rfl ⟨rfl, rfl⟩ (pR_k ?_)
    refine AW.iret X hQ dX8_hardness_17 ⟨_, rfl, ?_⟩
    exact ⟨congrArg nI (by first | (rw [if_pos (by omega)]; done) | (rw [if_neg (by omega)]; done)), rfl⟩
  · refine AW.iconstN X 0 dX8_hardness_6 rfl ?_
    refine AW.goto X (tgt := 17) dX8_hardness_7 (by decide) ?_
    refine AW.iret X hQ dX8_hardness_17 ⟨_, rfl, ?_⟩
    exact ⟨congrArg nI (by first | (rw [if_pos (by omega)]; done) | (rw [if_neg (by omega)]; done)), rfl⟩
theorem ox_k0 : OX 19 4 := dOB (by decide +kernel)
theorem ox_k1 : OX 20 2 := dOB (by decide +kernel)
theorem ox_k2 : OX 21 5 := dOB (by decide +kernel)
theorem ox_k3 : OX 22 1 := dOB (by decide +kernel)
theorem ox_k4 : OX 23 7 := dOB (by decide +kernel)
theorem ox_k5 : OX 24 8 := dOB (by decide +kernel)
theorem ox_k6 : OX 25 0 := dOB (by decide +kernel)
theorem seven {P : Prop} {k : Nat} (hk : k < 7) (h0 : k = 0 → P) (h1 : k = 1 → P) (h2 : k = 2 → P) (h3 : k = 3 → P) (h4 : k = 4 → P) (h5 : k = 5 → P) (h6 : k = 6 → P) : P := by
  have : k = 0 ∨ k = 1 ∨ k = 2 ∨ k = 3 ∨ k = 4 ∨ k = 5 ∨ k = 6 := by omega
  rcases this with e | e | e | e | e | e | e
  · exact h0 e
  · exact h1 e
  · exact h2 e
  · exact h3 e
  · exact h4 e
  · exact h5 e
  · exact h6 e
set_option maxRecDepth 100000 in
set_option maxHeartbeats 4000000 in
theorem c_X3_wetness {l : Launch} {δ : Dl} {b : Nat} {μ : Mm} (W : WX μ.2.2) {o : Nat} (hF : FA o) {V : Vt} (hV : HV μ o V) {k d : Nat} (hk : k < 12) (hd : d < 100) : MCX l δ b yX3_wetness cX3_wetness 3 (some .int) 3 [.ref (b + o), .int (nI k), .int (nI d)] μ (pI fun r μ' => r = nI (wet V k d) ∧ μ' = μ) := by
  have ba := hi_a hV.1
  refine MC.intro ([some (.ref (b + o)), some (.int (nI k)), some (.int (nI d))]) (by decide) rfl rfl fun κ Qc hl hQ X => ?_
  subst hl
  refine AW.aload_n X dX3_wetness_0 (i := 0) rfl rfl ?_
  refine AW.getR X dX3_wetness_1 fX3_40 rfl (fa_ob hF) (hv_kind hV) ?_
  refine AW.aload_n X dX3_wetness_4 (i := 0) rfl rfl ?_
  refine AW.getI X dX3_wetness_5 fX3_15 rfl (fa_ob hF) (hv_a hV) ?_
  refine AW.iload_n X dX3_wetness_8 (i := 1) rfl rfl ?_
  refine AW.iload_n X dX3_wetness_9 (i := 2) rfl rfl ?_
  refine seven (hi_k hV.1) (fun e => ?_) (fun e => ?_) (fun e => ?_) (fun e => ?_) (fun e => ?_) (fun e => ?_) (fun e => ?_)
  · have ez : d = (wet V k d) := by simp [wet, e]
    refine AW.callV X dX3_wetness_10 lX3_67 cfX4 (c_X4_wetness (o := 19 + V 0 0)) (by rw [e]; exact ox_k0 : OX (19 + V 0 0) 4) rfl rfl rfl rfl ⟨rfl, rfl⟩ (pR_ke (congrArg nI ez) ?_)
    refine AW.iret X hQ dX3_wetness_13 ⟨_, rfl, ?_⟩
    exact ⟨rfl, rfl⟩
  · have ez : (if 0 < d then d + (V 0 1) else d) = (wet V k d) := by simp [wet, e]
    refine AW.callU X dX3_wetness_10 lX3_67_X2 cfX2 (c_X2_wetness (o := 19 + V 0 0) (by omega) (by omega) (by omega)) (by rw [e]; exact ox_k1 : OX (19 + V 0 0) 2) rfl rfl rfl rfl ⟨rfl, rfl⟩ (pR_ke (congrArg nI ez) ?_)
    refine AW.iret X hQ dX3_wetness_13 ⟨_, rfl, ?_⟩
    exact ⟨rfl, rfl⟩
  · have ez : d = (wet V k d) := by simp [wet, e]
    refine AW.callU X dX3_wetness_10 lX3_67_X5 cfX5 (c_X4_wetness (o := 19 + V 0 0)) (by rw [e]; exact ox_k2 : OX (19 + V 0 0) 5) rfl rfl rfl rfl ⟨rfl, rfl⟩ (pR_ke (congrArg nI ez) ?_)
    refine AW.iret X hQ dX3_wetness_13 ⟨_, rfl, ?_⟩
    exact ⟨rfl, rfl⟩
  · have ez : (if 8 ≤ k then 2 * (if 0 < d then d + (V 0 1) else d) else (if 0 < d then d + (V 0 1) else d)) = (wet V k d) := by simp [wet, e]
    refine AW.callU X dX3_wetness_10 lX3_67_X1 cfX1 (c_X1_wetness (o := 19 + V 0 0) (by omega) (by omega) (by omega) (by rw [e]; exact ox_k3)) (by rw [e]; exact ox_k3 : OX (19 + V 0 0) 1) rfl rfl rfl rfl ⟨rfl, rfl⟩ (pR_ke (congrArg nI ez) ?_)
    refine AW.iret X hQ dX3_wetness_13 ⟨_, rfl, ?_⟩
    exact ⟨rfl, rfl⟩
  · have ez : d = (wet V k d) := by simp [wet, e]
    refine AW.callU X dX3_wetness_10 lX3_67_X7 cfX7 (c_X4_wetness (o := 19 + V 0 0)) (by rw [e]; exact ox_k4 : OX (19 + V 0 0) 7) rfl rfl rfl rfl ⟨rfl, rfl⟩ (pR_ke (congrArg nI ez) ?_)
    refine AW.iret X hQ dX3_wetness_13 ⟨_, rfl, ?_⟩
    exact ⟨rfl, rfl⟩
  · have ez : d = (wet V k d) := by simp [wet, e]
    refine AW.callU X dX3_wetness_10 lX3_67_X8 cfX8 (c_X4_wetness (o := 19 + V 0 0)) (by rw [e]; exact ox_k5 : OX (19 + V 0 0) 8) rfl rfl rfl rfl ⟨rfl, rfl⟩ (pR_ke (congrArg nI ez) ?_)
    refine AW.iret X hQ dX3_wetness_13 ⟨_, rfl, ?_⟩
    exact ⟨rfl, rfl⟩
  · have ez : d = (wet V k d) := by simp [wet, e]
    refine AW.callU X dX3_wetness_10 lX3_67_X0 cfX0 (c_X4_wetness (o := 19 + V 0 0)) (by rw [e]; exact ox_k6 : OX (19 + V 0 0) 0) rfl rfl rfl rfl ⟨rfl, rfl⟩ (pR_ke (congrArg nI ez) ?_)
    refine AW.iret X hQ dX3_wetness_13 ⟨_, rfl, ?_⟩
    exact ⟨rfl, rfl⟩
set_option maxRecDepth 100000 in
set_option maxHeartbeats 4000000 in
theorem c_X3_hardness {l : Launch} {δ : Dl} {b : Nat} {μ : Mm} (W : WX μ.2.2) {o : Nat} (hF : FA o) {V : Vt} (hV : HV μ o V) {k d : Nat} (hk : k < 12) (hd : d < 100) : MCX l δ b yX3_hardness cX3_hardness 3 (some .int) 3 [.ref (b + o), .int (nI k), .int (nI d)] μ (pI fun r μ' => r = nI (hard V k d) ∧ μ' = μ) := by
  have ba := hi_a hV.1
  refine MC.intro ([some (.ref (b + o)), some (.int (nI k)), some (.int (nI d))]) (by decide) rfl rfl fun κ Qc hl hQ X => ?_
  subst hl
  refine AW.aload_n X dX3_hardness_0 (i := 0) rfl rfl ?_
  refine AW.getR X dX3_hardness_1 fX3_40 rfl (fa_ob hF) (hv_kind hV) ?_
  refine AW.aload_n X dX3_hardness_4 (i := 0) rfl rfl ?_
  refine AW.getI X dX3_hardness_5 fX3_15 rfl (fa_ob hF) (hv_a hV) ?_
  refine AW.iload_n X dX3_hardness_8 (i := 1) rfl rfl ?_
  refine AW.iload_n X dX3_hardness_9 (i := 2) rfl rfl ?_
  refine seven (hi_k hV.1) (fun e => ?_) (fun e => ?_) (fun e => ?_) (fun e => ?_) (fun e => ?_) (fun e => ?_) (fun e => ?_)
  · have ez : d = (hard V k d) := by simp [hard, e]
    refine AW.callV X dX3_hardness_10 lX3_73 cfX4 (c_X4_hardness (o := 19 + V 0 0)) (by rw [e]; exact ox_k0 : OX (19 + V 0 0) 4) rfl rfl rfl rfl ⟨rfl, rfl⟩ (pR_ke (congrArg nI ez) ?_)
    refine AW.iret X hQ dX3_hardness_13 ⟨_, rfl, ?_⟩
    exact ⟨rfl, rfl⟩
  · have ez : d = (hard V k d) := by simp [hard, e]
    refine AW.callU X dX3_hardness_10 lX3_73_X2 cfX2 (c_X4_hardness (o := 19 + V 0 0)) (by rw [e]; exact ox_k1 : OX (19 + V 0 0) 2) rfl rfl rfl rfl ⟨rfl, rfl⟩ (pR_ke (congrArg nI ez) ?_)
    refine AW.iret X hQ dX3_hardness_13 ⟨_, rfl, ?_⟩
    exact ⟨rfl, rfl⟩
  · have ez : (d - (V 0 1)) = (hard V k d) := by simp [hard, e]
    refine AW.callU X dX3_hardness_10 lX3_73_X5 cfX5 (c_X5_hardness (o := 19 + V 0 0) (by omega) (by omega) (by omega)) (by rw [e]; exact ox_k2 : OX (19 + V 0 0) 5) rfl rfl rfl rfl ⟨rfl, rfl⟩ (pR_ke (congrArg nI ez) ?_)
    refine AW.iret X hQ dX3_hardness_13 ⟨_, rfl, ?_⟩
    exact ⟨rfl, rfl⟩
  · have ez : d = (hard V k d) := by simp [hard, e]
    refine AW.callU X dX3_hardness_10 lX3_73_X1 cfX1 (c_X4_hardness (o := 19 + V 0 0)) (by rw [e]; exact ox_k3 : OX (19 + V 0 0) 1) rfl rfl rfl rfl ⟨rfl, rfl⟩ (pR_ke (congrArg nI ez) ?_)
    refine AW.iret X hQ dX3_hardness_13 ⟨_, rfl, ?_⟩
    exact ⟨rfl, rfl⟩
  · have ez : d = (hard V k d) := by simp [hard, e]
    refine AW.callU X dX3_hardness_10 lX3_73_X7 cfX7 (c_X4_hardness (o := 19 + V 0 0)) (by rw [e]; exact ox_k4 : OX (19 + V 0 0) 7) rfl rfl rfl rfl ⟨rfl, rfl⟩ (pR_ke (congrArg nI ez) ?_)
    refine AW.iret X hQ dX3_hardness_13 ⟨_, rfl, ?_⟩
    exact ⟨rfl, rfl⟩
  · have ez : (if k < 4 then 0 else d - (V 0 1)) = (hard V k d) := by simp [hard, e]
    refine AW.callU X dX3_hardness_10 lX3_73_X8 cfX8 (c_X8_hardness (o := 19 + V 0 0) (by omega) (by omega) (by omega) (by rw [e]; exact ox_k5)) (by rw [e]; exact ox_k5 : OX (19 + V 0 0) 8) rfl rfl rfl rfl ⟨rfl, rfl⟩ (pR_ke (congrArg nI ez) ?_)
    refine AW.iret X hQ dX3_hardness_13 ⟨_, rfl, ?_⟩
    exact ⟨rfl, rfl⟩
  · have ez : (2 * (d - (V 0 1))) = (hard V k d) := by simp [hard, e]
    refine AW.callU X dX3_hardness_10 lX3_73_X0 cfX0 (c_X0_hardness (o := 19 + V 0 0) (by omega) (by omega) (by omega) (by rw [e]; exact ox_k6)) (by rw [e]; exact ox_k6 : OX (19 + V 0 0) 0) rfl rfl rfl rfl ⟨rfl, rfl⟩ (pR_ke (congrArg nI ez) ?_)
    refine AW.iret X hQ dX3_hardness_13 ⟨_, rfl, ?_⟩
    exact ⟨rfl, rfl⟩
/-- the wettest of the cells below k but g -/
def wetTo (V : Vt) (g d : Nat) : Nat → Nat
  | 0 => 0
  | k + 1 => if k = g then wetTo V g d k else max (wetTo V g d k) (wet V k d)
theorem wetTo_le {V : Vt} (hV : HI V) (g : Nat) {d : Nat} (hd : d < 100) : ∀ k, wetTo V g d k ≤ 216
  | 0 => by simp [wetTo]
  | k + 1 => by
    have := wetTo_le hV g hd k
    have := wet_le hV k hd
    unfold wetTo
    split <;> omega
set_option maxRecDepth 100000 in
set_option maxHeartbeats 4000000 in
theorem c_X3_wettestBut {l : Launch} {δ : Dl} {b : Nat} {μ : Mm} (W : WX μ.2.2) {o : Nat} (hF : FA o) {V : Vt} (hV : HV μ o V) {g d : Nat} (hg : g < 12) (hd : d < 100) : MCX l δ b yX3_wettestBut cX3_wettestBut 5 (some .int) 4 [.ref (b + o), .int (nI g), .int (nI d)] μ (pI fun r μ' => r = nI (wetTo V g d 12) ∧ μ' = μ) := by
  have bn := hi_n hV.1
  refine MC.intro ([some (.ref (b + o)), some (.int (nI g)), some (.int (nI d)), none, none]) (by decide) rfl rfl fun κ Qc hl hQ X => ?_
  subst hl
  have L5 : ∀ (m i : Nat), 12 - i < m → i ≤ 12 → AW κ (δ, b, NX, 5, shX, False, Qc, 0, 0) NX 0 0 5 [some (.ref (b + o)), some (.int (nI g)), some (.int (nI d)), some (.int (nI (wetTo V g d i))), some (.int (nI i))] [] μ := by
    intro m
    induction m with
    | zero => intro i hm; exact absurd hm (Nat.not_lt_zero _)
    | succ m ih =>
      intro i hm hi 
      have b1 := wetTo_le hV.1 g hd i
      have b2 := wet_le hV.1 i hd
      refine AW.iload X dX3_wettestBut_5 rfl ?_
      refine AW.bipushN X 12 dX3_wettestBut_7 rfl ?_
      refine AW.icmp_geN X (tgt := 36) dX3_wettestBut_9 (by decide) (by omega) (by omega) (fun h9 => ?_) (fun h9 => ?_)
      · obtain rfl : i = 12 := by omega
        refine AW.iload_n X dX3_wettestBut_36 (i := 3) rfl rfl ?_
        refine AW.iret X hQ dX3_wettestBut_37 ⟨_, rfl, ?_⟩
        exact ⟨rfl, rfl⟩
      · refine AW.iload X dX3_wettestBut_12 rfl ?_
        refine AW.iload_n X dX3_wettestBut_14 (i := 1) rfl rfl ?_
        refine AW.icmp_eqN X (tgt := 30) dX3_wettestBut_15 (by decide) (by omega) (by omega) (fun h15 => ?_) (fun h15 => ?_)
        · refine AW.iincN X (c := (i + 1)) dX3_wettestBut_30 rfl (inc_1 _) rfl ?_
          refine AW.goto X (tgt := 5) dX3_wettestBut_33 (by decide) ?_
          refine AW.cg ?_ (ih (i + 1) (by omega) (by omega))
          simp [wetTo, *]
        · refine AW.iload_n X dX3_wettestBut_18 (i := 3) rfl rfl ?_
          refine AW.aload_n X dX3_wettestBut_19 (i := 0) rfl rfl ?_
          refine AW.iload X dX3_wettestBut_20 rfl ?_
          refine AW.iload_n X dX3_wettestBut_22 (i := 2) rfl rfl ?_
          refine AW.callV X dX3_wettestBut_23 lX3_76 cfX3 (c_X3_wetness W hF hV (by omega) (by omega)) (fa_ob hF) rfl rfl rfl rfl ⟨rfl, rfl⟩ (pR_k ?_)
          refine AW.maxN X dX3_wettestBut_26 (by omega) (by omega) lX3_max (by decide) ?_
          refine AW.istore_n X dX3_wettestBut_29 (i := 3) rfl rfl ?_
          refine AW.iincN X (c := (i + 1)) dX3_wettestBut_30 rfl (inc_1 _) rfl ?_
          refine AW.goto X (tgt := 5) dX3_wettestBut_33 (by decide) ?_
          refine AW.cg ?_ (ih (i + 1) (by omega) (by omega))
          simp [wetTo, *]
  refine AW.iconstN X 0 dX3_wettestBut_0 rfl ?_
  refine AW.istore_n X dX3_wettestBut_1 (i := 3) rfl rfl ?_
  refine AW.iconstN X 0 dX3_wettestBut_2 rfl ?_
  refine AW.istore X dX3_wettestBut_3 rfl ?_
  exact L5 _ 0 (Nat.lt_succ_self _) (by omega)
end
section
/-! a town as numbers: τ h: house h; τ 6 0: houses, limit, wide, year, fallen, seed; τ 6 1, τ 6 2: what the colours hide, cost -/
abbrev Tt : Type := Nat → Nat → Nat → Nat
def TI (τ : Tt) : Prop := τ 6 0 0 ≤ 6 ∧ (1 ≤ τ 6 0 1 ∧ τ 6 0 1 ≤ 999) ∧ (10 ≤ τ 6 0 2 ∧ τ 6 0 2 ≤ 99) ∧ (∀ c, c < 6 → τ 6 1 c ≤ 9 ∧ τ 6 2 c ≤ 99) ∧ ∀ h, h < τ 6 0 0 → HI (τ h)
/-- the town at B in the class's world holds τ -/
def TX (μ : Mm) (B : Nat) (τ : Tt) : Prop := TI τ ∧ (μ.1 B 2 = nI (τ 6 0 0) ∧ μ.1 B 5 = nI (τ 6 0 1) ∧ μ.1 B 6 = nI (τ 6 0 2) ∧ μ.1 B 7 = nI (τ 6 0 3) ∧ μ.1 B 8 = nI (τ 6 0 4) ∧ μ.1 B 9 = nI (τ 6 0 5)) ∧ (∀ c, c < 6 → μ.1 (B + 2) c = nI (τ 6 1 c) ∧ μ.1 (B + 3) c = nI (τ 6 2 c)) ∧ ∀ h, h < τ 6 0 0 → HV μ (B + 4 + 7 * h) (τ h)
section TXS
variable {μ : Mm} {B c h : Nat} {τ : Tt}
theorem ti_n (q : TI τ) : τ 6 0 0 ≤ 6 := q.1
theorem ti_hid (q : TI τ) (hc : c < 6) : τ 6 1 c ≤ 9 := (q.2.2.2.1 c hc).1
theorem ti_cos (q : TI τ) (hc : c < 6) : τ 6 2 c ≤ 99 := (q.2.2.2.1 c hc).2
theorem tx_n (q : TX μ B τ) : μ.1 B 2 = nI (τ 6 0 0) := q.2.1.1
theorem tx_lim (q : TX μ B τ) : μ.1 B 5 = nI (τ 6 0 1) := q.2.1.2.1
theorem tx_wid (q : TX μ B τ) : μ.1 B 6 = nI (τ 6 0 2) := q.2.1.2.2.1
theorem tx_yr (q : TX μ B τ) : μ.1 B 7 = nI (τ 6 0 3) := q.2.1.2.2.2.1
theorem tx_fal (q : TX μ B τ) : μ.1 B 8 = nI (τ 6 0 4) := q.2.1.2.2.2.2.1
theorem tx_seed (q : TX μ B τ) : μ.1 B 9 = nI (τ 6 0 5) := q.2.1.2.2.2.2.2
theorem tx_hid (q : TX μ B τ) (hc : c < 6) : μ.1 (B + 2) c = nI (τ 6 1 c) := (q.2.2.1 c hc).1
theorem tx_cos (q : TX μ B τ) (hc : c < 6) : μ.1 (B + 3) c = nI (τ 6 2 c) := (q.2.2.1 c hc).2
theorem tx_h (q : TX μ B τ) (hh : h < τ 6 0 0) : HV μ (B + 4 + 7 * h) (τ h) := q.2.2.2 h hh
end TXS
/-- a counter that goes down to -1 -/
def dn (i : Nat) : Int32 := nI i + (-1)
theorem dn_0 : dn 0 = -1 := by decide
theorem dn_s (i : Nat) : dn (i + 1) = nI i := pk_m1 i
theorem dn_sub (i : Nat) : nI i - nI 1 = dn i := by
  unfold dn
  rw [show (-1 : Int32) = -(nI 1) by decide, Int32.sub_eq_add_neg]
def oI : Option Nat → Int32
  | none => -1
  | some c => nI c
/-- the strength of coat c, its colours hiding hd -/
def strength (hd : Nat → Nat) (V : Vt) (c : Nat) : Nat := counted V (hd (V 2 c)) * V 3 c
def seenIn (hd : Nat → Nat) (V : Vt) (bits w : Nat) : Nat → Option Nat
  | 0 => none
  | c + 1 => if bits.testBit c = true ∧ w ≤ strength hd V c then some c else seenIn hd V bits w c
theorem seenIn_lt {hd : Nat → Nat} {V : Vt} {bits w : Nat} : ∀ {i c : Nat}, seenIn hd V bits w i = some c → c < i
  | 0, c, h => by cases h
  | i + 1, c, h => by
    unfold seenIn at h
    split at h
    · cases h; omega
    · have := seenIn_lt h; omega
def seenAt (hd : Nat → Nat) (V : Vt) (k d : Nat) : Option Nat := seenIn hd V (lyA V k) (wet V k d) (V 0 2)
def oBit : Option Nat → Nat
  | none => 0
  | some c => 2 ^ c
theorem oBit_lt {n : Nat} {x : Option Nat} (h : ∀ c, x = some c → c < n) : oBit x < 2 ^ n := by
  cases x with
  | none => exact Nat.two_pow_pos n
  | some c => exact Nat.pow_lt_pow_right (a := 2) (by decide) (h c rfl)
def seenTo (hd : Nat → Nat) (V : Vt) (d : Nat) : Nat → Nat
  | 0 => 0
  | k + 1 => seenTo hd V d k ||| oBit (seenAt hd V k d)
theorem seenTo_lt {hd : Nat → Nat} {V : Vt} (hV : HI V) (d : Nat) : ∀ k, seenTo hd V d k < 256
  | 0 => by show (0 : Nat) < 256; decide
  | k + 1 => by
    have h1 := seenTo_lt (hd := hd) hV d k
    have h2 : oBit (seenAt hd V k d) < 2 ^ 8 := oBit_lt fun c hc => by
      have := seenIn_lt hc
      have := hi_n hV
      omega
    exact or_lt8 h1 h2
theorem counted_le (V : Vt) (x : Nat) : counted V x ≤ x := by
  unfold counted
  split <;> omega
theorem strength_le {hd : Nat → Nat} {V : Vt} {c : Nat} (h1 : hd (V 2 c) ≤ 9) (h3 : V 3 c ≤ 9) : strength hd V c ≤ 81 := by
  have h2 := counted_le V (hd (V 2 c))
  unfold strength
  have : counted V (hd (V 2 c)) * V 3 c ≤ 9 * 9 := Nat.mul_le_mul (by omega) h3
  omega
end
section
set_option maxRecDepth 100000 in
set_option maxHeartbeats 4000000 in
theorem c_X9_strength {l : Launch} {δ : Dl} {b : Nat} {μ : Mm} (W : WX μ.2.2) {B o : Nat} (hB : TA B) {τ : Tt} (hT : TX μ B τ) (hF : FA o) {V : Vt} (hV : HV μ o V) {c t : Nat} (hc : c < 6) (ht : t ≤ 9) : MCX l δ b yX9_strength cX9_strength 4 (some .int) 2 [.ref (b + B), .ref (b + o), .int (nI c), .int (nI t)] μ (pI fun r μ' => r = nI (counted V (τ 6 1 c) * t) ∧ μ' = μ) := by
  have b1 := ti_hid hT.1 hc
  refine MC.intro ([some (.ref (b + B)), some (.ref (b + o)), some (.int (nI c)), some (.int (nI t))]) (by decide) rfl rfl fun κ Qc hl hQ X => ?_
  subst hl
  refine AW.aload_n X dX9_strength_0 (i := 1) rfl rfl ?_
  refine AW.getR X dX9_strength_1 fX9_67 rfl (fa_ob hF) (hv_kind hV) ?_
  refine AW.aload_n X dX9_strength_4 (i := 0) rfl rfl ?_
  refine AW.getR X dX9_strength_5 fX9_21 rfl (ta_ob hB) (wx_hides W hB) ?_
  refine AW.iload_n X dX9_strength_8 (i := 2) rfl rfl ?_
  refine AW.iaload X dX9_strength_9 (ta_h hB) (n2_in (by omega) (by decide)) (v := (nI (τ 6 1 c))) (by rw [n2_clamp (by omega)]; exact tx_hid hT (by omega)) ?_
  refine seven (hi_k hV.1) (fun e => ?_) (fun e => ?_) (fun e => ?_) (fun e => ?_) (fun e => ?_) (fun e => ?_) (fun e => ?_)
  · have ez : (τ 6 1 c) = (counted V (τ 6 1 c)) := by simp [counted, e]
    refine AW.callV X dX9_strength_10 lX9_80 cfX4 (c_X4_counted (o := 19 + V 0 0)) (by rw [e]; exact ox_k0 : OX (19 + V 0 0) 4) rfl rfl rfl rfl ⟨rfl, rfl⟩ (pR_ke (congrArg nI ez) ?_)
    refine AW.iload_n X dX9_strength_13 (i := 3) rfl rfl ?_
    refine AW.imulN X dX9_strength_14 ?_
    refine AW.iret X hQ dX9_strength_15 ⟨_, rfl, ?_⟩
    exact ⟨rfl, rfl⟩
  · have ez : (τ 6 1 c) = (counted V (τ 6 1 c)) := by simp [counted, e]
    refine AW.callU X dX9_strength_10 lX9_80_X2 cfX2 (c_X4_counted (o := 19 + V 0 0)) (by rw [e]; exact ox_k1 : OX (19 + V 0 0) 2) rfl rfl rfl rfl ⟨rfl, rfl⟩ (pR_ke (congrArg nI ez) ?_)
    refine AW.iload_n X dX9_strength_13 (i := 3) rfl rfl ?_
    refine AW.imulN X dX9_strength_14 ?_
    refine AW.iret X hQ dX9_strength_15 ⟨_, rfl, ?_⟩
    exact ⟨rfl, rfl⟩
  · have ez : (τ 6 1 c) = (counted V (τ 6 1 c)) := by simp [counted, e]
    refine AW.callU X dX9_strength_10 lX9_80_X5 cfX5 (c_X4_counted (o := 19 + V 0 0)) (by rw [e]; exact ox_k2 : OX (19 + V 0 0) 5) rfl rfl rfl rfl ⟨rfl, rfl⟩ (pR_ke (congrArg nI ez) ?_)
    refine AW.iload_n X dX9_strength_13 (i := 3) rfl rfl ?_
    refine AW.imulN X dX9_strength_14 ?_
    refine AW.iret X hQ dX9_strength_15 ⟨_, rfl, ?_⟩
    exact ⟨rfl, rfl⟩
  · have ez : (τ 6 1 c) = (counted V (τ 6 1 c)) := by simp [counted, e]
    refine AW.callU X dX9_strength_10 lX9_80_X1 cfX1 (c_X4_counted (o := 19 + V 0 0)) (by rw [e]; exact ox_k3 : OX (19 + V 0 0) 1) rfl rfl rfl rfl ⟨rfl, rfl⟩ (pR_ke (congrArg nI ez) ?_)
    refine AW.iload_n X dX9_strength_13 (i := 3) rfl rfl ?_
    refine AW.imulN X dX9_strength_14 ?_
    refine AW.iret X hQ dX9_strength_15 ⟨_, rfl, ?_⟩
    exact ⟨rfl, rfl⟩
  · have ez : ((τ 6 1 c) - 1) = (counted V (τ 6 1 c)) := by simp [counted, e]
    refine AW.callU X dX9_strength_10 lX9_80_X7 cfX7 (c_X7_counted (o := 19 + V 0 0) (by omega)) (by rw [e]; exact ox_k4 : OX (19 + V 0 0) 7) rfl rfl rfl rfl ⟨rfl, rfl⟩ (pR_ke (congrArg nI ez) ?_)
    refine AW.iload_n X dX9_strength_13 (i := 3) rfl rfl ?_
    refine AW.imulN X dX9_strength_14 ?_
    refine AW.iret X hQ dX9_strength_15 ⟨_, rfl, ?_⟩
    exact ⟨rfl, rfl⟩
  · have ez : (τ 6 1 c) = (counted V (τ 6 1 c)) := by simp [counted, e]
    refine AW.callU X dX9_strength_10 lX9_80_X8 cfX8 (c_X4_counted (o := 19 + V 0 0)) (by rw [e]; exact ox_k5 : OX (19 + V 0 0) 8) rfl rfl rfl rfl ⟨rfl, rfl⟩ (pR_ke (congrArg nI ez) ?_)
    refine AW.iload_n X dX9_strength_13 (i := 3) rfl rfl ?_
    refine AW.imulN X dX9_strength_14 ?_
    refine AW.iret X hQ dX9_strength_15 ⟨_, rfl, ?_⟩
    exact ⟨rfl, rfl⟩
  · have ez : (τ 6 1 c) = (counted V (τ 6 1 c)) := by simp [counted, e]
    refine AW.callU X dX9_strength_10 lX9_80_X0 cfX0 (c_X4_counted (o := 19 + V 0 0)) (by rw [e]; exact ox_k6 : OX (19 + V 0 0) 0) rfl rfl rfl rfl ⟨rfl, rfl⟩ (pR_ke (congrArg nI ez) ?_)
    refine AW.iload_n X dX9_strength_13 (i := 3) rfl rfl ?_
    refine AW.imulN X dX9_strength_14 ?_
    refine AW.iret X hQ dX9_strength_15 ⟨_, rfl, ?_⟩
    exact ⟨rfl, rfl⟩
theorem lyN {V : Vt} (hV : HI V) (k : Nat) : lyA V k < 256 := ly_lt8 V k (hi_n hV)
set_option maxRecDepth 100000 in
set_option maxHeartbeats 4000000 in
theorem c_X9_seenAmong {l : Launch} {δ : Dl} {b : Nat} {μ : Mm} (W : WX μ.2.2) {B o : Nat} (hB : TA B) {τ : Tt} (hT : TX μ B τ) (hF : FA o) {V : Vt} (hV : HV μ o V) {bits k d : Nat} (hb : bits < 256) (hk : k < 12) (hd : d < 100) : MCX l δ b yX9_seenAmong cX9_seenAmong 8 (some .int) 4 [.ref (b + B), .ref (b + o), .int (nI bits), .int (nI k), .int (nI d)] μ (pI fun r μ' => r = oI (seenIn (τ 6 1) V bits (wet V k d) (V 0 2)) ∧ μ' = μ) := by
  have bn := hi_n hV.1
  refine MC.intro ([some (.ref (b + B)), some (.ref (b + o)), some (.int (nI bits)), some (.int (nI k)), some (.int (nI d)), none, none, none]) (by decide) rfl rfl fun κ Qc hl hQ X => ?_
  subst hl
  have bw := wet_le hV.1 k hd
  have L17 : ∀ i : Nat, i ≤ V 0 2 → seenIn (τ 6 1) V bits (wet V k d) (V 0 2) = seenIn (τ 6 1) V bits (wet V k d) i → AW κ (δ, b, NX, 8, shX, False, Qc, 0, 0) NX 0 0 17 [some (.ref (b + B)), some (.ref (b + o)), some (.int (nI bits)), some (.int (nI k)), some (.int (nI d)), some (.int (nI (wet V k d))), some (.int (dn i)), none] [] μ := by
    intro i
    induction i with
    | zero =>
      intro hi hr
      rw [dn_0]
      refine AW.iload X dX9_seenAmong_17 rfl ?_
      refine AW.if_lt X (tgt := 76) dX9_seenAmong_19 (by decide) (fun h19 => ?_) (fun h19 => ?_)
      · refine AW.iconst X (v := -1) dX9_seenAmong_76 rfl ?_
        refine AW.iret X hQ dX9_seenAmong_77 ⟨_, rfl, ?_⟩
        exact ⟨by rw [hr]; rfl, rfl⟩
      · exact absurd (by decide) h19
    | succ c ih =>
      intro hi hr
      rw [dn_s]
      have b2 := (hi_th hV.1 (c := c) (by omega)).2
      have b3 := hi_col hV.1 (c := c) (by omega)
      have b5 := strength_le (hd := τ 6 1) (V := V) (c := c) (ti_hid hT.1 b3) b2
      unfold strength at b5
      refine AW.iload X dX9_seenAmong_17 rfl ?_
      refine AW.if_ltN X (tgt := 76) dX9_seenAmong_19 (by decide) (by omega) (fun h19 => ?_) (fun h19 => ?_)
      · exact h19.elim
      · refine AW.iload_n X dX9_seenAmong_22 (i := 2) rfl rfl ?_
        refine AW.iload X dX9_seenAmong_23 rfl ?_
        refine AW.hasN X dX9_seenAmong_25 dX9_seenAmong_26 dX9_seenAmong_27 (by omega) (by omega) ?_
        refine AW.if_eqB X (tgt := 35) dX9_seenAmong_28 (by decide) (fun h28 => ?_) (fun h28 => ?_)
        · refine AW.iconstN X 0 dX9_seenAmong_35 rfl ?_
          refine AW.istore X dX9_seenAmong_36 rfl ?_
          refine AW.iload X dX9_seenAmong_38 rfl ?_
          refine AW.if_eqN X (tgt := 70) dX9_seenAmong_40 (by decide) (by omega) (fun h40 => ?_) (fun h40 => ?_)
          · refine AW.iinc X (v := -1) dX9_seenAmong_70 rfl rfl rfl ?_
            refine AW.goto X (tgt := 17) dX9_seenAmong_73 (by decide) ?_
            refine AW.cgw (ih (by omega) (hr.trans ?_)) ⟨rfl, rfl, rfl, rfl, rfl, rfl, rfl, trivial⟩
            rw [seenIn, if_neg (by simp [strength, *] <;> omega)]
          · refine AW.aload_n X dX9_seenAmong_43 (i := 0) rfl rfl ?_
            refine AW.aload_n X dX9_seenAmong_44 (i := 1) rfl rfl ?_
            refine AW.aload_n X dX9_seenAmong_45 (i := 1) rfl rfl ?_
            refine AW.getR X dX9_seenAmong_46 fX9_90 rfl (fa_ob hF) (wx_colour W hF) ?_
            refine AW.iload X dX9_seenAmong_49 rfl ?_
            refine AW.iaload X dX9_seenAmong_51 (fa_2 hF) (n2_in (by omega) (by decide)) (v := (nI (V 2 c))) (by rw [n2_clamp (by omega)]; exact hv_2 hV (by omega)) ?_
            refine AW.aload_n X dX9_seenAmong_52 (i := 1) rfl rfl ?_
            refine AW.getR X dX9_seenAmong_53 fX9_93 rfl (fa_ob hF) (wx_thick W hF) ?_
            refine AW.iload X dX9_seenAmong_56 rfl ?_
            refine AW.iaload X dX9_seenAmong_58 (fa_3 hF) (n2_in (by omega) (by decide)) (v := (nI (V 3 c))) (by rw [n2_clamp (by omega)]; exact hv_3 hV (by omega)) ?_
            refine AW.callV X dX9_seenAmong_59 lX9_96 cfX9 (c_X9_strength W hB hT hF hV (by omega) (by omega)) (ta_ob hB) rfl rfl rfl rfl ⟨rfl, rfl⟩ (pR_k ?_)
            refine AW.iload X dX9_seenAmong_62 rfl ?_
            refine AW.icmp_ltN X (tgt := 70) dX9_seenAmong_64 (by decide) (by omega) (by omega) (fun h64 => ?_) (fun h64 => ?_)
            · refine AW.iinc X (v := -1) dX9_seenAmong_70 rfl rfl rfl ?_
              refine AW.goto X (tgt := 17) dX9_seenAmong_73 (by decide) ?_
              refine AW.cgw (ih (by omega) (hr.trans ?_)) ⟨rfl, rfl, rfl, rfl, rfl, rfl, rfl, trivial⟩
              rw [seenIn, if_neg (by simp [strength, *] <;> omega)]
            · refine AW.iload X dX9_seenAmong_67 rfl ?_
              refine AW.iret X hQ dX9_seenAmong_69 ⟨_, rfl, ?_⟩
              exact ⟨by rw [hr, seenIn, if_pos (by simp [strength, *] <;> omega)]; rfl, rfl⟩
        · refine AW.iconstN X 1 dX9_seenAmong_31 rfl ?_
          refine AW.goto X (tgt := 36) dX9_seenAmong_32 (by decide) ?_
          refine AW.istore X dX9_seenAmong_36 rfl ?_
          refine AW.iload X dX9_seenAmong_38 rfl ?_
          refine AW.if_eqN X (tgt := 70) dX9_seenAmong_40 (by decide) (by omega) (fun h40 => ?_) (fun h40 => ?_)
          · refine AW.iinc X (v := -1) dX9_seenAmong_70 rfl rfl rfl ?_
            refine AW.goto X (tgt := 17) dX9_seenAmong_73 (by decide) ?_
            refine AW.cgw (ih (by omega) (hr.trans ?_)) ⟨rfl, rfl, rfl, rfl, rfl, rfl, rfl, trivial⟩
            rw [seenIn, if_neg (by simp [strength, *] <;> omega)]
          · refine AW.aload_n X dX9_seenAmong_43 (i := 0) rfl rfl ?_
            refine AW.aload_n X dX9_seenAmong_44 (i := 1) rfl rfl ?_
            refine AW.aload_n X dX9_seenAmong_45 (i := 1) rfl rfl ?_
            refine AW.getR X dX9_seenAmong_46 fX9_90 rfl (fa_ob hF) (wx_colour W hF) ?_
            refine AW.iload X dX9_seenAmong_49 rfl ?_
            refine AW.iaload X dX9_seenAmong_51 (fa_2 hF) (n2_in (by omega) (by decide)) (v := (nI (V 2 c))) (by rw [n2_clamp (by omega)]; exact hv_2 hV (by omega)) ?_
            refine AW.aload_n X dX9_seenAmong_52 (i := 1) rfl rfl ?_
            refine AW.getR X dX9_seenAmong_53 fX9_93 rfl (fa_ob hF) (wx_thick W hF) ?_
            refine AW.iload X dX9_seenAmong_56 rfl ?_
            refine AW.iaload X dX9_seenAmong_58 (fa_3 hF) (n2_in (by omega) (by decide)) (v := (nI (V 3 c))) (by rw [n2_clamp (by omega)]; exact hv_3 hV (by omega)) ?_
            refine AW.callV X dX9_seenAmong_59 lX9_96 cfX9 (c_X9_strength W hB hT hF hV (by omega) (by omega)) (ta_ob hB) rfl rfl rfl rfl ⟨rfl, rfl⟩ (pR_k ?_)
            refine AW.iload X dX9_seenAmong_62 rfl ?_
            refine AW.icmp_ltN X (tgt := 70) dX9_seenAmong_64 (by decide) (by omega) (by omega) (fun h64 => ?_) (fun h64 => ?_)
            · refine AW.iinc X (v := -1) dX9_seenAmong_70 rfl rfl rfl ?_
              refine AW.goto X (tgt := 17) dX9_seenAmong_73 (by decide) ?_
              refine AW.cgw (ih (by omega) (hr.trans ?_)) ⟨rfl, rfl, rfl, rfl, rfl, rfl, rfl, trivial⟩
              rw [seenIn, if_neg (by simp [strength, *] <;> omega)]
            · refine AW.iload X dX9_seenAmong_67 rfl ?_
              refine AW.iret X hQ dX9_seenAmong_69 ⟨_, rfl, ?_⟩
              exact ⟨by rw [hr, seenIn, if_pos (by simp [strength, *] <;> omega)]; rfl, rfl⟩
  refine AW.aload_n X dX9_seenAmong_0 (i := 1) rfl rfl ?_
  refine AW.iload_n X dX9_seenAmong_1 (i := 3) rfl rfl ?_
  refine AW.iload X dX9_seenAmong_2 rfl ?_
  refine AW.callV X dX9_seenAmong_4 lX9_86 cfX3 (c_X3_wetness W hF hV (by omega) (by omega)) (fa_ob hF) rfl rfl rfl rfl ⟨rfl, rfl⟩ (pR_k ?_)
  refine AW.istore X dX9_seenAmong_7 rfl ?_
  refine AW.aload_n X dX9_seenAmong_9 (i := 1) rfl rfl ?_
  refine AW.getI X dX9_seenAmong_10 fX9_77 rfl (fa_ob hF) (hv_n hV) ?_
  refine AW.iconstN X 1 dX9_seenAmong_13 rfl ?_
  refine AW.isub X dX9_seenAmong_14 ?_
  rw [dn_sub]
  refine AW.istore X dX9_seenAmong_15 rfl ?_
  exact AW.cgw (L17 _ (Nat.le_refl _) rfl) ⟨rfl, rfl, rfl, rfl, rfl, rfl, rfl, trivial⟩
theorem nI_m1 {a : Nat} (h : a < 2147483648) : ¬ nI a = -1 := by
  intro q
  have h1 := congrArg Int32.toInt q
  rw [nI_toInt h] at h1
  have h2 : (-1 : Int32).toInt = -1 := by decide
  omega
set_option maxRecDepth 100000 in
set_option maxHeartbeats 4000000 in
theorem c_X9_seenSomewhere {l : Launch} {δ : Dl} {b : Nat} {μ : Mm} (W : WX μ.2.2) {B o : Nat} (hB : TA B) {τ : Tt} (hT : TX μ B τ) (hF : FA o) {V : Vt} (hV : HV μ o V) {d : Nat} (hd : d < 100) : MCX l δ b yX9_seenSomewhere cX9_seenSomewhere 6 (some .int) 5 [.ref (b + B), .ref (b + o), .int (nI d)] μ (pI fun r μ' => r = nI (seenTo (τ 6 1) V d 12) ∧ μ' = μ) := by
  have bn := hi_n hV.1
  refine MC.intro ([some (.ref (b + B)), some (.ref (b + o)), some (.int (nI d)), none, none, none]) (by decide) rfl rfl fun κ Qc hl hQ X => ?_
  subst hl
  have L5 : ∀ (m i : Nat), 12 - i < m → i ≤ 12 → AW κ (δ, b, NX, 6, shX, False, Qc, 0, 0) NX 0 0 5 [some (.ref (b + B)), some (.ref (b + o)), some (.int (nI d)), some (.int (nI (seenTo (τ 6 1) V d i))), some (.int (nI i)), none] [] μ := by
    intro m
    induction m with
    | zero => intro i hm; exact absurd hm (Nat.not_lt_zero _)
    | succ m ih =>
      intro i hm hi 
      have b1 := seenTo_lt (hd := τ 6 1) hV.1 d i
      refine AW.iload X dX9_seenSomewhere_5 rfl ?_
      refine AW.bipushN X 12 dX9_seenSomewhere_7 rfl ?_
      refine AW.icmp_geN X (tgt := 47) dX9_seenSomewhere_9 (by decide) (by omega) (by omega) (fun h9 => ?_) (fun h9 => ?_)
      · obtain rfl : i = 12 := by omega
        refine AW.iload_n X dX9_seenSomewhere_47 (i := 3) rfl rfl ?_
        refine AW.iret X hQ dX9_seenSomewhere_48 ⟨_, rfl, ?_⟩
        exact ⟨rfl, rfl⟩
      · refine AW.aload_n X dX9_seenSomewhere_12 (i := 0) rfl rfl ?_
        refine AW.aload_n X dX9_seenSomewhere_13 (i := 1) rfl rfl ?_
        refine AW.aload_n X dX9_seenSomewhere_14 (i := 1) rfl rfl ?_
        refine AW.iload X dX9_seenSomewhere_15 rfl ?_
        refine AW.callV X dX9_seenSomewhere_17 lX9_100 cfX3 (c_X3_lyingIn W hF hV (by omega)) (fa_ob hF) rfl rfl rfl rfl ⟨rfl, rfl⟩ (pR_k ?_)
        refine AW.iload X dX9_seenSomewhere_20 rfl ?_
        refine AW.iload_n X dX9_seenSomewhere_22 (i := 2) rfl rfl ?_
        refine AW.callV X dX9_seenSomewhere_23 lX9_103 cfX9 (c_X9_seenAmong W hB hT hF hV (lyN hV.1 i) (by omega) (by omega)) (ta_ob hB) rfl rfl rfl rfl ⟨rfl, rfl⟩ (pR_k ?_)
        rcases hx23 : seenIn (τ 6 1) V (lyA V i) (wet V i d) (V 0 2) with _ | c
        · show AW κ _ _ _ _ _ _ (.int (-1) :: _) _
          refine AW.istore X dX9_seenSomewhere_26 rfl ?_
          refine AW.iload X dX9_seenSomewhere_28 rfl ?_
          refine AW.iconst X (v := -1) dX9_seenSomewhere_30 rfl ?_
          refine AW.icmp_eq X (tgt := 41) dX9_seenSomewhere_31 (by decide) (fun h31 => ?_) (fun h31 => ?_)
          · refine AW.iincN X (c := (i + 1)) dX9_seenSomewhere_41 rfl (inc_1 _) rfl ?_
            refine AW.goto X (tgt := 5) dX9_seenSomewhere_44 (by decide) ?_
            refine AW.cgw (ih (i + 1) (by omega) (by omega)) ⟨rfl, rfl, rfl, ?_, rfl, trivial⟩
            simp [seenTo, seenAt, hx23, oBit]
          · exact absurd rfl h31
        · show AW κ _ _ _ _ _ _ (.int (nI c) :: _) _
          have b4 := seenIn_lt hx23
          refine AW.istore X dX9_seenSomewhere_26 rfl ?_
          refine AW.iload X dX9_seenSomewhere_28 rfl ?_
          refine AW.iconst X (v := -1) dX9_seenSomewhere_30 rfl ?_
          refine AW.icmp_eq X (tgt := 41) dX9_seenSomewhere_31 (by decide) (fun h31 => ?_) (fun h31 => ?_)
          · exact absurd h31 (nI_m1 (by omega))
          · refine AW.iload_n X dX9_seenSomewhere_34 (i := 3) rfl rfl ?_
            refine AW.iconstN X 1 dX9_seenSomewhere_35 rfl ?_
            refine AW.iload X dX9_seenSomewhere_36 rfl ?_
            refine AW.shl1 X dX9_seenSomewhere_38 (by omega) ?_
            refine AW.iorN X dX9_seenSomewhere_39 ?_
            refine AW.istore_n X dX9_seenSomewhere_40 (i := 3) rfl rfl ?_
            refine AW.iincN X (c := (i + 1)) dX9_seenSomewhere_41 rfl (inc_1 _) rfl ?_
            refine AW.goto X (tgt := 5) dX9_seenSomewhere_44 (by decide) ?_
            refine AW.cgw (ih (i + 1) (by omega) (by omega)) ⟨rfl, rfl, rfl, ?_, rfl, trivial⟩
            simp [seenTo, seenAt, hx23, oBit]
  refine AW.iconstN X 0 dX9_seenSomewhere_0 rfl ?_
  refine AW.istore_n X dX9_seenSomewhere_1 (i := 3) rfl rfl ?_
  refine AW.iconstN X 0 dX9_seenSomewhere_2 rfl ?_
  refine AW.istore X dX9_seenSomewhere_3 rfl ?_
  exact L5 _ 0 (Nat.lt_succ_self _) (by omega)
def coatsAll (τ : Tt) : Nat → Nat
  | 0 => 0
  | h + 1 => coatsAll τ h + τ h 0 2
theorem coatsAll_le {τ : Tt} (hT : TI τ) : ∀ h, h ≤ τ 6 0 0 → coatsAll τ h ≤ 8 * h
  | 0, _ => by simp [coatsAll]
  | h + 1, q => by
    have := coatsAll_le hT h (by omega)
    have := hi_n (hT.2.2.2.2 h (by omega))
    unfold coatsAll
    omega
set_option maxRecDepth 100000 in
set_option maxHeartbeats 4000000 in
theorem c_X9_coatsInAll {l : Launch} {δ : Dl} {b : Nat} {μ : Mm} (W : WX μ.2.2) {B : Nat} (hB : TA B) {τ : Tt} (hT : TX μ B τ)  : MCX l δ b yX9_coatsInAll cX9_coatsInAll 3 (some .int) 1 [.ref (b + B)] μ (pI fun r μ' => r = nI (coatsAll τ (τ 6 0 0)) ∧ μ' = μ) := by
  have bn := ti_n hT.1
  refine MC.intro ([some (.ref (b + B)), none, none]) (by decide) rfl rfl fun κ Qc hl hQ X => ?_
  subst hl
  have L4 : ∀ (m i : Nat), τ 6 0 0 - i < m → i ≤ τ 6 0 0 → AW κ (δ, b, NX, 3, shX, False, Qc, 0, 0) NX 0 0 4 [some (.ref (b + B)), some (.int (nI (coatsAll τ i))), some (.int (nI i))] [] μ := by
    intro m
    induction m with
    | zero => intro i hm; exact absurd hm (Nat.not_lt_zero _)
    | succ m ih =>
      intro i hm hi 
      have b1 := coatsAll_le hT.1 i (by omega)
      refine AW.iload_n X dX9_coatsInAll_4 (i := 2) rfl rfl ?_
      refine AW.aload_n X dX9_coatsInAll_5 (i := 0) rfl rfl ?_
      refine AW.getI X dX9_coatsInAll_6 fX9_17 rfl (ta_ob hB) (tx_n hT) ?_
      refine AW.icmp_geN X (tgt := 30) dX9_coatsInAll_9 (by decide) (by omega) (by omega) (fun h9 => ?_) (fun h9 => ?_)
      · obtain rfl : i = τ 6 0 0 := by omega
        refine AW.iload_n X dX9_coatsInAll_30 (i := 1) rfl rfl ?_
        refine AW.iret X hQ dX9_coatsInAll_31 ⟨_, rfl, ?_⟩
        exact ⟨rfl, rfl⟩
      · refine AW.iload_n X dX9_coatsInAll_12 (i := 1) rfl rfl ?_
        refine AW.aload_n X dX9_coatsInAll_13 (i := 0) rfl rfl ?_
        refine AW.getR X dX9_coatsInAll_14 fX9_11 rfl (ta_ob hB) (wx_fronts W hB) ?_
        refine AW.iload_n X dX9_coatsInAll_17 (i := 2) rfl rfl ?_
        refine AW.aaload X (r := (B + 4 + 7 * i)) dX9_coatsInAll_18 rfl rfl (ta_f hB) (n2_in (by omega) (by decide)) (by rw [n2_clamp (by omega)]; exact wx_front W hB (by omega)) ?_
        refine AW.getI X dX9_coatsInAll_19 fX9_77 rfl (fa_ob (fa_of hB (by omega))) (hv_n (tx_h hT (by omega))) ?_
        refine AW.iaddN X dX9_coatsInAll_22 ?_
        refine AW.istore_n X dX9_coatsInAll_23 (i := 1) rfl rfl ?_
        refine AW.iincN X (c := (i + 1)) dX9_coatsInAll_24 rfl (inc_1 _) rfl ?_
        refine AW.goto X (tgt := 4) dX9_coatsInAll_27 (by decide) ?_
        refine AW.cg ?_ (ih (i + 1) (by omega) (by omega))
        simp [coatsAll]
  refine AW.iconstN X 0 dX9_coatsInAll_0 rfl ?_
  refine AW.istore_n X dX9_coatsInAll_1 (i := 1) rfl rfl ?_
  refine AW.iconstN X 0 dX9_coatsInAll_2 rfl ?_
  refine AW.istore_n X dX9_coatsInAll_3 (i := 2) rfl rfl ?_
  exact L4 _ 0 (Nat.lt_succ_self _) (by omega)
theorem behind_lt {V : Vt} (hV : HI V) : ∀ (i bits x : Nat), i ≤ V 0 2 → bits < 256 → behind V i bits x < 256
  | 0, bits, x, _, hb => by unfold behind; exact hb
  | c + 1, bits, x, hi, hb => by
    unfold behind
    split
    · split
      · exact hb
      · exact behind_lt hV c _ _ (by omega) (Nat.xor_lt_two_pow (n := 8) hb (pow_lt8 (by have := hi_n hV; omega)))
    · exact behind_lt hV c _ _ (by omega) hb
def behindH (V : Vt) (k h : Nat) : Nat := behind V (V 0 2) (lyA V k) (hard V k h)
set_option maxRecDepth 100000 in
set_option maxHeartbeats 4000000 in
theorem c_X3_behindHail {l : Launch} {δ : Dl} {b : Nat} {μ : Mm} (W : WX μ.2.2) {o : Nat} (hF : FA o) {V : Vt} (hV : HV μ o V) {k h : Nat} (hk : k < 12) (hh : h < 100) : MCX l δ b yX3_behindHail cX3_behindHail 6 (some .int) 3 [.ref (b + o), .int (nI k), .int (nI h)] μ (pI fun r μ' => r = nI (behindH V k h) ∧ μ' = μ) := by
  have bn := hi_n hV.1
  have ba := hi_a hV.1
  refine MC.intro ([some (.ref (b + o)), some (.int (nI k)), some (.int (nI h)), none, none, none]) (by decide) rfl rfl fun κ Qc hl hQ X => ?_
  subst hl
  have bw := hard_le V k hh
  have bl := lyN hV.1 k
  have L29 : ∀ i : Nat, i ≤ V 0 2 → ∀ bits x : Nat, bits < 256 → x ≤ 198 → behindH V k h = behind V i bits x → AW κ (δ, b, NX, 6, shX, False, Qc, 0, 0) NX 0 0 29 [some (.ref (b + o)), some (.int (nI k)), some (.int (nI h)), some (.int (nI x)), some (.int (nI bits)), some (.int (dn i))] [] μ := by
    intro i
    induction i with
    | zero =>
      intro hi bits x hb hx hr
      rw [dn_0]
      refine AW.iload X dX3_behindHail_29 rfl ?_
      refine AW.if_lt X (tgt := 85) dX3_behindHail_31 (by decide) (fun h31 => ?_) (fun h31 => ?_)
      · refine AW.iload X dX3_behindHail_85 rfl ?_
        refine AW.iret X hQ dX3_behindHail_87 ⟨_, rfl, ?_⟩
        exact ⟨by rw [hr]; rfl, rfl⟩
      · exact absurd (by decide) h31
    | succ c ih =>
      intro hi bits x hb hx hr
      rw [dn_s]
      have b2 := (hi_th hV.1 (c := c) (by omega))
      refine AW.iload X dX3_behindHail_29 rfl ?_
      refine AW.if_ltN X (tgt := 85) dX3_behindHail_31 (by decide) (by omega) (fun h31 => ?_) (fun h31 => ?_)
      · exact h31.elim
      · refine AW.iload X dX3_behindHail_34 rfl ?_
        refine AW.iload X dX3_behindHail_36 rfl ?_
        refine AW.hasN X dX3_behindHail_38 dX3_behindHail_39 dX3_behindHail_40 (by omega) (by omega) ?_
        refine AW.if_eqB X (tgt := 79) dX3_behindHail_41 (by decide) (fun h41 => ?_) (fun h41 => ?_)
        · refine AW.iinc X (v := -1) dX3_behindHail_79 rfl rfl rfl ?_
          refine AW.goto X (tgt := 29) dX3_behindHail_82 (by decide) ?_
          exact ih (by omega) bits x hb hx (hr.trans (by rw [behind, if_neg (by simp [h41])]))
        · refine AW.aload_n X dX3_behindHail_44 (i := 0) rfl rfl ?_
          refine AW.getR X dX3_behindHail_45 fX3_28 rfl (fa_ob hF) (wx_thick W hF) ?_
          refine AW.iload X dX3_behindHail_48 rfl ?_
          refine AW.iaload X dX3_behindHail_50 (fa_3 hF) (n2_in (by omega) (by decide)) (v := (nI (V 3 c))) (by rw [n2_clamp (by omega)]; exact hv_3 hV (by omega)) ?_
          refine AW.iload_n X dX3_behindHail_51 (i := 3) rfl rfl ?_
          refine AW.icmp_leN X (tgt := 58) dX3_behindHail_52 (by decide) (by omega) (by omega) (fun h52 => ?_) (fun h52 => ?_)
          · have b6 := pow_lt8 (c := c) (by omega)
            have b7 := Nat.xor_lt_two_pow (n := 8) hb b6
            have e8 := andN_pow h41
            refine AW.iload_n X dX3_behindHail_58 (i := 3) rfl rfl ?_
            refine AW.aload_n X dX3_behindHail_59 (i := 0) rfl rfl ?_
            refine AW.getR X dX3_behindHail_60 fX3_28 rfl (fa_ob hF) (wx_thick W hF) ?_
            refine AW.iload X dX3_behindHail_63 rfl ?_
            refine AW.iaload X dX3_behindHail_65 (fa_3 hF) (n2_in (by omega) (by decide)) (v := (nI (V 3 c))) (by rw [n2_clamp (by omega)]; exact hv_3 hV (by omega)) ?_
            refine AW.isubN X dX3_behindHail_66 (by omega) ?_
            refine AW.istore_n X dX3_behindHail_67 (i := 3) rfl rfl ?_
            refine AW.iload X dX3_behindHail_68 rfl ?_
            refine AW.iconstN X 1 dX3_behindHail_70 rfl ?_
            refine AW.iload X dX3_behindHail_71 rfl ?_
            refine AW.shl1 X dX3_behindHail_73 (by omega) ?_
            refine AW.andNotN X dX3_behindHail_74 dX3_behindHail_75 dX3_behindHail_76 ?_
            refine AW.istore X dX3_behindHail_77 rfl ?_
            refine AW.iinc X (v := -1) dX3_behindHail_79 rfl rfl rfl ?_
            refine AW.goto X (tgt := 29) dX3_behindHail_82 (by decide) ?_
            rw [e8]
            exact ih (by omega) _ _ b7 (by omega) (hr.trans (by rw [behind, if_pos h41, if_neg (by omega)]))
          · refine AW.iload X dX3_behindHail_55 rfl ?_
            refine AW.iret X hQ dX3_behindHail_57 ⟨_, rfl, ?_⟩
            exact ⟨by rw [hr, behind, if_pos h41, if_pos (by omega)], rfl⟩
  refine AW.aload_n X dX3_behindHail_0 (i := 0) rfl rfl ?_
  refine AW.getR X dX3_behindHail_1 fX3_40 rfl (fa_ob hF) (hv_kind hV) ?_
  refine AW.aload_n X dX3_behindHail_4 (i := 0) rfl rfl ?_
  refine AW.getI X dX3_behindHail_5 fX3_15 rfl (fa_ob hF) (hv_a hV) ?_
  refine AW.iload_n X dX3_behindHail_8 (i := 1) rfl rfl ?_
  refine AW.iload_n X dX3_behindHail_9 (i := 2) rfl rfl ?_
  refine seven (hi_k hV.1) (fun e => ?_) (fun e => ?_) (fun e => ?_) (fun e => ?_) (fun e => ?_) (fun e => ?_) (fun e => ?_)
  · have ez : h = (hard V k h) := by simp [hard, e]
    refine AW.callV X dX3_behindHail_10 lX3_73 cfX4 (c_X4_hardness (o := 19 + V 0 0)) (by rw [e]; exact ox_k0 : OX (19 + V 0 0) 4) rfl rfl rfl rfl ⟨rfl, rfl⟩ (pR_ke (congrArg nI ez) ?_)
    refine AW.istore_n X dX3_behindHail_13 (i := 3) rfl rfl ?_
    refine AW.aload_n X dX3_behindHail_14 (i := 0) rfl rfl ?_
    refine AW.iload_n X dX3_behindHail_15 (i := 1) rfl rfl ?_
    refine AW.callV X dX3_behindHail_16 lX3_78 cfX3 (c_X3_lyingIn W hF hV (by omega)) (fa_ob hF) rfl rfl rfl rfl ⟨rfl, rfl⟩ (pR_k ?_)
    refine AW.istore X dX3_behindHail_19 rfl ?_
    refine AW.aload_n X dX3_behindHail_21 (i := 0) rfl rfl ?_
    refine AW.getI X dX3_behindHail_22 fX3_18 rfl (fa_ob hF) (hv_n hV) ?_
    refine AW.iconstN X 1 dX3_behindHail_25 rfl ?_
    refine AW.isub X dX3_behindHail_26 ?_
    rw [dn_sub]
    refine AW.istore X dX3_behindHail_27 rfl ?_
    exact L29 _ (Nat.le_refl _) _ _ bl bw rfl
  · have ez : h = (hard V k h) := by simp [hard, e]
    refine AW.callU X dX3_behindHail_10 lX3_73_X2 cfX2 (c_X4_hardness (o := 19 + V 0 0)) (by rw [e]; exact ox_k1 : OX (19 + V 0 0) 2) rfl rfl rfl rfl ⟨rfl, rfl⟩ (pR_ke (congrArg nI ez) ?_)
    refine AW.istore_n X dX3_behindHail_13 (i := 3) rfl rfl ?_
    refine AW.aload_n X dX3_behindHail_14 (i := 0) rfl rfl ?_
    refine AW.iload_n X dX3_behindHail_15 (i := 1) rfl rfl ?_
    refine AW.callV X dX3_behindHail_16 lX3_78 cfX3 (c_X3_lyingIn W hF hV (by omega)) (fa_ob hF) rfl rfl rfl rfl ⟨rfl, rfl⟩ (pR_k ?_)
    refine AW.istore X dX3_behindHail_19 rfl ?_
    refine AW.aload_n X dX3_behindHail_21 (i := 0) rfl rfl ?_
    refine AW.getI X dX3_behindHail_22 fX3_18 rfl (fa_ob hF) (hv_n hV) ?_
    refine AW.iconstN X 1 dX3_behindHail_25 rfl ?_
    refine AW.isub X dX3_behindHail_26 ?_
    rw [dn_sub]
    refine AW.istore X dX3_behindHail_27 rfl ?_
    exact L29 _ (Nat.le_refl _) _ _ bl bw rfl
  · have ez : (h - (V 0 1)) = (hard V k h) := by simp [hard, e]
    refine AW.callU X dX3_behindHail_10 lX3_73_X5 cfX5 (c_X5_hardness (o := 19 + V 0 0) (by omega) (by omega) (by omega)) (by rw [e]; exact ox_k2 : OX (19 + V 0 0) 5) rfl rfl rfl rfl ⟨rfl, rfl⟩ (pR_ke (congrArg nI ez) ?_)
    refine AW.istore_n X dX3_behindHail_13 (i := 3) rfl rfl ?_
    refine AW.aload_n X dX3_behindHail_14 (i := 0) rfl rfl ?_
    refine AW.iload_n X dX3_behindHail_15 (i := 1) rfl rfl ?_
    refine AW.callV X dX3_behindHail_16 lX3_78 cfX3 (c_X3_lyingIn W hF hV (by omega)) (fa_ob hF) rfl rfl rfl rfl ⟨rfl, rfl⟩ (pR_k ?_)
    refine AW.istore X dX3_behindHail_19 rfl ?_
    refine AW.aload_n X dX3_behindHail_21 (i := 0) rfl rfl ?_
    refine AW.getI X dX3_behindHail_22 fX3_18 rfl (fa_ob hF) (hv_n hV) ?_
    refine AW.iconstN X 1 dX3_behindHail_25 rfl ?_
    refine AW.isub X dX3_behindHail_26 ?_
    rw [dn_sub]
    refine AW.istore X dX3_behindHail_27 rfl ?_
    exact L29 _ (Nat.le_refl _) _ _ bl bw rfl
  · have ez : h = (hard V k h) := by simp [hard, e]
    refine AW.callU X dX3_behindHail_10 lX3_73_X1 cfX1 (c_X4_hardness (o := 19 + V 0 0)) (by rw [e]; exact ox_k3 : OX (19 + V 0 0) 1) rfl rfl rfl rfl ⟨rfl, rfl⟩ (pR_ke (congrArg nI ez) ?_)
    refine AW.istore_n X dX3_behindHail_13 (i := 3) rfl rfl ?_
    refine AW.aload_n X dX3_behindHail_14 (i := 0) rfl rfl ?_
    refine AW.iload_n X dX3_behindHail_15 (i := 1) rfl rfl ?_
    refine AW.callV X dX3_behindHail_16 lX3_78 cfX3 (c_X3_lyingIn W hF hV (by omega)) (fa_ob hF) rfl rfl rfl rfl ⟨rfl, rfl⟩ (pR_k ?_)
    refine AW.istore X dX3_behindHail_19 rfl ?_
    refine AW.aload_n X dX3_behindHail_21 (i := 0) rfl rfl ?_
    refine AW.getI X dX3_behindHail_22 fX3_18 rfl (fa_ob hF) (hv_n hV) ?_
    refine AW.iconstN X 1 dX3_behindHail_25 rfl ?_
    refine AW.isub X dX3_behindHail_26 ?_
    rw [dn_sub]
    refine AW.istore X dX3_behindHail_27 rfl ?_
    exact L29 _ (Nat.le_refl _) _ _ bl bw rfl
  · have ez : h = (hard V k h) := by simp [hard, e]
    refine AW.callU X dX3_behindHail_10 lX3_73_X7 cfX7 (c_X4_hardness (o := 19 + V 0 0)) (by rw [e]; exact ox_k4 : OX (19 + V 0 0) 7) rfl rfl rfl rfl ⟨rfl, rfl⟩ (pR_ke (congrArg nI ez) ?_)
    refine AW.istore_n X dX3_behindHail_13 (i := 3) rfl rfl ?_
    refine AW.aload_n X dX3_behindHail_14 (i := 0) rfl rfl ?_
    refine AW.iload_n X dX3_behindHail_15 (i := 1) rfl rfl ?_
    refine AW.callV X dX3_behindHail_16 lX3_78 cfX3 (c_X3_lyingIn W hF hV (by omega)) (fa_ob hF) rfl rfl rfl rfl ⟨rfl, rfl⟩ (pR_k ?_)
    refine AW.istore X dX3_behindHail_19 rfl ?_
    refine AW.aload_n X dX3_behindHail_21 (i := 0) rfl rfl ?_
    refine AW.getI X dX3_behindHail_22 fX3_18 rfl (fa_ob hF) (hv_n hV) ?_
    refine AW.iconstN X 1 dX3_behindHail_25 rfl ?_
    refine AW.isub X dX3_behindHail_26 ?_
    rw [dn_sub]
    refine AW.istore X dX3_behindHail_27 rfl ?_
    exact L29 _ (Nat.le_refl _) _ _ bl bw rfl
  · have ez : (if k < 4 then 0 else h - (V 0 1)) = (hard V k h) := by simp [hard, e]
    refine AW.callU X dX3_behindHail_10 lX3_73_X8 cfX8 (c_X8_hardness (o := 19 + V 0 0) (by omega) (by omega) (by omega) (by rw [e]; exact ox_k5)) (by rw [e]; exact ox_k5 : OX (19 + V 0 0) 8) rfl rfl rfl rfl ⟨rfl, rfl⟩ (pR_ke (congrArg nI ez) ?_)
    refine AW.istore_n X dX3_behindHail_13 (i := 3) rfl rfl ?_
    refine AW.aload_n X dX3_behindHail_14 (i := 0) rfl rfl ?_
    refine AW.iload_n X dX3_behindHail_15 (i := 1) rfl rfl ?_
    refine AW.callV X dX3_behindHail_16 lX3_78 cfX3 (c_X3_lyingIn W hF hV (by omega)) (fa_ob hF) rfl rfl rfl rfl ⟨rfl, rfl⟩ (pR_k ?_)
    refine AW.istore X dX3_behindHail_19 rfl ?_
    refine AW.aload_n X dX3_behindHail_21 (i := 0) rfl rfl ?_
    refine AW.getI X dX3_behindHail_22 fX3_18 rfl (fa_ob hF) (hv_n hV) ?_
    refine AW.iconstN X 1 dX3_behindHail_25 rfl ?_
    refine AW.isub X dX3_behindHail_26 ?_
    rw [dn_sub]
    refine AW.istore X dX3_behindHail_27 rfl ?_
    exact L29 _ (Nat.le_refl _) _ _ bl bw rfl
  · have ez : (2 * (h - (V 0 1))) = (hard V k h) := by simp [hard, e]
    refine AW.callU X dX3_behindHail_10 lX3_73_X0 cfX0 (c_X0_hardness (o := 19 + V 0 0) (by omega) (by omega) (by omega) (by rw [e]; exact ox_k6)) (by rw [e]; exact ox_k6 : OX (19 + V 0 0) 0) rfl rfl rfl rfl ⟨rfl, rfl⟩ (pR_ke (congrArg nI ez) ?_)
    refine AW.istore_n X dX3_behindHail_13 (i := 3) rfl rfl ?_
    refine AW.aload_n X dX3_behindHail_14 (i := 0) rfl rfl ?_
    refine AW.iload_n X dX3_behindHail_15 (i := 1) rfl rfl ?_
    refine AW.callV X dX3_behindHail_16 lX3_78 cfX3 (c_X3_lyingIn W hF hV (by omega)) (fa_ob hF) rfl rfl rfl rfl ⟨rfl, rfl⟩ (pR_k ?_)
    refine AW.istore X dX3_behindHail_19 rfl ?_
    refine AW.aload_n X dX3_behindHail_21 (i := 0) rfl rfl ?_
    refine AW.getI X dX3_behindHail_22 fX3_18 rfl (fa_ob hF) (hv_n hV) ?_
    refine AW.iconstN X 1 dX3_behindHail_25 rfl ?_
    refine AW.isub X dX3_behindHail_26 ?_
    rw [dn_sub]
    refine AW.istore X dX3_behindHail_27 rfl ?_
    exact L29 _ (Nat.le_refl _) _ _ bl bw rfl
end
section
/-! what a change leaves as it was -/
def FR (o : Nat) : Nat → Prop := fun q => o ≤ q ∧ q ≤ o + 6
def TR (B : Nat) : Nat → Prop := fun q => B ≤ q ∧ q < B + 46
/-- all but the places in P is as it was -/
def Same (P : Nat → Prop) (μ μ' : Mm) : Prop := (∀ q, ¬ P q → μ'.1 q = μ.1 q ∧ μ'.2.2 q = μ.2.2 q) ∧ μ'.2.1 = μ.2.1
/-- and no reference has changed -/
def SameI (P : Nat → Prop) (μ μ' : Mm) : Prop := (∀ q, ¬ P q → μ'.1 q = μ.1 q) ∧ μ'.2 = μ.2
section SAME
variable {P Q : Nat → Prop} {μ μ1 μ2 : Mm}
theorem SameI.same (h : SameI P μ μ1) : Same P μ μ1 := ⟨fun q hq => ⟨h.1 q hq, by rw [h.2]⟩, by rw [h.2]⟩
theorem Same.rf : Same P μ μ := ⟨fun _ _ => ⟨rfl, rfl⟩, rfl⟩
theorem SameI.rf : SameI P μ μ := ⟨fun _ _ => rfl, rfl⟩
theorem Same.tr (h : Same P μ μ1) (h1 : Same P μ1 μ2) : Same P μ μ2 := ⟨fun q hq => ⟨(h1.1 q hq).1.trans (h.1 q hq).1, (h1.1 q hq).2.trans (h.1 q hq).2⟩, h1.2.trans h.2⟩
theorem SameI.tr (h : SameI P μ μ1) (h1 : SameI P μ1 μ2) : SameI P μ μ2 := ⟨fun q hq => (h1.1 q hq).trans (h.1 q hq), h1.2.trans h.2⟩
theorem Same.mono (h : Same P μ μ1) (hq : ∀ q, P q → Q q) : Same Q μ μ1 := ⟨fun q z => h.1 q (fun y => z (hq q y)), h.2⟩
theorem SameI.mono (h : SameI P μ μ1) (hq : ∀ q, P q → Q q) : SameI Q μ μ1 := ⟨fun q z => h.1 q (fun y => z (hq q y)), h.2⟩
theorem SameI.wI {o k : Nat} {v : Int32} (h : P o) : SameI P μ (wI μ o k v) := ⟨fun q hq => funext fun k' => by
  have : ¬ q = o := fun e => hq (e ▸ h)
  simp [_root_.Jvm.Pilot.@@N@@.wI, this], rfl⟩
theorem wx_same (W : WX μ.2.2) (h : SameI P μ μ1) : WX μ1.2.2 := by rw [h.2]; exact W
end SAME
theorem hv_same {P : Nat → Prop} {μ μ' : Mm} {o : Nat} {V : Vt} (h : HV μ o V) (hs : Same P μ μ') (hP : ∀ q, FR o q → ¬ P q) : HV μ' o V := by
  have e : ∀ j, j ≤ 6 → μ'.1 (o + j) = μ.1 (o + j) := fun j hj => (hs.1 (o + j) (hP _ ⟨by omega, by omega⟩)).1
  have e0 : μ'.1 o = μ.1 o := e 0 (by omega)
  have r0 : μ'.2.2 o = μ.2.2 o := (hs.1 o (hP _ ⟨by omega, by omega⟩)).2
  obtain ⟨h1, h2, h3, h4, h5, h6, h7⟩ := h
  refine ⟨h1, by rw [r0]; exact h2, by rw [e0]; exact h3, by rw [e0]; exact h4, by rw [e0]; exact h5, fun c hc => ?_, fun k hk => by rw [e 6 (by omega)]; exact h7 k hk⟩
  rw [e 1 (by omega), e 2 (by omega), e 3 (by omega), e 4 (by omega), e 5 (by omega)]
  exact h6 c hc
/-! changes of a house -/
def upV (V : Vt) (j k x : Nat) : Vt := fun j' k' => if j' = j ∧ k' = k then x else V j' k'
def clearV (V : Vt) : Vt := fun j k => if (j = 0 ∧ k = 2) ∨ j = 6 then 0 else V j k
def put5 (t c th g y : Nat) : Nat → Nat
  | 1 => t
  | 2 => c
  | 3 => th
  | 4 => g
  | _ => y
def putV (V : Vt) (t c th g y : Nat) : Vt := fun j k => if 1 ≤ j ∧ j ≤ 5 ∧ k = V 0 2 then put5 t c th g y j else if j = 0 ∧ k = 2 then V 0 2 + 1 else V j k
def clrM (μ : Mm) (o i : Nat) : Mm := (fun q k => if q = o ∧ k = 3 then nI 0 else if q = o + 6 ∧ k < i then nI 0 else μ.1 q k, μ.2)
theorem clr_0 (μ : Mm) (o : Nat) : wI μ o 3 (nI 0) = clrM μ o 0 := by
  refine Prod.ext (funext fun q => funext fun k => ?_) rfl
  simp [wI, clrM]
theorem clr_s (μ : Mm) (o i : Nat) : wI (clrM μ o i) (o + 6) i (nI 0) = clrM μ o (i + 1) := by
  refine Prod.ext (funext fun q => funext fun k => ?_) rfl
  simp only [wI, clrM]
  by_cases h1 : q = o + 6
  · subst h1
    have : ¬ o + 6 = o := by omega
    by_cases h2 : k = i
    · subst h2; simp [this]
    · by_cases h3 : k < i
      · simp [this, h2, h3]; omega
      · have h4 : ¬ k < i + 1 := by omega
        simp [this, h2, h3, h4]
  · simp [h1]
theorem clr_same (μ : Mm) (o i : Nat) : SameI (FR o) μ (clrM μ o i) := ⟨fun q hq => funext fun k => by
  have h1 : ¬ q = o := fun e => hq ⟨by omega, by omega⟩
  have h2 : ¬ q = o + 6 := fun e => hq ⟨by omega, by omega⟩
  simp [clrM, h1, h2], rfl⟩
theorem hi_clear {V : Vt} (h : HI V) : HI (clearV V) := ⟨h.1, h.2.1, Nat.zero_le _, fun c hc => absurd hc (Nat.not_lt_zero c), fun k _ => (by decide : (0 : Nat) < 256)⟩
theorem hv_clear {μ : Mm} {o : Nat} {V : Vt} (h : HV μ o V) : HV (clrM μ o 12) o (clearV V) := by
  refine ⟨hi_clear h.1, h.2.1, ?_, ?_, by simp [clrM, clearV], fun c hc => absurd hc (Nat.not_lt_zero c), fun k hk => ?_⟩
  · simpa [clrM, clearV] using hv_k h
  · simpa [clrM, clearV] using hv_a h
  · simp [clrM, clearV, hk]
def putM (μ : Mm) (o n t c th g y : Nat) : Mm := wI (wI (wI (wI (wI (wI μ (o + 1) n (nI t)) (o + 2) n (nI c)) (o + 3) n (nI th)) (o + 4) n (nI g)) (o + 5) n (nI y)) o 3 (nI (n + 1))
theorem put_same (μ : Mm) (o n t c th g y : Nat) : SameI (FR o) μ (putM μ o n t c th g y) :=
  (((((SameI.wI ⟨by omega, by omega⟩).tr (SameI.wI ⟨by omega, by omega⟩)).tr (SameI.wI ⟨by omega, by omega⟩)).tr (SameI.wI ⟨by omega, by omega⟩)).tr (SameI.wI ⟨by omega, by omega⟩)).tr (SameI.wI ⟨by omega, by omega⟩)
theorem hi_put {V : Vt} {t c th g : Nat} (y : Nat) (h : HI V) (hn : V 0 2 < 8) (ht : t < 8) (hc : c < 6) (h1 : 1 ≤ th) (h9 : th ≤ 9) (hg : g < 12) : HI (putV V t c th g y) := by
  have e0 : ∀ k, ¬ k = 2 → putV V t c th g y 0 k = V 0 k := fun k hk => by simp [putV, hk]
  have en : putV V t c th g y 0 2 = V 0 2 + 1 := by simp [putV]
  have e6 : ∀ k, putV V t c th g y 6 k = V 6 k := fun k => by simp [putV]
  refine ⟨by rw [e0 0 (by decide)]; exact h.1, by rw [e0 1 (by decide)]; exact h.2.1, by rw [en]; omega, fun i hi => ?_, fun k hk => by rw [e6]; exact h.2.2.2.2 k hk⟩
  rw [en] at hi
  by_cases q : i = V 0 2
  · simp [putV, put5, q]
    omega
  · simpa [putV, q] using h.2.2.2.1 i (by omega)
theorem hv_put {μ : Mm} {o : Nat} {V : Vt} {t c th g : Nat} (y : Nat) (h : HV μ o V) (hn : V 0 2 < 8) (ht : t < 8) (hc : c < 6) (h1 : 1 ≤ th) (h9 : th ≤ 9) (hg : g < 12) : HV (putM μ o (V 0 2) t c th g y) o (putV V t c th g y) := by
  have e0 : ∀ k, ¬ k = 2 → putV V t c th g y 0 k = V 0 k := fun k hk => by simp [putV, hk]
  have en : putV V t c th g y 0 2 = V 0 2 + 1 := by simp [putV]
  have e6 : ∀ k, putV V t c th g y 6 k = V 6 k := fun k => by simp [putV]
  refine ⟨hi_put y h.1 hn ht hc h1 h9 hg, ?_, ?_, ?_, ?_, fun i hi => ?_, fun k hk => ?_⟩
  · rw [e0 0 (by decide)]; show μ.2.2 o 0 = _; exact hv_kind h
  · rw [e0 0 (by decide)]; simpa [putM, wI] using hv_k h
  · rw [e0 1 (by decide)]; simpa [putM, wI] using hv_a h
  · rw [en]; simp [putM, wI]
  · rw [en] at hi
    by_cases q : i = V 0 2
    · simp [putM, wI, putV, put5, q]
    · have hv := h.2.2.2.2.2.1 i (by omega)
      simpa [putM, wI, putV, q] using hv
  · rw [e6]; simpa [putM, wI] using hv_6 h hk
theorem hi_gone {V : Vt} {k x : Nat} (h : HI V) (hx : x < 256) : HI (upV V 6 k x) := by
  refine ⟨by simpa [upV] using h.1, by simpa [upV] using h.2.1, by simpa [upV] using h.2.2.1, fun c hc => ?_, fun i hi => ?_⟩
  · simpa [upV] using h.2.2.2.1 c (by simpa [upV] using hc)
  · by_cases q : i = k
    · simpa [upV, q] using hx
    · simpa [upV, q] using h.2.2.2.2 i hi
theorem hv_gone {μ : Mm} {o : Nat} {V : Vt} {k x : Nat} (h : HV μ o V) (hx : x < 256) : HV (wI μ (o + 6) k (nI x)) o (upV V 6 k x) := by
  refine ⟨hi_gone h.1 hx, by simpa [upV, wI] using hv_kind h, by simpa [upV, wI] using hv_k h, by simpa [upV, wI] using hv_a h, by simpa [upV, wI] using hv_n h, fun c hc => ?_, fun i hi => ?_⟩
  · simpa [upV, wI] using h.2.2.2.2.2.1 c (by simpa [upV] using hc)
  · by_cases q : i = k
    · simp [upV, wI, q]
    · simpa [upV, wI, q] using hv_6 h hi
/-! changes of a town -/
def upH (τ : Tt) (h : Nat) (V : Vt) : Tt := fun h' => if h' = h then V else τ h'
def upS (τ : Tt) (j k x : Nat) : Tt := fun h' => if h' = 6 then upV (τ 6) j k x else τ h'
theorem upH_6 {τ : Tt} {h : Nat} {V : Vt} (hh : h < 6) : upH τ h V 6 = τ 6 := if_neg (by omega)
theorem ti_upH {τ : Tt} {h : Nat} {V : Vt} (q : TI τ) (hh : h < 6) (hV : HI V) : TI (upH τ h V) := by
  unfold TI
  rw [upH_6 hh]
  refine ⟨q.1, q.2.1, q.2.2.1, q.2.2.2.1, fun i hi => ?_⟩
  by_cases e : i = h
  · rw [upH, if_pos e]; exact hV
  · rw [upH, if_neg e]; exact q.2.2.2.2 i hi
theorem tx_house {μ μ' : Mm} {B h : Nat} {τ : Tt} {V : Vt} (q : TX μ B τ) (hh : h < 6) (hs : Same (FR (B + 4 + 7 * h)) μ μ') (hV : HV μ' (B + 4 + 7 * h) V) : TX μ' B (upH τ h V) := by
  have e : ∀ j, j < 4 → μ'.1 (B + j) = μ.1 (B + j) := fun j hj => (hs.1 (B + j) (fun z => by have := z.1; omega)).1
  have e0 : μ'.1 B = μ.1 B := e 0 (by omega)
  refine ⟨ti_upH q.1 hh hV.1, ?_, ?_, fun i hi => ?_⟩
  · rw [e0, upH_6 hh]; exact q.2.1
  · rw [e 2 (by omega), e 3 (by omega), upH_6 hh]; exact q.2.2.1
  · rw [upH_6 hh] at hi
    by_cases z : i = h
    · subst z; rw [upH, if_pos rfl]; exact hV
    · rw [upH, if_neg z]
      refine hv_same (q.2.2.2 i hi) hs (fun x hx hy => ?_)
      obtain ⟨h1, h2⟩ := hx
      obtain ⟨h3, h4⟩ := hy
      omega
theorem tx_same {P : Nat → Prop} {μ μ' : Mm} {B : Nat} {τ : Tt} (q : TX μ B τ) (hs : Same P μ μ') (hP : ∀ x, TR B x → ¬ P x) : TX μ' B τ := by
  have e : ∀ j, j < 46 → μ'.1 (B + j) = μ.1 (B + j) := fun j hj => (hs.1 (B + j) (hP _ ⟨by omega, by omega⟩)).1
  have e0 : μ'.1 B = μ.1 B := e 0 (by omega)
  refine ⟨q.1, by rw [e0]; exact q.2.1, by rw [e 2 (by omega), e 3 (by omega)]; exact q.2.2.1, fun i hi => hv_same (q.2.2.2 i hi) hs (fun x hx => hP x ?_)⟩
  have := q.1.1
  obtain ⟨h1, h2⟩ := hx
  exact ⟨by omega, by omega⟩
theorem fr_tr {B h : Nat} (hh : h < 6) : ∀ q, FR (B + 4 + 7 * h) q → TR B q := fun q z => by
  obtain ⟨h1, h2⟩ := z
  exact ⟨by omega, by omega⟩

section CGM
variable {κ : Kt} {K : Wt} {N cells slots pc : Nat} {ls : List (Option Value)} {st : List Value} {μ μ' : Mm}
theorem AW.cgm (h : μ = μ') (k : AW κ K N cells slots pc ls st μ') : AW κ K N cells slots pc ls st μ := h ▸ k
end CGM
end
section
set_option maxRecDepth 100000 in
set_option maxHeartbeats 4000000 in
theorem c_X3_clear {l : Launch} {δ : Dl} {b : Nat} {μ : Mm} (W : WX μ.2.2) {o : Nat} (hF : FA o) : MCX l δ b yX3_clear cX3_clear 2 none 1 [.ref (b + o)] μ (pV fun μ' => μ' = clrM μ o 12) := by
  refine MC.intro ([some (.ref (b + o)), none]) (by decide) rfl rfl fun κ Qc hl hQ X => ?_
  subst hl
  have L7 : ∀ (m i : Nat), 12 - i < m → i ≤ 12 → AW κ (δ, b, NX, 2, shX, False, Qc, 0, 0) NX 0 0 7 [some (.ref (b + o)), some (.int (nI i))] [] (clrM μ o i) := by
    intro m
    induction m with
    | zero => intro i hm; exact absurd hm (Nat.not_lt_zero _)
    | succ m ih =>
      intro i hm hi
      refine AW.iload_n X dX3_clear_7 (i := 1) rfl rfl ?_
      refine AW.bipushN X 12 dX3_clear_8 rfl ?_
      refine AW.icmp_geN X (tgt := 26) dX3_clear_10 (by decide) (by omega) (by omega) (fun h10 => ?_) (fun h10 => ?_)
      · obtain rfl : i = 12 := by omega
        refine AW.vret X hQ dX3_clear_26 ⟨rfl, ?_⟩
        rfl
      · refine AW.aload_n X dX3_clear_13 (i := 0) rfl rfl ?_
        refine AW.getR X dX3_clear_14 fX3_37 rfl (fa_ob hF) (wx_gone W hF) ?_
        refine AW.iload_n X dX3_clear_17 (i := 1) rfl rfl ?_
        refine AW.iconstN X 0 dX3_clear_18 rfl ?_
        refine AW.iastore X dX3_clear_19 (by decide) (fa_6 hF) (n2_in (by omega) (by decide)) ?_
        rw [n2_clamp (by omega)]
        refine AW.iincN X (c := (i + 1)) dX3_clear_20 rfl (inc_1 _) rfl ?_
        refine AW.goto X (tgt := 7) dX3_clear_23 (by decide) ?_
        exact AW.cgm (clr_s μ o i) (ih (i + 1) (by omega) (by omega))
  refine AW.aload_n X dX3_clear_0 (i := 0) rfl rfl ?_
  refine AW.iconstN X 0 dX3_clear_1 rfl ?_
  refine AW.putI X dX3_clear_2 fX3_18 rfl rfl ⟨rfl, rfl⟩ (by decide) (fa_ob hF) ?_
  refine AW.iconstN X 0 dX3_clear_5 rfl ?_
  refine AW.istore_n X dX3_clear_6 (i := 1) rfl rfl ?_
  exact AW.cgm (clr_0 μ o) (L7 _ 0 (Nat.lt_succ_self _) (by omega))
set_option maxRecDepth 100000 in
set_option maxHeartbeats 4000000 in
theorem c_X3_putOn {l : Launch} {δ : Dl} {b : Nat} {μ : Mm} (W : WX μ.2.2) {o : Nat} (hF : FA o) {V : Vt} (hV : HV μ o V) {t c th g y : Nat} (hn : V 0 2 < 8) : MCX l δ b yX3_putOn cX3_putOn 7 (some .int) 1 [.ref (b + o), .int (nI t), .int (nI c), .int (nI th), .int (nI g), .int (nI y)] μ (pI fun r μ' => r = nI (V 0 2) ∧ μ' = putM μ o (V 0 2) t c th g y) := by
  refine MC.intro ([some (.ref (b + o)), some (.int (nI t)), some (.int (nI c)), some (.int (nI th)), some (.int (nI g)), some (.int (nI y)), none]) (by decide) rfl rfl fun κ Qc hl hQ X => ?_
  subst hl
  refine AW.aload_n X dX3_putOn_0 (i := 0) rfl rfl ?_
  refine AW.getI X dX3_putOn_1 fX3_18 rfl (fa_ob hF) (hv_n hV) ?_
  refine AW.bipushN X 8 dX3_putOn_4 rfl ?_
  refine AW.icmp_ltN X (tgt := 11) dX3_putOn_6 (by decide) (by omega) (by omega) (fun h6 => ?_) (fun h6 => ?_)
  · refine AW.aload_n X dX3_putOn_11 (i := 0) rfl rfl ?_
    refine AW.getI X dX3_putOn_12 fX3_18 rfl (fa_ob hF) (hv_n hV) ?_
    refine AW.istore X dX3_putOn_15 rfl ?_
    refine AW.aload_n X dX3_putOn_17 (i := 0) rfl rfl ?_
    refine AW.getR X dX3_putOn_18 fX3_21 rfl (fa_ob hF) (wx_tenant W hF) ?_
    refine AW.iload X dX3_putOn_21 rfl ?_
    refine AW.iload_n X dX3_putOn_23 (i := 1) rfl rfl ?_
    refine AW.iastore X dX3_putOn_24 (by decide) (fa_1 hF) (n2_in (by omega) (by decide)) ?_
    rw [n2_clamp (by omega)]
    refine AW.aload_n X dX3_putOn_25 (i := 0) rfl rfl ?_
    refine AW.getR X dX3_putOn_26 fX3_25 rfl (fa_ob hF) (wx_colour W hF) ?_
    refine AW.iload X dX3_putOn_29 rfl ?_
    refine AW.iload_n X dX3_putOn_31 (i := 2) rfl rfl ?_
    refine AW.iastore X dX3_putOn_32 (by decide) (fa_2 hF) (n2_in (by omega) (by decide)) ?_
    rw [n2_clamp (by omega)]
    refine AW.aload_n X dX3_putOn_33 (i := 0) rfl rfl ?_
    refine AW.getR X dX3_putOn_34 fX3_28 rfl (fa_ob hF) (wx_thick W hF) ?_
    refine AW.iload X dX3_putOn_37 rfl ?_
    refine AW.iload_n X dX3_putOn_39 (i := 3) rfl rfl ?_
    refine AW.iastore X dX3_putOn_40 (by decide) (fa_3 hF) (n2_in (by omega) (by decide)) ?_
    rw [n2_clamp (by omega)]
    refine AW.aload_n X dX3_putOn_41 (i := 0) rfl rfl ?_
    refine AW.getR X dX3_putOn_42 fX3_31 rfl (fa_ob hF) (wx_gap W hF) ?_
    refine AW.iload X dX3_putOn_45 rfl ?_
    refine AW.iload X dX3_putOn_47 rfl ?_
    refine AW.iastore X dX3_putOn_49 (by decide) (fa_4 hF) (n2_in (by omega) (by decide)) ?_
    rw [n2_clamp (by omega)]
    refine AW.aload_n X dX3_putOn_50 (i := 0) rfl rfl ?_
    refine AW.getR X dX3_putOn_51 fX3_34 rfl (fa_ob hF) (wx_year W hF) ?_
    refine AW.iload X dX3_putOn_54 rfl ?_
    refine AW.iload X dX3_putOn_56 rfl ?_
    refine AW.iastore X dX3_putOn_58 (by decide) (fa_5 hF) (n2_in (by omega) (by decide)) ?_
    rw [n2_clamp (by omega)]
    refine AW.aload_n X dX3_putOn_59 (i := 0) rfl rfl ?_
    refine AW.dup X dX3_putOn_60 rfl ?_
    refine AW.getI X dX3_putOn_61 fX3_18 rfl (fa_ob hF) (v := (nI (V 0 2))) (by simpa [wI] using hv_n hV) ?_
    refine AW.iconstN X 1 dX3_putOn_64 rfl ?_
    refine AW.iaddN X dX3_putOn_65 ?_
    refine AW.putI X dX3_putOn_66 fX3_18 rfl rfl ⟨rfl, rfl⟩ (by decide) (fa_ob hF) ?_
    refine AW.iload X dX3_putOn_69 rfl ?_
    refine AW.iret X hQ dX3_putOn_71 ⟨_, rfl, ?_⟩
    exact ⟨rfl, rfl⟩
  · omega
set_option maxRecDepth 100000 in
set_option maxHeartbeats 4000000 in
theorem c_X3_putOn_full {l : Launch} {δ : Dl} {b : Nat} {μ : Mm} (W : WX μ.2.2) {o : Nat} (hF : FA o) {V : Vt} (hV : HV μ o V) {t c th g y : Nat} (hn : V 0 2 = 8) : MCX l δ b yX3_putOn cX3_putOn 7 (some .int) 1 [.ref (b + o), .int (nI t), .int (nI c), .int (nI th), .int (nI g), .int (nI y)] μ (pI fun r μ' => r = -1 ∧ μ' = μ) := by
  refine MC.intro ([some (.ref (b + o)), some (.int (nI t)), some (.int (nI c)), some (.int (nI th)), some (.int (nI g)), some (.int (nI y)), none]) (by decide) rfl rfl fun κ Qc hl hQ X => ?_
  subst hl
  refine AW.aload_n X dX3_putOn_0 (i := 0) rfl rfl ?_
  refine AW.getI X dX3_putOn_1 fX3_18 rfl (fa_ob hF) (hv_n hV) ?_
  refine AW.bipushN X 8 dX3_putOn_4 rfl ?_
  refine AW.icmp_ltN X (tgt := 11) dX3_putOn_6 (by decide) (by omega) (by omega) (fun h6 => ?_) (fun h6 => ?_)
  · omega
  · refine AW.iconst X (v := -1) dX3_putOn_9 rfl ?_
    refine AW.iret X hQ dX3_putOn_10 ⟨_, rfl, ?_⟩
    exact ⟨rfl, rfl⟩
def went (V : Vt) (k h : Nat) : Nat := andN (lyA V k) (behindH V k h)
theorem andN_lt {a c : Nat} (ha : a < 256) : andN a c < 256 := Nat.xor_lt_two_pow (n := 8) ha (Nat.lt_of_le_of_lt Nat.and_le_left ha)
theorem went_lt {V : Vt} (hV : HI V) (k h : Nat) : went V k h < 256 := andN_lt (lyN hV k)
theorem behindH_lt {V : Vt} (hV : HI V) (k h : Nat) : behindH V k h < 256 := behind_lt hV _ _ _ (Nat.le_refl _) (lyN hV k)
set_option maxRecDepth 100000 in
set_option maxHeartbeats 4000000 in
theorem c_X3_hailInTruth {l : Launch} {δ : Dl} {b : Nat} {μ : Mm} (W : WX μ.2.2) {o : Nat} (hF : FA o) {V : Vt} (hV : HV μ o V) {k h : Nat} (hk : k < 12) (hh : h < 100) : MCX l δ b yX3_hailInTruth cX3_hailInTruth 4 (some .int) 4 [.ref (b + o), .int (nI k), .int (nI h)] μ (pI fun r μ' => r = nI (pcnt (went V k h)) ∧ μ' = wI μ (o + 6) k (nI (V 6 k ||| went V k h))) := by
  have bn := hi_n hV.1
  have b1 := lyN hV.1 k
  have b2 := behindH_lt hV.1 k h
  refine MC.intro ([some (.ref (b + o)), some (.int (nI k)), some (.int (nI h)), none]) (by decide) rfl rfl fun κ Qc hl hQ X => ?_
  subst hl
  refine AW.aload_n X dX3_hailInTruth_0 (i := 0) rfl rfl ?_
  refine AW.iload_n X dX3_hailInTruth_1 (i := 1) rfl rfl ?_
  refine AW.callV X dX3_hailInTruth_2 lX3_78 cfX3 (c_X3_lyingIn W hF hV (by omega)) (fa_ob hF) rfl rfl rfl rfl ⟨rfl, rfl⟩ (pR_k ?_)
  refine AW.aload_n X dX3_hailInTruth_5 (i := 0) rfl rfl ?_
  refine AW.iload_n X dX3_hailInTruth_6 (i := 1) rfl rfl ?_
  refine AW.iload_n X dX3_hailInTruth_7 (i := 2) rfl rfl ?_
  refine AW.callV X dX3_hailInTruth_8 lX3_81 cfX3 (c_X3_behindHail W hF hV (by omega) (by omega)) (fa_ob hF) rfl rfl rfl rfl ⟨rfl, rfl⟩ (pR_k ?_)
  refine AW.andNotN X dX3_hailInTruth_11 dX3_hailInTruth_12 dX3_hailInTruth_13 ?_
  refine AW.istore_n X dX3_hailInTruth_14 (i := 3) rfl rfl ?_
  refine AW.aload_n X dX3_hailInTruth_15 (i := 0) rfl rfl ?_
  refine AW.getR X dX3_hailInTruth_16 fX3_37 rfl (fa_ob hF) (wx_gone W hF) ?_
  refine AW.iload_n X dX3_hailInTruth_19 (i := 1) rfl rfl ?_
  refine AW.dup2 X dX3_hailInTruth_20 rfl rfl ?_
  refine AW.iaload X dX3_hailInTruth_21 (fa_6 hF) (n2_in (by omega) (by decide)) (v := (nI (V 6 k))) (by rw [n2_clamp (by omega)]; exact hv_6 hV (by omega)) ?_
  refine AW.iload_n X dX3_hailInTruth_22 (i := 3) rfl rfl ?_
  refine AW.iorN X dX3_hailInTruth_23 ?_
  refine AW.iastore X dX3_hailInTruth_24 (by decide) (fa_6 hF) (n2_in (by omega) (by decide)) ?_
  rw [n2_clamp (by omega)]
  refine AW.iload_n X dX3_hailInTruth_25 (i := 3) rfl rfl ?_
  refine AW.callS X dX3_hailInTruth_26 lX3_84 (c_J6_bitCount_0f7a4) rfl rfl rfl rfl ⟨rfl, rfl⟩ (pR_k ?_)
  refine AW.iret X hQ dX3_hailInTruth_29 ⟨_, rfl, ?_⟩
  exact ⟨bc_n _ (went_lt hV.1 k h), rfl⟩
/-- the uppermost coat below i that lies in cell k -/
def upmost (V : Vt) (k : Nat) : Nat → Option Nat
  | 0 => none
  | c + 1 => if lies V c k then some c else upmost V k c
theorem upmost_lt {V : Vt} {k : Nat} : ∀ {i c : Nat}, upmost V k i = some c → c < i
  | 0, c, h => by cases h
  | i + 1, c, h => by
    unfold upmost at h
    split at h
    · cases h; omega
    · have := upmost_lt h; omega
set_option maxRecDepth 100000 in
set_option maxHeartbeats 4000000 in
theorem c_X3_takeUppermost {l : Launch} {δ : Dl} {b : Nat} {μ : Mm} (W : WX μ.2.2) {o : Nat} (hF : FA o) {V : Vt} (hV : HV μ o V) {k : Nat} (hk : k < 12) : MCX l δ b yX3_takeUppermost cX3_takeUppermost 3 (some .int) 2 [.ref (b + o), .int (nI k)] μ (pI fun r μ' => match upmost V k (V 0 2) with
  | none => r = -1 ∧ μ' = μ
  | some c => r = nI c ∧ μ' = wI μ (o + 6) k (nI (V 6 k ||| 2 ^ c))) := by
  have bn := hi_n hV.1
  refine MC.intro ([some (.ref (b + o)), some (.int (nI k)), none]) (by decide) rfl rfl fun κ Qc hl hQ X => ?_
  subst hl
  have L7 : ∀ i : Nat, i ≤ V 0 2 → upmost V k (V 0 2) = upmost V k i → AW κ (δ, b, NX, 3, shX, False, Qc, 0, 0) NX 0 0 7 [some (.ref (b + o)), some (.int (nI k)), some (.int (dn i))] [] μ := by
    intro i
    induction i with
    | zero =>
      intro hi hr
      rw [dn_0]
      refine AW.iload_n X dX3_takeUppermost_7 (i := 2) rfl rfl ?_
      refine AW.if_lt X (tgt := 40) dX3_takeUppermost_8 (by decide) (fun h8 => ?_) (fun h8 => ?_)
      · refine AW.iconst X (v := -1) dX3_takeUppermost_40 rfl ?_
        refine AW.iret X hQ dX3_takeUppermost_41 ⟨_, rfl, ?_⟩
        rw [hr]
        exact ⟨rfl, rfl⟩
      · exact absurd (by decide) h8
    | succ c ih =>
      intro hi hr
      rw [dn_s]
      refine AW.iload_n X dX3_takeUppermost_7 (i := 2) rfl rfl ?_
      refine AW.if_ltN X (tgt := 40) dX3_takeUppermost_8 (by decide) (by omega) (fun h8 => ?_) (fun h8 => ?_)
      · exact h8.elim
      · refine AW.aload_n X dX3_takeUppermost_11 (i := 0) rfl rfl ?_
        refine AW.iload_n X dX3_takeUppermost_12 (i := 2) rfl rfl ?_
        refine AW.iload_n X dX3_takeUppermost_13 (i := 1) rfl rfl ?_
        refine AW.callV X dX3_takeUppermost_14 lX3_50 cfX3 (c_X3_lies W hF hV (by omega) (by omega)) (fa_ob hF) rfl rfl rfl rfl ⟨rfl, rfl⟩ (pR_k ?_)
        refine AW.if_eqB X (tgt := 34) dX3_takeUppermost_17 (by decide) (fun h17 => ?_) (fun h17 => ?_)
        · refine AW.iinc X (v := -1) dX3_takeUppermost_34 rfl rfl rfl ?_
          refine AW.goto X (tgt := 7) dX3_takeUppermost_37 (by decide) ?_
          exact ih (by omega) (hr.trans (by rw [upmost, if_neg (by simp [h17])]))
        · refine AW.aload_n X dX3_takeUppermost_20 (i := 0) rfl rfl ?_
          refine AW.getR X dX3_takeUppermost_21 fX3_37 rfl (fa_ob hF) (wx_gone W hF) ?_
          refine AW.iload_n X dX3_takeUppermost_24 (i := 1) rfl rfl ?_
          refine AW.dup2 X dX3_takeUppermost_25 rfl rfl ?_
          refine AW.iaload X dX3_takeUppermost_26 (fa_6 hF) (n2_in (by omega) (by decide)) (v := (nI (V 6 k))) (by rw [n2_clamp (by omega)]; exact hv_6 hV (by omega)) ?_
          refine AW.iconstN X 1 dX3_takeUppermost_27 rfl ?_
          refine AW.iload_n X dX3_takeUppermost_28 (i := 2) rfl rfl ?_
          refine AW.shl1 X dX3_takeUppermost_29 (by omega) ?_
          refine AW.iorN X dX3_takeUppermost_30 ?_
          refine AW.iastore X dX3_takeUppermost_31 (by decide) (fa_6 hF) (n2_in (by omega) (by decide)) ?_
          rw [n2_clamp (by omega)]
          refine AW.iload_n X dX3_takeUppermost_32 (i := 2) rfl rfl ?_
          refine AW.iret X hQ dX3_takeUppermost_33 ⟨_, rfl, ?_⟩
          rw [hr, upmost, if_pos h17]
          exact ⟨rfl, rfl⟩
  refine AW.aload_n X dX3_takeUppermost_0 (i := 0) rfl rfl ?_
  refine AW.getI X dX3_takeUppermost_1 fX3_18 rfl (fa_ob hF) (hv_n hV) ?_
  refine AW.iconstN X 1 dX3_takeUppermost_4 rfl ?_
  refine AW.isub X dX3_takeUppermost_5 ?_
  rw [dn_sub]
  refine AW.istore_n X dX3_takeUppermost_6 (i := 2) rfl rfl ?_
  exact L7 _ (Nat.le_refl _) rfl
end
section
/-- front o becomes what front o2 is -/
def bcM (μ : Mm) (o o2 kd : Nat) : Mm := cpI (cpI (cpI (cpI (cpI (cpI (wI (wI (wI (wR μ o 0 (some kd)) o 1 (μ.1 o2 1)) o 2 (μ.1 o2 2)) o 3 (μ.1 o2 3)) (o2 + 1) (o + 1) 0 0 8) (o2 + 2) (o + 2) 0 0 8) (o2 + 3) (o + 3) 0 0 8) (o2 + 4) (o + 4) 0 0 8) (o2 + 5) (o + 5) 0 0 8) (o2 + 6) (o + 6) 0 0 12
theorem fa_far {o o2 : Nat} (h : FA o) (h2 : FA o2) (hne : o ≠ o2) : o + 7 ≤ o2 ∨ o2 + 7 ≤ o := by
  obtain ⟨B, k, hB, hk, rfl⟩ := h
  obtain ⟨B2, k2, hB2, hk2, rfl⟩ := h2
  rcases hB with rfl | rfl | rfl <;> rcases hB2 with rfl | rfl | rfl <;> omega
theorem SameI.cpI {P : Nat → Prop} {μ : Mm} {o1 o2 sp dp k : Nat} (h : P o2) : SameI P μ (cpI μ o1 o2 sp dp k) := ⟨fun q hq => funext fun j => by
  have e : ¬ q = o2 := fun e => hq (e ▸ h)
  simp [_root_.Jvm.Pilot.@@N@@.cpI, e], rfl⟩
theorem Same.wR {P : Nat → Prop} {μ : Mm} {o k : Nat} {v : Option Nat} (h : P o) : Same P μ (wR μ o k v) := ⟨fun q hq => ⟨rfl, funext fun k' => by
  have e : ¬ q = o := fun e => hq (e ▸ h)
  simp [_root_.Jvm.Pilot.@@N@@.wR, e]⟩, rfl⟩
theorem bc_same (μ : Mm) (o o2 kd : Nat) : Same (FR o) μ (bcM μ o o2 kd) := by
  have h : ∀ j, j ≤ 6 → FR o (o + j) := fun j hj => ⟨by omega, by omega⟩
  have h0 : FR o o := h 0 (by omega)
  exact ((((((((Same.wR h0).tr (SameI.wI h0).same).tr (SameI.wI h0).same).tr (SameI.wI h0).same).tr (SameI.cpI (h 1 (by omega))).same).tr (SameI.cpI (h 2 (by omega))).same).tr (SameI.cpI (h 3 (by omega))).same).tr (SameI.cpI (h 4 (by omega))).same).tr (SameI.cpI (h 5 (by omega))).same |>.tr (SameI.cpI (h 6 (by omega))).same
theorem bc_ref (μ : Mm) (o o2 kd : Nat) : (bcM μ o o2 kd).2.2 = fun q k => if q = o ∧ k = 0 then some kd else μ.2.2 q k := rfl
theorem hv_bc {μ : Mm} {o o2 : Nat} {V : Vt} (hF : o + 7 ≤ o2 ∨ o2 + 7 ≤ o) (h : HV μ o2 V) : HV (bcM μ o o2 (19 + V 0 0)) o V := by
  have n1 : ∀ i j, i ≤ 6 → j ≤ 6 → ¬ o2 + i = o + j := fun i j hi hj => by omega
  have m : ∀ j, 1 ≤ j → j ≤ 6 → ∀ k, (j ≤ 5 → k < 8) → (j = 6 → k < 12) → (bcM μ o o2 (19 + V 0 0)).1 (o + j) k = μ.1 (o2 + j) k := by
    intro j hj1 hj k hk1 hk2
    have a1 := n1 1 1; have a2 := n1 2 1; have a3 := n1 2 2; have a4 := n1 3 1; have a5 := n1 3 2; have a6 := n1 3 3
    have q : j = 1 ∨ j = 2 ∨ j = 3 ∨ j = 4 ∨ j = 5 ∨ j = 6 := by omega
    rcases q with rfl | rfl | rfl | rfl | rfl | rfl
    all_goals simp [bcM, cpI, wI, wR, va_cpy, n1, hk1, hk2, show ∀ i, i ≤ 6 → ¬ o2 + i = o from fun i hi => by omega]
  have m0 : ∀ k, 1 ≤ k → k ≤ 3 → (bcM μ o o2 (19 + V 0 0)).1 o k = μ.1 o2 k := by
    intro k h1 h3
    have q : k = 1 ∨ k = 2 ∨ k = 3 := by omega
    rcases q with rfl | rfl | rfl <;> simp [bcM, cpI, wI, wR]
  have hn := hi_n h.1
  refine ⟨h.1, ?_, by rw [m0 1 (by omega) (by omega)]; exact hv_k h, by rw [m0 2 (by omega) (by omega)]; exact hv_a h, by rw [m0 3 (by omega) (by omega)]; exact hv_n h, fun c hc => ?_, fun k hk => ?_⟩
  · simp [bcM, cpI, wI, wR]
  · rw [m 1 (by omega) (by omega) c (fun _ => by omega) (fun _ => by omega), m 2 (by omega) (by omega) c (fun _ => by omega) (fun _ => by omega), m 3 (by omega) (by omega) c (fun _ => by omega) (fun _ => by omega), m 4 (by omega) (by omega) c (fun _ => by omega) (fun _ => by omega), m 5 (by omega) (by omega) c (fun _ => by omega) (fun _ => by omega)]
    exact h.2.2.2.2.2.1 c hc
  · rw [m 6 (by omega) (by omega) k (fun _ => by omega) (fun _ => hk)]
    exact hv_6 h hk
theorem wx_wR {r : Mm} {o kd : Nat} (W : WX r.2.2) (hF : FA o) : WX (wR r o 0 (some kd)).2.2 := by
  have hb : o ≠ 0 ∧ o ≠ 3 ∧ o ≠ 16 ∧ o ≠ 18 ∧ ∀ B, TA B → o ≠ B ∧ o ≠ B + 1 := by
    obtain ⟨B, k, hB, hk, rfl⟩ := hF
    refine ⟨?_, ?_, ?_, ?_, ?_⟩
    · rcases hB with rfl | rfl | rfl <;> omega
    · rcases hB with rfl | rfl | rfl <;> omega
    · rcases hB with rfl | rfl | rfl <;> omega
    · rcases hB with rfl | rfl | rfl <;> omega
    · intro B2 hB2
      rcases hB with rfl | rfl | rfl <;> rcases hB2 with rfl | rfl | rfl <;> omega
  obtain ⟨b0, b3, b16, b18, bB⟩ := hb
  obtain ⟨w1, w2, w3, w4, w5, w6⟩ := W
  refine ⟨?_, ?_, ?_, ?_, ?_, ?_⟩
  · simpa [wR, Ne.symm b0] using w1
  · simpa [wR, Ne.symm b3] using w2
  · simpa [wR, Ne.symm b16] using w3
  · simpa [wR, Ne.symm b18] using w4
  · intro B hB
    have := bB B hB
    simpa [wR, Ne.symm this.1, Ne.symm this.2] using w5 B hB
  · intro x hx
    simpa [wR] using w6 x hx
set_option maxRecDepth 100000 in
set_option maxHeartbeats 4000000 in
theorem c_X3_become {l : Launch} {δ : Dl} {b : Nat} {μ : Mm} (W : WX μ.2.2) {o o2 : Nat} (hF : FA o) (hF2 : FA o2) {V : Vt} (hV : HV μ o2 V) (hne : o ≠ o2) : MCX l δ b yX3_become cX3_become 2 none 1 [.ref (b + o), .ref (b + o2)] μ (pV fun μ' => μ' = bcM μ o o2 (19 + V 0 0)) := by
  have W1 := wx_wR (kd := 19 + V 0 0) W hF
  refine MC.intro ([some (.ref (b + o)), some (.ref (b + o2))]) (by decide) rfl rfl fun κ Qc hl hQ X => ?_
  subst hl
  refine AW.aload_n X dX3_become_0 (i := 0) rfl rfl ?_
  refine AW.aload_n X dX3_become_1 (i := 1) rfl rfl ?_
  refine AW.getR X dX3_become_2 fX3_40 rfl (fa_ob hF2) (hv_kind hV) ?_
  refine AW.putR X dX3_become_5 fX3_40 rfl rfl (by decide) (fa_ob hF) ?_
  refine AW.aload_n X dX3_become_8 (i := 0) rfl rfl ?_
  refine AW.aload_n X dX3_become_9 (i := 1) rfl rfl ?_
  refine AW.getI X dX3_become_10 fX3_9 rfl (fa_ob hF2) (v := (μ.1 o2 1)) (by simp [wR]) ?_
  refine AW.putI X dX3_become_13 fX3_9 rfl rfl ⟨rfl, rfl⟩ (by decide) (fa_ob hF) ?_
  refine AW.aload_n X dX3_become_16 (i := 0) rfl rfl ?_
  refine AW.aload_n X dX3_become_17 (i := 1) rfl rfl ?_
  refine AW.getI X dX3_become_18 fX3_15 rfl (fa_ob hF2) (v := (μ.1 o2 2)) (by simp [wI, wR, Ne.symm hne]) ?_
  refine AW.putI X dX3_become_21 fX3_15 rfl rfl ⟨rfl, rfl⟩ (by decide) (fa_ob hF) ?_
  refine AW.aload_n X dX3_become_24 (i := 0) rfl rfl ?_
  refine AW.aload_n X dX3_become_25 (i := 1) rfl rfl ?_
  refine AW.getI X dX3_become_26 fX3_18 rfl (fa_ob hF2) (v := (μ.1 o2 3)) (by simp [wI, wR, Ne.symm hne]) ?_
  refine AW.putI X dX3_become_29 fX3_18 rfl rfl ⟨rfl, rfl⟩ (by decide) (fa_ob hF) ?_
  refine AW.aload_n X dX3_become_32 (i := 1) rfl rfl ?_
  refine AW.getR X dX3_become_33 fX3_21 rfl (fa_ob hF2) (wx_tenant W1 hF2) ?_
  refine AW.iconstN X 0 dX3_become_36 rfl ?_
  refine AW.aload_n X dX3_become_37 (i := 0) rfl rfl ?_
  refine AW.getR X dX3_become_38 fX3_21 rfl (fa_ob hF) (wx_tenant W1 hF) ?_
  refine AW.iconstN X 0 dX3_become_41 rfl ?_
  refine AW.bipushN X 8 dX3_become_42 rfl ?_
  refine AW.acopyI X dX3_become_44 lX3_copy (fa_1 hF2) (fa_1 hF) (by omega) (by omega) (by decide) (by decide) ⟨rfl, rfl⟩ ?_
  refine AW.aload_n X dX3_become_47 (i := 1) rfl rfl ?_
  refine AW.getR X dX3_become_48 fX3_25 rfl (fa_ob hF2) (wx_colour W1 hF2) ?_
  refine AW.iconstN X 0 dX3_become_51 rfl ?_
  refine AW.aload_n X dX3_become_52 (i := 0) rfl rfl ?_
  refine AW.getR X dX3_become_53 fX3_25 rfl (fa_ob hF) (wx_colour W1 hF) ?_
  refine AW.iconstN X 0 dX3_become_56 rfl ?_
  refine AW.bipushN X 8 dX3_become_57 rfl ?_
  refine AW.acopyI X dX3_become_59 lX3_copy (fa_2 hF2) (fa_2 hF) (by omega) (by omega) (by decide) (by decide) ⟨rfl, rfl⟩ ?_
  refine AW.aload_n X dX3_become_62 (i := 1) rfl rfl ?_
  refine AW.getR X dX3_become_63 fX3_28 rfl (fa_ob hF2) (wx_thick W1 hF2) ?_
  refine AW.iconstN X 0 dX3_become_66 rfl ?_
  refine AW.aload_n X dX3_become_67 (i := 0) rfl rfl ?_
  refine AW.getR X dX3_become_68 fX3_28 rfl (fa_ob hF) (wx_thick W1 hF) ?_
  refine AW.iconstN X 0 dX3_become_71 rfl ?_
  refine AW.bipushN X 8 dX3_become_72 rfl ?_
  refine AW.acopyI X dX3_become_74 lX3_copy (fa_3 hF2) (fa_3 hF) (by omega) (by omega) (by decide) (by decide) ⟨rfl, rfl⟩ ?_
  refine AW.aload_n X dX3_become_77 (i := 1) rfl rfl ?_
  refine AW.getR X dX3_become_78 fX3_31 rfl (fa_ob hF2) (wx_gap W1 hF2) ?_
  refine AW.iconstN X 0 dX3_become_81 rfl ?_
  refine AW.aload_n X dX3_become_82 (i := 0) rfl rfl ?_
  refine AW.getR X dX3_become_83 fX3_31 rfl (fa_ob hF) (wx_gap W1 hF) ?_
  refine AW.iconstN X 0 dX3_become_86 rfl ?_
  refine AW.bipushN X 8 dX3_become_87 rfl ?_
  refine AW.acopyI X dX3_become_89 lX3_copy (fa_4 hF2) (fa_4 hF) (by omega) (by omega) (by decide) (by decide) ⟨rfl, rfl⟩ ?_
  refine AW.aload_n X dX3_become_92 (i := 1) rfl rfl ?_
  refine AW.getR X dX3_become_93 fX3_34 rfl (fa_ob hF2) (wx_year W1 hF2) ?_
  refine AW.iconstN X 0 dX3_become_96 rfl ?_
  refine AW.aload_n X dX3_become_97 (i := 0) rfl rfl ?_
  refine AW.getR X dX3_become_98 fX3_34 rfl (fa_ob hF) (wx_year W1 hF) ?_
  refine AW.iconstN X 0 dX3_become_101 rfl ?_
  refine AW.bipushN X 8 dX3_become_102 rfl ?_
  refine AW.acopyI X dX3_become_104 lX3_copy (fa_5 hF2) (fa_5 hF) (by omega) (by omega) (by decide) (by decide) ⟨rfl, rfl⟩ ?_
  refine AW.aload_n X dX3_become_107 (i := 1) rfl rfl ?_
  refine AW.getR X dX3_become_108 fX3_37 rfl (fa_ob hF2) (wx_gone W1 hF2) ?_
  refine AW.iconstN X 0 dX3_become_111 rfl ?_
  refine AW.aload_n X dX3_become_112 (i := 0) rfl rfl ?_
  refine AW.getR X dX3_become_113 fX3_37 rfl (fa_ob hF) (wx_gone W1 hF) ?_
  refine AW.iconstN X 0 dX3_become_116 rfl ?_
  refine AW.bipushN X 12 dX3_become_117 rfl ?_
  refine AW.acopyI X dX3_become_119 lX3_copy (fa_6 hF2) (fa_6 hF) (by omega) (by omega) (by decide) (by decide) ⟨rfl, rfl⟩ ?_
  refine AW.vret X hQ dX3_become_122 ⟨rfl, ?_⟩
  rfl
end
section
/-! hail on all houses, skins that fall, draws, a year: what becomes of the town -/
theorem upH_s (τ : Tt) (h : Nat) (V : Vt) : upH τ h V h = V := if_pos rfl
theorem upH_n {τ : Tt} {h i : Nat} {V : Vt} (e : i ≠ h) : upH τ h V i = τ i := if_neg e
theorem upH_id (τ : Tt) (h : Nat) : upH τ h (τ h) = τ := funext fun i => by
  by_cases e : i = h
  · subst e; exact upH_s τ i _
  · exact upH_n e
theorem upH_up (τ : Tt) (h : Nat) (V V2 : Vt) : upH (upH τ h V) h V2 = upH τ h V2 := funext fun i => by
  by_cases e : i = h
  · subst e; rw [upH_s, upH_s]
  · rw [upH_n e, upH_n e, upH_n e]
theorem upS_n {τ : Tt} {i j k x : Nat} (e : i ≠ 6) : upS τ j k x i = τ i := if_neg e
theorem upS_6 (τ : Tt) (j k x j' k' : Nat) : upS τ j k x 6 j' k' = if j' = j ∧ k' = k then x else τ 6 j' k' := rfl
def hailC (V : Vt) (x : Nat) : Nat → Vt
  | 0 => V
  | k + 1 => upV (hailC V x k) 6 k (hailC V x k 6 k ||| went (hailC V x k) k x)
def hailK (V : Vt) (x : Nat) : Nat → Nat
  | 0 => 0
  | k + 1 => hailK V x k + pcnt (went (hailC V x k) k x)
def hailT (τ : Tt) (x : Nat) : Nat → Tt
  | 0 => τ
  | i + 1 => upH (hailT τ x i) i (hailC (hailT τ x i i) x 12)
def hailS (τ : Tt) (x : Nat) : Nat → Nat
  | 0 => 0
  | i + 1 => hailS τ x i + hailK (hailT τ x i i) x 12
theorem hailT_6 (τ : Tt) (x : Nat) : ∀ i, i ≤ 6 → hailT τ x i 6 = τ 6
  | 0, _ => rfl
  | i + 1, h => by rw [hailT, upH_n (by omega), hailT_6 τ x i (by omega)]
theorem hailK_le (V : Vt) (x : Nat) : ∀ k, hailK V x k ≤ 8 * k
  | 0 => by simp [hailK]
  | k + 1 => by
    have := hailK_le V x k
    have := pcnt_le (went (hailC V x k) k x)
    unfold hailK
    omega
theorem hailS_le (τ : Tt) (x : Nat) : ∀ i, hailS τ x i ≤ 96 * i
  | 0 => by simp [hailS]
  | i + 1 => by
    have := hailS_le τ x i
    have := hailK_le (hailT τ x i i) x 12
    unfold hailS
    omega
theorem hi_hail {V : Vt} (hV : HI V) (x : Nat) : ∀ k, k ≤ 12 → HI (hailC V x k)
  | 0, _ => hV
  | k + 1, h => by
    have ih := hi_hail hV x k (by omega)
    exact hi_gone ih (or_lt8 (hi_go ih (by omega)) (went_lt ih k x))
def fallTo (τ : Tt) : Nat → Tt
  | 0 => τ
  | i + 1 => if fallTo τ i 6 0 1 < skin (fallTo τ i i) then upS (upH (fallTo τ i) i (clearV (fallTo τ i i))) 0 4 (fallTo τ i 6 0 4 + 1) else fallTo τ i
def fallB (τ : Tt) : Nat → Nat
  | 0 => 0
  | i + 1 => if fallTo τ i 6 0 1 < skin (fallTo τ i i) then fallB τ i ||| 2 ^ i else fallB τ i
theorem fallB_lt (τ : Tt) : ∀ i, fallB τ i < 2 ^ i
  | 0 => by simp [fallB]
  | i + 1 => by
    have ih := fallB_lt τ i
    have h2 : 2 ^ (i + 1) = 2 ^ i * 2 := Nat.pow_succ ..
    unfold fallB
    split
    · exact Nat.or_lt_two_pow (n := i + 1) (by omega) (by omega)
    · omega
/-- all of a town's numbers but how many skins fell -/
theorem fallTo_6 (τ : Tt) : ∀ i, i ≤ 6 → ∀ j k, ¬ (j = 0 ∧ k = 4) → fallTo τ i 6 j k = τ 6 j k
  | 0, _, _, _, _ => rfl
  | i + 1, h, j, k, q => by
    have ih := fallTo_6 τ i (by omega) j k q
    unfold fallTo
    split
    · rw [upS_6, if_neg q, upH_n (by omega), ih]
    · exact ih
def sd (s : Nat) : Nat := (s * 1103515245 + 12345) % 4294967296
theorem nI_mod (x : Nat) : nI (x % 4294967296) = nI x := by
  apply Int32.toBitVec_inj.mp
  show BitVec.ofNat 32 (x % 4294967296) = BitVec.ofNat 32 x
  apply BitVec.eq_of_toNat_eq
  simp
theorem sd_n (s : Nat) : nI s * 1103515245 + nI 12345 = nI (sd s) := by
  rw [show (1103515245 : Int32) = nI 1103515245 from rfl, pk_mul, nI_add, sd, nI_mod]
theorem sd_lt (s : Nat) : sd s < 4294967296 := Nat.mod_lt _ (by decide)
def dv (s n : Nat) : Nat := sd s / 2 ^ 16 % n
theorem dv_lt {s n : Nat} (h : 0 < n) : dv s n < n := Nat.mod_lt _ h
theorem sd_sh (s : Nat) : sd s / 2 ^ 16 < 65536 := by
  have := sd_lt s
  omega
/-- behind the five draws of a year; what is painted; hail; what falls -/
def yr1 (τ : Tt) : Tt := upS τ 0 5 (sd (sd (sd (sd (sd (τ 6 0 5))))))
def yr2 (τ : Tt) : Tt :=
  if yr1 τ (dv (τ 6 0 5) (τ 6 0 0)) 0 2 < 8 then upH (yr1 τ) (dv (τ 6 0 5) (τ 6 0 0)) (putV (yr1 τ (dv (τ 6 0 5) (τ 6 0 0))) (dv (sd (τ 6 0 5)) 8) (dv (sd (sd (τ 6 0 5))) 6) (dv (sd (sd (sd (τ 6 0 5)))) 9 + 1) (dv (sd (sd (sd (sd (τ 6 0 5))))) 12) (yr1 τ 6 0 3)) else yr1 τ
def yr3 (τ : Tt) : Tt := upS (yr2 τ) 0 5 (sd (yr2 τ 6 0 5))
def yr4 (τ : Tt) : Tt := hailT (yr3 τ) (dv (yr2 τ 6 0 5) 8) (yr3 τ 6 0 0)
def yr5 (τ : Tt) : Tt := fallTo (yr4 τ) (yr4 τ 6 0 0)
def yearT (τ : Tt) : Tt := upS (yr5 τ) 0 3 (yr5 τ 6 0 3 + 1)
theorem wI_wI (μ : Mm) (o k : Nat) (v w : Int32) : wI (wI μ o k v) o k w = wI μ o k w := by
  refine Prod.ext (funext fun q => funext fun i => ?_) rfl
  simp only [wI]
  split <;> rfl
theorem ti_upS {τ : Tt} {k x : Nat} (q : TI τ) (hk : 3 ≤ k) : TI (upS τ 0 k x) := by
  have e : ∀ k', k' ≠ k → upS τ 0 k x 6 0 k' = τ 6 0 k' := fun k' h => by rw [upS_6, if_neg (fun z => h z.2)]
  have e2 : ∀ j k', j ≠ 0 → upS τ 0 k x 6 j k' = τ 6 j k' := fun j k' h => by rw [upS_6, if_neg (fun z => h z.1)]
  refine ⟨by rw [e 0 (by omega)]; exact q.1, by rw [e 1 (by omega)]; exact q.2.1, by rw [e 2 (by omega)]; exact q.2.2.1, fun c hc => by rw [e2 1 c (by decide), e2 2 c (by decide)]; exact q.2.2.2.1 c hc, fun h hh => ?_⟩
  rw [e 0 (by omega)] at hh
  have := q.1
  rw [upS_n (by omega)]
  exact q.2.2.2.2 h hh
/-- a number of the town at B changes: its field k, the number's place i -/
theorem tx_num {μ : Mm} {B : Nat} {τ : Tt} (q : TX μ B τ) (i x : Nat) (hi : 3 ≤ i) (hi5 : i ≤ 5) : TX (wI μ B (i + 4) (nI x)) B (upS τ 0 i x) := by
  have e : ∀ k', k' ≠ i → upS τ 0 i x 6 0 k' = τ 6 0 k' := fun k' h => by rw [upS_6, if_neg (fun z => h z.2)]
  have e1 : upS τ 0 i x 6 0 i = x := by rw [upS_6, if_pos ⟨rfl, rfl⟩]
  have e2 : ∀ j k', j ≠ 0 → upS τ 0 i x 6 j k' = τ 6 j k' := fun j k' h => by rw [upS_6, if_neg (fun z => h z.1)]
  have hw : ∀ k', k' ≠ i + 4 → (wI μ B (i + 4) (nI x)).1 B k' = μ.1 B k' := fun k' h => by simp [wI, h]
  have hw1 : (wI μ B (i + 4) (nI x)).1 B (i + 4) = nI x := by simp [wI]
  have hs : SameI (fun q => q = B) μ (wI μ B (i + 4) (nI x)) := SameI.wI rfl
  refine ⟨ti_upS q.1 hi, ⟨?_, ?_, ?_, ?_, ?_, ?_⟩, fun c hc => ?_, fun h hh => ?_⟩
  · rw [e 0 (by omega), hw 2 (by omega)]; exact q.2.1.1
  · rw [e 1 (by omega), hw 5 (by omega)]; exact q.2.1.2.1
  · rw [e 2 (by omega), hw 6 (by omega)]; exact q.2.1.2.2.1
  · by_cases z : i = 3
    · subst z; rw [e1]; exact hw1
    · rw [e 3 (by omega), hw 7 (by omega)]; exact q.2.1.2.2.2.1
  · by_cases z : i = 4
    · subst z; rw [e1]; exact hw1
    · rw [e 4 (by omega), hw 8 (by omega)]; exact q.2.1.2.2.2.2.1
  · by_cases z : i = 5
    · subst z; rw [e1]; exact hw1
    · rw [e 5 (by omega), hw 9 (by omega)]; exact q.2.1.2.2.2.2.2
  · rw [e2 1 c (by decide), e2 2 c (by decide), hs.1 (B + 2) (by show ¬ B + 2 = B; omega), hs.1 (B + 3) (by show ¬ B + 3 = B; omega)]
    exact q.2.2.1 c hc
  · rw [e 0 (by omega)] at hh
    have := q.1.1
    rw [upS_n (by omega)]
    refine hv_same (q.2.2.2 h hh) hs.same (fun y hy hz => ?_)
    have := hy.1
    have hz : y = B := hz
    omega
end
section
/-- x is one of 0 .. m - 1 -/
def inr (x : Int32) (m : Nat) : Bool := decide (0 ≤ x ∧ x < nI m)
theorem inr_of {x : Int32} {m : Nat} (hm : m < 2147483648) (h : inr x m = true) : ∃ j : Nat, j < m ∧ x = nI j := by
  simp only [inr, decide_eq_true_eq] at h
  obtain ⟨j, hj, rfl⟩ := nI_of (x := x) (fun q => by have := h.1; exact absurd q (Int32.not_lt.mpr this))
  exact ⟨j, (n2_lt hj hm).mp h.2, rfl⟩
theorem inr_f1 {x : Int32} {m : Nat} (h : x < 0) : inr x m = false := by
  simp only [inr, decide_eq_false_iff_not]
  exact fun q => absurd h (Int32.not_lt.mpr q.1)
theorem inr_f2 {x : Int32} {m : Nat} (h : ¬ x < nI m) : inr x m = false := by
  simp only [inr, decide_eq_false_iff_not]
  exact fun q => h q.2
theorem inr_t {x : Int32} {m : Nat} (h : ¬ x < 0) (h2 : x < nI m) : inr x m = true := by
  simp only [inr, decide_eq_true_eq]
  exact ⟨Int32.not_lt.mp h, h2⟩
theorem inr_n {a m : Nat} (ha : a < 2147483648) (hm : m < 2147483648) : inr (nI a) m = decide (a < m) := by
  have h0 : (0 : Int32) ≤ nI a := (n2_le (a := 0) (by decide) ha).mpr (Nat.zero_le _)
  simp [inr, h0, n2_lt ha hm]
set_option maxRecDepth 100000 in
set_option maxHeartbeats 4000000 in
theorem c_X11_outside {l : Launch} {δ : Dl} {b : Nat} {μ : Mm} {x : Int32} {m : Nat} : MCX l δ b yX11_outside cX11_outside 2 (some .boolean) 1 [.int x, .int (nI m)] μ (pI fun r μ' => r = bI (!inr x m) ∧ μ' = μ) := by
  refine MC.intro ([some (.int x), some (.int (nI m))]) (by decide) rfl rfl fun κ Qc hl hQ X => ?_
  subst hl
  refine AW.iload_n X dX11_outside_0 (i := 0) rfl rfl ?_
  refine AW.if_lt X (tgt := 9) dX11_outside_1 (by decide) (fun h1 => ?_) (fun h1 => ?_)
  · refine AW.iconstN X 1 dX11_outside_9 rfl ?_
    refine AW.goto X (tgt := 14) dX11_outside_10 (by decide) ?_
    refine AW.zret X rfl hQ dX11_outside_14 ⟨_, rfl, ?_⟩
    have e : inr x m = false := by first | exact inr_f1 ‹_› | exact inr_f2 ‹_› | exact inr_t ‹_› ‹_›
    exact ⟨by rw [e]; rfl, rfl⟩
  · refine AW.iload_n X dX11_outside_4 (i := 0) rfl rfl ?_
    refine AW.iload_n X dX11_outside_5 (i := 1) rfl rfl ?_
    refine AW.icmp_lt X (tgt := 13) dX11_outside_6 (by decide) (fun h6 => ?_) (fun h6 => ?_)
    · refine AW.iconstN X 0 dX11_outside_13 rfl ?_
      refine AW.zret X rfl hQ dX11_outside_14 ⟨_, rfl, ?_⟩
      have e : inr x m = true := by first | exact inr_f1 ‹_› | exact inr_f2 ‹_› | exact inr_t ‹_› ‹_›
      exact ⟨by rw [e]; rfl, rfl⟩
    · refine AW.iconstN X 1 dX11_outside_9 rfl ?_
      refine AW.goto X (tgt := 14) dX11_outside_10 (by decide) ?_
      refine AW.zret X rfl hQ dX11_outside_14 ⟨_, rfl, ?_⟩
      have e : inr x m = false := by first | exact inr_f1 ‹_› | exact inr_f2 ‹_› | exact inr_t ‹_› ‹_›
      exact ⟨by rw [e]; rfl, rfl⟩
set_option maxRecDepth 100000 in
set_option maxHeartbeats 4000000 in
theorem c_X9_draw {l : Launch} {δ : Dl} {b : Nat} {μ : Mm} {B : Nat} (hB : TA B) {s m : Nat} (hs : μ.1 B 9 = nI s) (hm : 0 < m) (hm2 : m < 100) : MCX l δ b yX9_draw cX9_draw 2 (some .int) 1 [.ref (b + B), .int (nI m)] μ (pI fun r μ' => r = nI (dv s m) ∧ μ' = wI μ B 9 (nI (sd s))) := by
  have b1 := sd_lt s
  have b2 := sd_sh s
  refine MC.intro ([some (.ref (b + B)), some (.int (nI m))]) (by decide) rfl rfl fun κ Qc hl hQ X => ?_
  subst hl
  refine AW.aload_n X dX9_draw_0 (i := 0) rfl rfl ?_
  refine AW.aload_n X dX9_draw_1 (i := 0) rfl rfl ?_
  refine AW.getI X dX9_draw_2 fX9_40 rfl (ta_ob hB) (v := (nI s)) hs ?_
  refine AW.ldci X (v := 1103515245) dX9_draw_5 kX9_114 ?_
  refine AW.imul X dX9_draw_7 ?_
  refine AW.sipushN X 12345 dX9_draw_8 rfl ?_
  refine AW.iadd X dX9_draw_11 ?_
  rw [sd_n]
  refine AW.putI X dX9_draw_12 fX9_40 rfl rfl ⟨rfl, rfl⟩ (by decide) (ta_ob hB) ?_
  refine AW.iload_n X dX9_draw_15 (i := 1) rfl rfl ?_
  refine AW.if_leN X (tgt := 31) dX9_draw_16 (by decide) (by omega) (fun h16 => ?_) (fun h16 => ?_)
  · omega
  · refine AW.aload_n X dX9_draw_19 (i := 0) rfl rfl ?_
    refine AW.getI X dX9_draw_20 fX9_40 rfl (ta_ob hB) (v := (nI (sd s))) (by simp [wI]) ?_
    refine AW.bipushN X 16 dX9_draw_23 rfl ?_
    refine AW.iushrN X dX9_draw_25 (by omega) (by decide) ?_
    refine AW.iload_n X dX9_draw_26 (i := 1) rfl rfl ?_
    refine AW.iremN X dX9_draw_27 (by omega) (by omega) (by omega) ?_
    refine AW.goto X (tgt := 32) dX9_draw_28 (by decide) ?_
    refine AW.iret X hQ dX9_draw_32 ⟨_, rfl, ?_⟩
    exact ⟨rfl, rfl⟩
set_option maxRecDepth 100000 in
set_option maxHeartbeats 4000000 in
theorem c_X9_hailOnAll {l : Launch} {δ : Dl} {b : Nat} {μ : Mm} (W : WX μ.2.2) {B : Nat} (hB : TA B) {τ : Tt} (hT : TX μ B τ) {x : Nat} (hx : x < 100) : MCX l δ b yX9_hailOnAll cX9_hailOnAll 5 (some .int) 5 [.ref (b + B), .int (nI x)] μ (pI fun r μ' => r = nI (hailS τ x (τ 6 0 0)) ∧ TX μ' B (hailT τ x (τ 6 0 0)) ∧ SameI (TR B) μ μ') := by
  have bn := ti_n hT.1
  refine MC.intro ([some (.ref (b + B)), some (.int (nI x)), none, none, none]) (by decide) rfl rfl fun κ Qc hl hQ X => ?_
  subst hl
  have L4 : ∀ (m i : Nat) (μ1 : Mm), τ 6 0 0 - i < m → i ≤ τ 6 0 0 → TX μ1 B (hailT τ x i) → SameI (TR B) μ μ1 → AW κ (δ, b, NX, 5, shX, False, Qc, 0, 0) NX 0 0 4 [some (.ref (b + B)), some (.int (nI x)), some (.int (nI (hailS τ x i))), some (.int (nI i)), none] [] μ1 := by
    intro m
    induction m with
    | zero => intro i μ1 hm; exact absurd hm (Nat.not_lt_zero _)
    | succ m ih =>
      intro i μ1 hm hi hT1 hs1
      have W1 := wx_same W hs1
      have e6 := hailT_6 τ x i (by omega)
      have b1 := hailS_le τ x i
      refine AW.iload_n X dX9_hailOnAll_4 (i := 3) rfl rfl ?_
      refine AW.aload_n X dX9_hailOnAll_5 (i := 0) rfl rfl ?_
      refine AW.getI X dX9_hailOnAll_6 fX9_17 rfl (ta_ob hB) (v := (nI (τ 6 0 0))) (by rw [tx_n hT1, e6]) ?_
      refine AW.icmp_geN X (tgt := 49) dX9_hailOnAll_9 (by decide) (by omega) (by omega) (fun h9 => ?_) (fun h9 => ?_)
      · obtain rfl : i = τ 6 0 0 := by omega
        refine AW.iload_n X dX9_hailOnAll_49 (i := 2) rfl rfl ?_
        refine AW.iret X hQ dX9_hailOnAll_50 ⟨_, rfl, ?_⟩
        exact ⟨rfl, hT1, hs1⟩
      · have L15 : ∀ (m2 k : Nat) (μ2 : Mm), 12 - k < m2 → k ≤ 12 → TX μ2 B (upH (hailT τ x i) i (hailC (hailT τ x i i) x k)) → SameI (TR B) μ μ2 → AW κ (δ, b, NX, 5, shX, False, Qc, 0, 0) NX 0 0 15 [some (.ref (b + B)), some (.int (nI x)), some (.int (nI (hailS τ x i + hailK (hailT τ x i i) x k))), some (.int (nI i)), some (.int (nI k))] [] μ2 := by
          intro m2
          induction m2 with
          | zero => intro k μ2 hm2; exact absurd hm2 (Nat.not_lt_zero _)
          | succ m2 ih2 =>
            intro k μ2 hm2 hk hT2 hs2
            have W2 := wx_same W hs2
            have b2 := hailK_le (hailT τ x i i) x k
            have hv : HV μ2 (B + 4 + 7 * i) (hailC (hailT τ x i i) x k) := by have q := tx_h hT2 (h := i) (by rw [upH_6 (by omega), e6]; omega); rwa [upH_s] at q
            refine AW.iload X dX9_hailOnAll_15 rfl ?_
            refine AW.bipushN X 12 dX9_hailOnAll_17 rfl ?_
            refine AW.icmp_geN X (tgt := 43) dX9_hailOnAll_19 (by decide) (by omega) (by omega) (fun h19 => ?_) (fun h19 => ?_)
            · obtain rfl : k = 12 := by omega
              refine AW.iincN X (c := (i + 1)) dX9_hailOnAll_43 rfl (inc_1 _) rfl ?_
              refine AW.goto X (tgt := 4) dX9_hailOnAll_46 (by decide) ?_
              have e9 : upH (hailT τ x i) i (hailC (hailT τ x i i) x 12) = hailT τ x (i + 1) := rfl
              rw [e9] at hT2
              exact AW.cgw (ih (i + 1) μ2 (by omega) (by omega) hT2 hs2) ⟨rfl, rfl, rfl, rfl, trivial⟩
            · refine AW.iload_n X dX9_hailOnAll_22 (i := 2) rfl rfl ?_
              refine AW.aload_n X dX9_hailOnAll_23 (i := 0) rfl rfl ?_
              refine AW.getR X dX9_hailOnAll_24 fX9_11 rfl (ta_ob hB) (wx_fronts W2 hB) ?_
              refine AW.iload_n X dX9_hailOnAll_27 (i := 3) rfl rfl ?_
              refine AW.aaload X (r := (B + 4 + 7 * i)) dX9_hailOnAll_28 rfl rfl (ta_f hB) (n2_in (by omega) (by decide)) (by rw [n2_clamp (by omega)]; exact wx_front W2 hB (by omega)) ?_
              refine AW.iload X dX9_hailOnAll_29 rfl ?_
              refine AW.iload_n X dX9_hailOnAll_31 (i := 1) rfl rfl ?_
              refine AW.callV X dX9_hailOnAll_32 lX9_107 cfX3 (c_X3_hailInTruth W2 (fa_of hB (by omega)) hv (by omega) hx) (fa_ob (fa_of hB (by omega))) rfl rfl rfl rfl ⟨rfl, rfl⟩ (pI_k fun r μ3 hr => ?_)
              obtain ⟨rfl, rfl⟩ := hr
              have b3 := pcnt_le (went (hailC (hailT τ x i i) x k) k x)
              refine AW.iaddN X dX9_hailOnAll_35 ?_
              refine AW.istore_n X dX9_hailOnAll_36 (i := 2) rfl rfl ?_
              refine AW.iincN X (c := (k + 1)) dX9_hailOnAll_37 rfl (inc_1 _) rfl ?_
              refine AW.goto X (tgt := 15) dX9_hailOnAll_40 (by decide) ?_
              have hv3 : HV (wI μ2 (B + 4 + 7 * i + 6) k (nI (hailC (hailT τ x i i) x k 6 k ||| went (hailC (hailT τ x i i) x k) k x))) (B + 4 + 7 * i) (hailC (hailT τ x i i) x (k + 1)) := hv_gone hv (or_lt8 (hi_go hv.1 (by omega)) (went_lt hv.1 k x))
              have s3 : SameI (FR (B + 4 + 7 * i)) μ2 (wI μ2 (B + 4 + 7 * i + 6) k (nI (hailC (hailT τ x i i) x k 6 k ||| went (hailC (hailT τ x i i) x k) k x))) := SameI.wI ⟨by omega, by omega⟩
              have hT3 := tx_house hT2 (h := i) (by omega) s3.same hv3
              rw [upH_up] at hT3
              refine AW.cg ?_ (ih2 (k + 1) _ (by omega) (by omega) hT3 (hs2.tr (s3.mono (fr_tr (by omega)))))
              simp [hailK, Nat.add_assoc]
        refine AW.iconstN X 0 dX9_hailOnAll_12 rfl ?_
        refine AW.istore X dX9_hailOnAll_13 rfl ?_
        exact L15 _ 0 μ1 (Nat.lt_succ_self _) (by omega) (by rw [hailC, upH_id]; exact hT1) hs1
  refine AW.iconstN X 0 dX9_hailOnAll_0 rfl ?_
  refine AW.istore_n X dX9_hailOnAll_1 (i := 2) rfl rfl ?_
  refine AW.iconstN X 0 dX9_hailOnAll_2 rfl ?_
  refine AW.istore_n X dX9_hailOnAll_3 (i := 3) rfl rfl ?_
  exact AW.cgw (L4 _ 0 μ (Nat.lt_succ_self _) (by omega) hT SameI.rf) ⟨rfl, rfl, rfl, rfl, trivial⟩
end
section
theorem fallTo_n {τ : Tt} {i : Nat} (hi : i ≤ 6) : fallTo τ i 6 0 0 = τ 6 0 0 := fallTo_6 τ i hi 0 0 (by decide)
set_option maxRecDepth 100000 in
set_option maxHeartbeats 4000000 in
theorem c_X9_letFall {l : Launch} {δ : Dl} {b : Nat} {μ : Mm} (W : WX μ.2.2) {B : Nat} (hB : TA B) {τ : Tt} (hT : TX μ B τ)  : MCX l δ b yX9_letFall cX9_letFall 3 (some .int) 5 [.ref (b + B)] μ (pI fun r μ' => r = nI (fallB τ (τ 6 0 0)) ∧ TX μ' B (fallTo τ (τ 6 0 0)) ∧ SameI (TR B) μ μ') := by
  have bn := ti_n hT.1
  refine MC.intro ([some (.ref (b + B)), none, none]) (by decide) rfl rfl fun κ Qc hl hQ X => ?_
  subst hl
  have L4 : ∀ (m i : Nat) (μ1 : Mm), τ 6 0 0 - i < m → i ≤ τ 6 0 0 → TX μ1 B (fallTo τ i) → SameI (TR B) μ μ1 → AW κ (δ, b, NX, 3, shX, False, Qc, 0, 0) NX 0 0 4 [some (.ref (b + B)), some (.int (nI (fallB τ i))), some (.int (nI i))] [] μ1 := by
    intro m
    induction m with
    | zero => intro i μ1 hm; exact absurd hm (Nat.not_lt_zero _)
    | succ m ih =>
      intro i μ1 hm hi hT1 hs1
      have W1 := wx_same W hs1
      have e6 : fallTo τ i 6 0 0 = τ 6 0 0 := fallTo_n (by omega)
      have b1 : fallB τ i < 64 := Nat.lt_of_lt_of_le (fallB_lt τ i) (Nat.pow_le_pow_right (n := 2) (by decide) (by omega : i ≤ 6))
      refine AW.iload_n X dX9_letFall_4 (i := 2) rfl rfl ?_
      refine AW.aload_n X dX9_letFall_5 (i := 0) rfl rfl ?_
      refine AW.getI X dX9_letFall_6 fX9_17 rfl (ta_ob hB) (v := (nI (τ 6 0 0))) (by rw [tx_n hT1, e6]) ?_
      refine AW.icmp_geN X (tgt := 59) dX9_letFall_9 (by decide) (by omega) (by omega) (fun h9 => ?_) (fun h9 => ?_)
      · obtain rfl : i = τ 6 0 0 := by omega
        refine AW.iload_n X dX9_letFall_59 (i := 1) rfl rfl ?_
        refine AW.iret X hQ dX9_letFall_60 ⟨_, rfl, ?_⟩
        exact ⟨rfl, hT1, hs1⟩
      · have hv := tx_h hT1 (h := i) (by omega)
        have b2 : skin (fallTo τ i i) ≤ 864 := skinTo_le hv.1 12
        have b3 := hT1.1.2.1.2
        refine AW.aload_n X dX9_letFall_12 (i := 0) rfl rfl ?_
        refine AW.getR X dX9_letFall_13 fX9_11 rfl (ta_ob hB) (wx_fronts W1 hB) ?_
        refine AW.iload_n X dX9_letFall_16 (i := 2) rfl rfl ?_
        refine AW.aaload X (r := (B + 4 + 7 * i)) dX9_letFall_17 rfl rfl (ta_f hB) (n2_in (by omega) (by decide)) (by rw [n2_clamp (by omega)]; exact wx_front W1 hB (by omega)) ?_
        refine AW.callV X dX9_letFall_18 lX9_110 cfX3 (c_X3_wholeSkin W1 (fa_of hB (by omega)) hv) (fa_ob (fa_of hB (by omega))) rfl rfl rfl rfl ⟨rfl, rfl⟩ (pR_k ?_)
        refine AW.aload_n X dX9_letFall_21 (i := 0) rfl rfl ?_
        refine AW.getI X dX9_letFall_22 fX9_28 rfl (ta_ob hB) (tx_lim hT1) ?_
        refine AW.icmp_leN X (tgt := 53) dX9_letFall_25 (by decide) (by omega) (by omega) (fun h25 => ?_) (fun h25 => ?_)
        · refine AW.iincN X (c := (i + 1)) dX9_letFall_53 rfl (inc_1 _) rfl ?_
          refine AW.goto X (tgt := 4) dX9_letFall_56 (by decide) ?_
          refine AW.cg ?_ (ih (i + 1) μ1 (by omega) (by omega) (by rw [fallTo, if_neg (by omega)]; exact hT1) hs1)
          rw [fallB, if_neg (by omega)]
          rfl
        · refine AW.aload_n X dX9_letFall_28 (i := 0) rfl rfl ?_
          refine AW.getR X dX9_letFall_29 fX9_11 rfl (ta_ob hB) (wx_fronts W1 hB) ?_
          refine AW.iload_n X dX9_letFall_32 (i := 2) rfl rfl ?_
          refine AW.aaload X (r := (B + 4 + 7 * i)) dX9_letFall_33 rfl rfl (ta_f hB) (n2_in (by omega) (by decide)) (by rw [n2_clamp (by omega)]; exact wx_front W1 hB (by omega)) ?_
          refine AW.callV X dX9_letFall_34 lX9_64 cfX3 (c_X3_clear W1 (fa_of hB (by omega))) (fa_ob (fa_of hB (by omega))) rfl rfl rfl rfl ⟨rfl, rfl⟩ (pV_k fun μ2 hr => ?_)
          subst hr
          have s2 : SameI (FR (B + 4 + 7 * i)) μ1 (clrM μ1 (B + 4 + 7 * i) 12) := clr_same _ _ _
          have hT2 := tx_house hT1 (h := i) (by omega) s2.same (hv_clear hv)
          refine AW.iload_n X dX9_letFall_37 (i := 1) rfl rfl ?_
          refine AW.iconstN X 1 dX9_letFall_38 rfl ?_
          refine AW.iload_n X dX9_letFall_39 (i := 2) rfl rfl ?_
          refine AW.shl1 X dX9_letFall_40 (by omega) ?_
          refine AW.iorN X dX9_letFall_41 ?_
          refine AW.istore_n X dX9_letFall_42 (i := 1) rfl rfl ?_
          refine AW.aload_n X dX9_letFall_43 (i := 0) rfl rfl ?_
          refine AW.dup X dX9_letFall_44 rfl ?_
          refine AW.getI X dX9_letFall_45 fX9_37 rfl (ta_ob hB) (v := (nI (fallTo τ i 6 0 4))) (by rw [tx_fal hT2, upH_n (by omega)]) ?_
          refine AW.iconstN X 1 dX9_letFall_48 rfl ?_
          refine AW.iaddN X dX9_letFall_49 ?_
          refine AW.putI X dX9_letFall_50 fX9_37 rfl rfl ⟨rfl, rfl⟩ (by decide) (ta_ob hB) ?_
          refine AW.iincN X (c := (i + 1)) dX9_letFall_53 rfl (inc_1 _) rfl ?_
          refine AW.goto X (tgt := 4) dX9_letFall_56 (by decide) ?_
          refine AW.cg ?_ (ih (i + 1) _ (by omega) (by omega) (by rw [fallTo, if_pos (by omega)]; exact tx_num hT2 4 _ (by decide) (by decide)) ((hs1.tr (s2.mono (fr_tr (by omega)))).tr (SameI.wI ⟨by omega, by omega⟩)))
          rw [fallB, if_pos (by omega)]
          rfl
  refine AW.iconstN X 0 dX9_letFall_0 rfl ?_
  refine AW.istore_n X dX9_letFall_1 (i := 1) rfl rfl ?_
  refine AW.iconstN X 0 dX9_letFall_2 rfl ?_
  refine AW.istore_n X dX9_letFall_3 (i := 2) rfl rfl ?_
  exact AW.cgw (L4 _ 0 μ (Nat.lt_succ_self _) (by omega) hT SameI.rf) ⟨rfl, rfl, rfl, trivial⟩
def newV (k a : Nat) : Vt := fun j i => if j = 0 ∧ i = 0 then k else if j = 0 ∧ i = 1 then a else 0
def buildT (τ : Tt) (k a : Nat) : Tt := fun h => if h = 6 then upV (τ 6) 0 0 (τ 6 0 0 + 1) else upH τ (τ 6 0 0) (newV k a) h
theorem hi_new {k a : Nat} (hk : k < 7) (ha : a ≤ 9) : HI (newV k a) := ⟨hk, ha, Nat.zero_le _, fun c hc => absurd hc (Nat.not_lt_zero c), fun k _ => (by decide : (0 : Nat) < 256)⟩
theorem tx_build {μ μ' : Mm} {B k a : Nat} {τ : Tt} (hT : TX μ B τ) (hk : k < 7) (ha : a ≤ 9) (hn : τ 6 0 0 < 6) (hs : Same (fun q => q = B ∨ FR (B + 4 + 7 * τ 6 0 0) q) μ μ') (hB : ∀ i, i ≠ 2 → μ'.1 B i = μ.1 B i) (h2 : μ'.1 B 2 = nI (τ 6 0 0 + 1)) (hv : HV μ' (B + 4 + 7 * τ 6 0 0) (newV k a)) : TX μ' B (buildT τ k a) := by
  have e6 : ∀ j i, ¬ (j = 0 ∧ i = 0) → buildT τ k a 6 j i = τ 6 j i := fun j i q => by simp only [buildT, upV, if_true, if_neg q]
  have e0 : buildT τ k a 6 0 0 = τ 6 0 0 + 1 := by simp [buildT, upV]
  have eh : ∀ h, h < 6 → buildT τ k a h = upH τ (τ 6 0 0) (newV k a) h := fun h q => if_neg (by omega)
  have ht : ∀ j, j = 2 ∨ j = 3 → μ'.1 (B + j) = μ.1 (B + j) := fun j hj => (hs.1 (B + j) (fun z => by rcases z with z | z; omega; have := z.1; omega)).1
  have hI : TI (buildT τ k a) := by
    refine ⟨by rw [e0]; omega, by rw [e6 0 1 (by decide)]; exact hT.1.2.1, by rw [e6 0 2 (by decide)]; exact hT.1.2.2.1, fun c hc => by rw [e6 1 c (by simp), e6 2 c (by simp)]; exact hT.1.2.2.2.1 c hc, fun h hh => ?_⟩
    rw [e0] at hh
    rw [eh h (by omega)]
    by_cases z : h = τ 6 0 0
    · rw [z, upH_s]; exact hi_new hk ha
    · rw [upH_n z]; exact hT.1.2.2.2.2 h (by omega)
  refine ⟨hI, ⟨by rw [e0]; exact h2, by rw [e6 0 1 (by decide), hB 5 (by decide)]; exact tx_lim hT, by rw [e6 0 2 (by decide), hB 6 (by decide)]; exact tx_wid hT, by rw [e6 0 3 (by decide), hB 7 (by decide)]; exact tx_yr hT, by rw [e6 0 4 (by decide), hB 8 (by decide)]; exact tx_fal hT, by rw [e6 0 5 (by decide), hB 9 (by decide)]; exact tx_seed hT⟩, fun c hc => ?_, fun h hh => ?_⟩
  · rw [ht 2 (Or.inl rfl), ht 3 (Or.inr rfl), e6 1 c (by simp), e6 2 c (by simp)]
    exact hT.2.2.1 c hc
  · rw [e0] at hh
    rw [eh h (by omega)]
    by_cases z : h = τ 6 0 0
    · rw [z, upH_s]; exact hv
    · rw [upH_n z]
      refine hv_same (hT.2.2.2 h (by omega)) hs (fun q hq hz => ?_)
      obtain ⟨q1, q2⟩ := hq
      rcases hz with hz | hz
      · omega
      · obtain ⟨q3, q4⟩ := hz
        omega
def bldM (μ : Mm) (B o n k a : Nat) : Mm := wI (wI (wI (wR (clrM μ o 12) o 0 (some (19 + k))) o 1 (nI k)) o 2 (nI a)) B 2 (nI (n + 1))
theorem bld_same (μ : Mm) (B o n k a : Nat) : Same (fun q => q = B ∨ FR o q) μ (bldM μ B o n k a) := by
  have h0 : FR o o := ⟨by omega, by omega⟩
  exact (((((clr_same μ o 12).same.mono (fun q h => Or.inr h)).tr (Same.wR (Or.inr h0))).tr (SameI.wI (Or.inr h0)).same).tr (SameI.wI (Or.inr h0)).same).tr (SameI.wI (Or.inl rfl)).same
theorem bld_hv {μ : Mm} {B o n k a : Nat} (hk : k < 7) (ha : a ≤ 9) (hne : o ≠ B) (hne6 : o + 6 ≠ B) : HV (bldM μ B o n k a) o (newV k a) := by
  refine ⟨hi_new hk ha, ?_, ?_, ?_, ?_, fun c hc => absurd hc (Nat.not_lt_zero c), fun i hi => ?_⟩
  · simp [bldM, wI, wR, newV]
  · simp [bldM, wI, wR, newV, hne]
  · simp [bldM, wI, wR, newV, hne]
  · simp [bldM, wI, wR, newV, hne, clrM]
  · simp [bldM, wI, wR, newV, hne6, clrM, hi]
set_option maxRecDepth 100000 in
set_option maxHeartbeats 4000000 in
theorem c_X9_build {l : Launch} {δ : Dl} {b : Nat} {μ : Mm} (W : WX μ.2.2) {B : Nat} (hB : TA B) {τ : Tt} (hT : TX μ B τ) {k a : Nat} (hk : k < 7) (ha : a ≤ 9) (hn : τ 6 0 0 < 6) : MCX l δ b yX9_build cX9_build 4 (some .int) 2 [.ref (b + B), .int (nI k), .int (nI a)] μ (pI fun r μ' => r = nI (τ 6 0 0) ∧ TX μ' B (buildT τ k a) ∧ Same (TR B) μ μ' ∧ WX μ'.2.2) := by
  refine MC.intro ([some (.ref (b + B)), some (.int (nI k)), some (.int (nI a)), none]) (by decide) rfl rfl fun κ Qc hl hQ X => ?_
  subst hl
  have hF := fa_of (h := τ 6 0 0) hB (by omega)
  have hoB : (B + 4 + 7 * τ 6 0 0) ≠ B := by omega
  have W1 : WX (wR (clrM μ (B + 4 + 7 * τ 6 0 0) 12) (B + 4 + 7 * τ 6 0 0) 0 (some (19 + k))).2.2 := wx_wR (r := clrM μ (B + 4 + 7 * τ 6 0 0) 12) W hF
  refine AW.aload_n X dX9_build_0 (i := 0) rfl rfl ?_
  refine AW.getI X dX9_build_1 fX9_17 rfl (ta_ob hB) (tx_n hT) ?_
  refine AW.bipushN X 6 dX9_build_4 rfl ?_
  refine AW.icmp_geN X (tgt := 18) dX9_build_6 (by decide) (by omega) (by omega) (fun h6 => ?_) (fun h6 => ?_)
  · omega
  · refine AW.iload_n X dX9_build_9 (i := 1) rfl rfl ?_
    refine AW.bipushN X 7 dX9_build_10 rfl ?_
    refine AW.callSN X dX9_build_12 lX9_60 (c_X11_outside) rfl rfl rfl rfl ⟨rfl, rfl⟩ (pR_k ?_)
    refine AW.if_eqB X (tgt := 20) dX9_build_15 (by decide) (fun h15 => ?_) (fun h15 => ?_)
    · simp only [Bool.not_eq_true', Bool.not_eq_false'] at h15
      refine AW.aload_n X dX9_build_20 (i := 0) rfl rfl ?_
      refine AW.getR X dX9_build_21 fX9_11 rfl (ta_ob hB) (wx_fronts W hB) ?_
      refine AW.aload_n X dX9_build_24 (i := 0) rfl rfl ?_
      refine AW.getI X dX9_build_25 fX9_17 rfl (ta_ob hB) (v := (nI (τ 6 0 0))) (tx_n hT) ?_
      refine AW.aaload X (r := (B + 4 + 7 * τ 6 0 0)) dX9_build_28 rfl rfl (ta_f hB) (n2_in (by omega) (by decide)) (by rw [n2_clamp (by omega)]; exact wx_front W hB (by omega)) ?_
      refine AW.astore_n X dX9_build_29 (i := 3) rfl rfl ?_
      refine AW.aload_n X dX9_build_30 (i := 3) rfl rfl ?_
      refine AW.callV X dX9_build_31 lX9_64 cfX3 (c_X3_clear W hF) (fa_ob hF) rfl rfl rfl rfl ⟨rfl, rfl⟩ (pV_k fun μ2 hr => ?_)
      subst hr
      refine AW.aload_n X dX9_build_34 (i := 3) rfl rfl ?_
      refine AW.aload_n X dX9_build_35 (i := 0) rfl rfl ?_
      refine AW.getR X dX9_build_36 fX9_43 rfl (ta_ob hB) (wx_kinds W hB) ?_
      refine AW.iload_n X dX9_build_39 (i := 1) rfl rfl ?_
      refine AW.aaload X (r := (19 + k)) dX9_build_40 rfl rfl ax18 (n2_in (by omega) (by decide)) (by rw [n2_clamp (by omega)]; exact wx_kind W hk) ?_
      refine AW.putR X dX9_build_41 fX9_67 rfl rfl (by decide) (fa_ob hF) ?_
      refine AW.aload_n X dX9_build_44 (i := 3) rfl rfl ?_
      refine AW.iload_n X dX9_build_45 (i := 1) rfl rfl ?_
      refine AW.putI X dX9_build_46 fX9_71 rfl rfl ⟨rfl, rfl⟩ (by decide) (fa_ob hF) ?_
      refine AW.aload_n X dX9_build_49 (i := 3) rfl rfl ?_
      refine AW.iload_n X dX9_build_50 (i := 2) rfl rfl ?_
      refine AW.putI X dX9_build_51 fX9_74 rfl rfl ⟨rfl, rfl⟩ (by decide) (fa_ob hF) ?_
      refine AW.aload_n X dX9_build_54 (i := 0) rfl rfl ?_
      refine AW.dup X dX9_build_55 rfl ?_
      refine AW.getI X dX9_build_56 fX9_17 rfl (ta_ob hB) (v := (nI (τ 6 0 0))) (by simp [wI, wR, clrM, Ne.symm hoB, show ¬ B = (B + 4 + 7 * τ 6 0 0) + 6 by omega]; exact tx_n hT) ?_
      refine AW.iconstN X 1 dX9_build_59 rfl ?_
      refine AW.iaddN X dX9_build_60 ?_
      refine AW.putI X dX9_build_61 fX9_17 rfl rfl ⟨rfl, rfl⟩ (by decide) (ta_ob hB) ?_
      refine AW.aload_n X dX9_build_64 (i := 0) rfl rfl ?_
      refine AW.getI X dX9_build_65 fX9_17 rfl (ta_ob hB) (v := (nI (τ 6 0 0 + 1))) (by simp [wI]) ?_
      refine AW.iconstN X 1 dX9_build_68 rfl ?_
      refine AW.isubN X dX9_build_69 (by omega) ?_
      refine AW.iret X hQ dX9_build_70 ⟨_, rfl, ?_⟩
      refine ⟨congrArg nI (by omega), ?_, bld_same μ B _ _ k a |>.mono ?_, W1⟩
      · exact tx_build hT hk ha hn (bld_same μ B _ _ k a) (fun i hi => by simp [bldM, wI, wR, clrM, hi, Ne.symm hoB, show ¬ B = (B + 4 + 7 * τ 6 0 0) + 6 by omega]) (by simp [bldM, wI]) (bld_hv hk ha hoB (by omega))
      · rintro q (rfl | h)
        · exact ⟨by omega, by omega⟩
        · exact fr_tr (by omega) q h
    · simp only [Bool.not_eq_true', Bool.not_eq_false'] at h15
      (rw [inr_n (by omega) (by decide)] at h15; simp [hk] at h15)
end
section
set_option maxRecDepth 100000 in
set_option maxHeartbeats 4000000 in
theorem c_X9_passYear {l : Launch} {δ : Dl} {b : Nat} {μ : Mm} (W : WX μ.2.2) {B : Nat} (hB : TA B) {τ : Tt} (hT : TX μ B τ) (hn : 0 < τ 6 0 0) : MCX l δ b yX9_passYear cX9_passYear 6 none 6 [.ref (b + B)] μ (pV fun μ' => TX μ' B (yearT τ) ∧ SameI (TR B) μ μ') := by
  have bn := ti_n hT.1
  refine MC.intro ([some (.ref (b + B)), none, none, none, none, none]) (by decide) rfl rfl fun κ Qc hl hQ X => ?_
  subst hl
  have hT5 : TX (wI μ B 9 (nI (sd (sd (sd (sd (sd (τ 6 0 5)))))))) B (yr1 τ) := tx_num hT 5 _ (by decide) (by decide)
  have hh : (dv (τ 6 0 5) (τ 6 0 0)) < τ 6 0 0 := dv_lt hn
  have t1 := dv_lt (s := (sd (τ 6 0 5))) (n := 8) (by decide)
  have t2 := dv_lt (s := (sd (sd (τ 6 0 5)))) (n := 6) (by decide)
  have t3 := dv_lt (s := (sd (sd (sd (τ 6 0 5))))) (n := 9) (by decide)
  have t4 := dv_lt (s := (sd (sd (sd (sd (τ 6 0 5)))))) (n := 12) (by decide)
  have e1 : yr1 τ (dv (τ 6 0 5) (τ 6 0 0)) = τ (dv (τ 6 0 5) (τ 6 0 0)) := upS_n (by omega)
  have hv := tx_h hT5 (h := (dv (τ 6 0 5) (τ 6 0 0))) (by show _ < τ 6 0 0; omega)
  have h8 := hi_n hv.1
  refine AW.aload_n X dX9_passYear_0 (i := 0) rfl rfl ?_
  refine AW.aload_n X dX9_passYear_1 (i := 0) rfl rfl ?_
  refine AW.getI X dX9_passYear_2 fX9_17 rfl (ta_ob hB) (v := (nI (τ 6 0 0))) (tx_n hT) ?_
  refine AW.callV X dX9_passYear_5 lX9_115 cfX9 (c_X9_draw (μ := μ) (s := (τ 6 0 5)) (m := (τ 6 0 0)) hB (tx_seed hT) (by omega) (by omega)) (ta_ob hB) rfl rfl rfl rfl ⟨rfl, rfl⟩ (pI_k fun r0 μ1 hr0 => ?_)
  obtain ⟨rfl, rfl⟩ := hr0
  refine AW.istore_n X dX9_passYear_8 (i := 1) rfl rfl ?_
  refine AW.aload_n X dX9_passYear_9 (i := 0) rfl rfl ?_
  refine AW.bipushN X 8 dX9_passYear_10 rfl ?_
  refine AW.callV X dX9_passYear_12 lX9_115 cfX9 (c_X9_draw (μ := (wI μ B 9 (nI (sd (τ 6 0 5))))) (s := (sd (τ 6 0 5))) (m := 8) hB (by simp [wI]) (by omega) (by omega)) (ta_ob hB) rfl rfl rfl rfl ⟨rfl, rfl⟩ (pI_k fun r1 μ2 hr1 => ?_)
  obtain ⟨rfl, rfl⟩ := hr1
  rw [wI_wI]
  refine AW.istore_n X dX9_passYear_15 (i := 2) rfl rfl ?_
  refine AW.aload_n X dX9_passYear_16 (i := 0) rfl rfl ?_
  refine AW.bipushN X 6 dX9_passYear_17 rfl ?_
  refine AW.callV X dX9_passYear_19 lX9_115 cfX9 (c_X9_draw (μ := (wI μ B 9 (nI (sd (sd (τ 6 0 5)))))) (s := (sd (sd (τ 6 0 5)))) (m := 6) hB (by simp [wI]) (by omega) (by omega)) (ta_ob hB) rfl rfl rfl rfl ⟨rfl, rfl⟩ (pI_k fun r2 μ3 hr2 => ?_)
  obtain ⟨rfl, rfl⟩ := hr2
  rw [wI_wI]
  refine AW.istore_n X dX9_passYear_22 (i := 3) rfl rfl ?_
  refine AW.aload_n X dX9_passYear_23 (i := 0) rfl rfl ?_
  refine AW.bipushN X 9 dX9_passYear_24 rfl ?_
  refine AW.callV X dX9_passYear_26 lX9_115 cfX9 (c_X9_draw (μ := (wI μ B 9 (nI (sd (sd (sd (τ 6 0 5))))))) (s := (sd (sd (sd (τ 6 0 5))))) (m := 9) hB (by simp [wI]) (by omega) (by omega)) (ta_ob hB) rfl rfl rfl rfl ⟨rfl, rfl⟩ (pI_k fun r3 μ4 hr3 => ?_)
  obtain ⟨rfl, rfl⟩ := hr3
  rw [wI_wI]
  refine AW.iconstN X 1 dX9_passYear_29 rfl ?_
  refine AW.iaddN X dX9_passYear_30 ?_
  refine AW.istore X dX9_passYear_31 rfl ?_
  refine AW.aload_n X dX9_passYear_33 (i := 0) rfl rfl ?_
  refine AW.bipushN X 12 dX9_passYear_34 rfl ?_
  refine AW.callV X dX9_passYear_36 lX9_115 cfX9 (c_X9_draw (μ := (wI μ B 9 (nI (sd (sd (sd (sd (τ 6 0 5)))))))) (s := (sd (sd (sd (sd (τ 6 0 5)))))) (m := 12) hB (by simp [wI]) (by omega) (by omega)) (ta_ob hB) rfl rfl rfl rfl ⟨rfl, rfl⟩ (pI_k fun r4 μ5 hr4 => ?_)
  obtain ⟨rfl, rfl⟩ := hr4
  rw [wI_wI]
  refine AW.istore X dX9_passYear_39 rfl ?_
  refine AW.iload_n X dX9_passYear_41 (i := 1) rfl rfl ?_
  refine AW.aload_n X dX9_passYear_42 (i := 0) rfl rfl ?_
  refine AW.getI X dX9_passYear_43 fX9_17 rfl (ta_ob hB) (v := (nI (τ 6 0 0))) (by simp [wI, tx_n hT]) ?_
  refine AW.icmp_geN X (tgt := 69) dX9_passYear_46 (by decide) (by omega) (by omega) (fun h46 => ?_) (fun h46 => ?_)
  · omega
  · refine AW.aload_n X dX9_passYear_49 (i := 0) rfl rfl ?_
    refine AW.getR X dX9_passYear_50 fX9_11 rfl (ta_ob hB) (wx_fronts W hB) ?_
    refine AW.iload_n X dX9_passYear_53 (i := 1) rfl rfl ?_
    refine AW.aaload X (r := (B + 4 + 7 * (dv (τ 6 0 5) (τ 6 0 0)))) dX9_passYear_54 rfl rfl (ta_f hB) (n2_in (by omega) (by decide)) (by rw [n2_clamp (by omega)]; exact wx_front W hB (by omega)) ?_
    refine AW.iload_n X dX9_passYear_55 (i := 2) rfl rfl ?_
    refine AW.iload_n X dX9_passYear_56 (i := 3) rfl rfl ?_
    refine AW.iload X dX9_passYear_57 rfl ?_
    refine AW.iload X dX9_passYear_59 rfl ?_
    refine AW.aload_n X dX9_passYear_61 (i := 0) rfl rfl ?_
    refine AW.getI X dX9_passYear_62 fX9_34 rfl (ta_ob hB) (v := (nI (yr1 τ 6 0 3))) (tx_yr hT5) ?_
    rcases Nat.lt_or_ge (yr1 τ (dv (τ 6 0 5) (τ 6 0 0)) 0 2) 8 with q8 | q8
    · refine AW.callV X dX9_passYear_65 lX9_118 cfX3 (c_X3_putOn (μ := (wI μ B 9 (nI (sd (sd (sd (sd (sd (τ 6 0 5))))))))) W (fa_of hB (by omega)) hv (by omega)) (fa_ob (fa_of hB (by omega))) rfl rfl rfl rfl ⟨rfl, rfl⟩ (pI_k fun rp μp hp => ?_)
      obtain ⟨rfl, rfl⟩ := hp
      have e2 : yr2 τ = upH (yr1 τ) (dv (τ 6 0 5) (τ 6 0 0)) (putV (yr1 τ (dv (τ 6 0 5) (τ 6 0 0))) (dv (sd (τ 6 0 5)) 8) (dv (sd (sd (τ 6 0 5))) 6) (dv (sd (sd (sd (τ 6 0 5)))) 9 + 1) (dv (sd (sd (sd (sd (τ 6 0 5))))) 12) (yr1 τ 6 0 3)) := if_pos q8
      have hT6 : TX (putM (wI μ B 9 (nI (sd (sd (sd (sd (sd (τ 6 0 5)))))))) (B + 4 + 7 * (dv (τ 6 0 5) (τ 6 0 0))) (yr1 τ (dv (τ 6 0 5) (τ 6 0 0)) 0 2) (dv (sd (τ 6 0 5)) 8) (dv (sd (sd (τ 6 0 5))) 6) (dv (sd (sd (sd (τ 6 0 5)))) 9 + 1) (dv (sd (sd (sd (sd (τ 6 0 5))))) 12) (yr1 τ 6 0 3)) B (yr2 τ) := by rw [e2]; exact tx_house hT5 (by omega) (put_same _ _ _ _ _ _ _ _).same (hv_put _ hv q8 t1 t2 (by omega) (by omega) t4)
      have s6 : SameI (TR B) μ (putM (wI μ B 9 (nI (sd (sd (sd (sd (sd (τ 6 0 5)))))))) (B + 4 + 7 * (dv (τ 6 0 5) (τ 6 0 0))) (yr1 τ (dv (τ 6 0 5) (τ 6 0 0)) 0 2) (dv (sd (τ 6 0 5)) 8) (dv (sd (sd (τ 6 0 5))) 6) (dv (sd (sd (sd (τ 6 0 5)))) 9 + 1) (dv (sd (sd (sd (sd (τ 6 0 5))))) 12) (yr1 τ 6 0 3)) := (SameI.wI ⟨by omega, by omega⟩).tr ((put_same _ _ _ _ _ _ _ _).mono (fr_tr (by omega)))
      generalize (putM (wI μ B 9 (nI (sd (sd (sd (sd (sd (τ 6 0 5)))))))) (B + 4 + 7 * (dv (τ 6 0 5) (τ 6 0 0))) (yr1 τ (dv (τ 6 0 5) (τ 6 0 0)) 0 2) (dv (sd (τ 6 0 5)) 8) (dv (sd (sd (τ 6 0 5))) 6) (dv (sd (sd (sd (τ 6 0 5)))) 9 + 1) (dv (sd (sd (sd (sd (τ 6 0 5))))) 12) (yr1 τ 6 0 3)) = μ6 at hT6 s6 ⊢
      refine AW.pop X dX9_passYear_68 rfl ?_
      refine AW.aload_n X dX9_passYear_69 (i := 0) rfl rfl ?_
      refine AW.aload_n X dX9_passYear_70 (i := 0) rfl rfl ?_
      refine AW.bipushN X 8 dX9_passYear_71 rfl ?_
      refine AW.callV X dX9_passYear_73 lX9_115 cfX9 (c_X9_draw (μ := μ6) (s := yr2 τ 6 0 5) (m := 8) hB (tx_seed hT6) (by decide) (by decide)) (ta_ob hB) rfl rfl rfl rfl ⟨rfl, rfl⟩ (pI_k fun r7 μ7 hr7 => ?_)
      obtain ⟨rfl, rfl⟩ := hr7
      have hT7 : TX (wI μ6 B 9 (nI (sd (yr2 τ 6 0 5)))) B (yr3 τ) := tx_num hT6 5 _ (by decide) (by decide)
      have s7 : SameI (TR B) μ (wI μ6 B 9 (nI (sd (yr2 τ 6 0 5)))) := s6.tr (SameI.wI ⟨by omega, by omega⟩)
      have t5 := dv_lt (s := yr2 τ 6 0 5) (n := 8) (by decide)
      generalize (wI μ6 B 9 (nI (sd (yr2 τ 6 0 5)))) = μ7 at hT7 s7 ⊢
      refine AW.callV X dX9_passYear_76 lX9_122 cfX9 (c_X9_hailOnAll (wx_same W s7) hB hT7 (by omega)) (ta_ob hB) rfl rfl rfl rfl ⟨rfl, rfl⟩ (pI_k fun r8 μ8 hr8 => ?_)
      obtain ⟨rfl, hT8, s8⟩ := hr8
      replace hT8 : TX μ8 B (yr4 τ) := hT8
      replace s8 := s7.tr s8
      refine AW.pop X dX9_passYear_79 rfl ?_
      refine AW.aload_n X dX9_passYear_80 (i := 0) rfl rfl ?_
      refine AW.callV X dX9_passYear_81 lX9_125 cfX9 (c_X9_letFall (wx_same W s8) hB hT8) (ta_ob hB) rfl rfl rfl rfl ⟨rfl, rfl⟩ (pI_k fun r9 μ9 hr9 => ?_)
      obtain ⟨rfl, hT9, s9⟩ := hr9
      replace hT9 : TX μ9 B (yr5 τ) := hT9
      replace s9 := s8.tr s9
      refine AW.pop X dX9_passYear_84 rfl ?_
      refine AW.aload_n X dX9_passYear_85 (i := 0) rfl rfl ?_
      refine AW.dup X dX9_passYear_86 rfl ?_
      refine AW.getI X dX9_passYear_87 fX9_34 rfl (ta_ob hB) (v := (nI (yr5 τ 6 0 3))) (tx_yr hT9) ?_
      refine AW.iconstN X 1 dX9_passYear_90 rfl ?_
      refine AW.iaddN X dX9_passYear_91 ?_
      refine AW.putI X dX9_passYear_92 fX9_34 rfl rfl ⟨rfl, rfl⟩ (by decide) (ta_ob hB) ?_
      refine AW.vret X hQ dX9_passYear_95 ⟨rfl, ?_⟩
      exact ⟨tx_num hT9 3 _ (by decide) (by decide), s9.tr (SameI.wI ⟨by omega, by omega⟩)⟩
    · refine AW.callV X dX9_passYear_65 lX9_118 cfX3 (c_X3_putOn_full (μ := (wI μ B 9 (nI (sd (sd (sd (sd (sd (τ 6 0 5))))))))) W (fa_of hB (by omega)) hv (by omega)) (fa_ob (fa_of hB (by omega))) rfl rfl rfl rfl ⟨rfl, rfl⟩ (pI_k fun rp μp hp => ?_)
      obtain ⟨rfl, rfl⟩ := hp
      have e2 : yr2 τ = yr1 τ := if_neg (by omega)
      have hT6 : TX (wI μ B 9 (nI (sd (sd (sd (sd (sd (τ 6 0 5)))))))) B (yr2 τ) := by rw [e2]; exact hT5
      have s6 : SameI (TR B) μ (wI μ B 9 (nI (sd (sd (sd (sd (sd (τ 6 0 5)))))))) := SameI.wI ⟨by omega, by omega⟩
      generalize (wI μ B 9 (nI (sd (sd (sd (sd (sd (τ 6 0 5)))))))) = μ6 at hT6 s6 ⊢
      refine AW.pop X dX9_passYear_68 rfl ?_
      refine AW.aload_n X dX9_passYear_69 (i := 0) rfl rfl ?_
      refine AW.aload_n X dX9_passYear_70 (i := 0) rfl rfl ?_
      refine AW.bipushN X 8 dX9_passYear_71 rfl ?_
      refine AW.callV X dX9_passYear_73 lX9_115 cfX9 (c_X9_draw (μ := μ6) (s := yr2 τ 6 0 5) (m := 8) hB (tx_seed hT6) (by decide) (by decide)) (ta_ob hB) rfl rfl rfl rfl ⟨rfl, rfl⟩ (pI_k fun r7 μ7 hr7 => ?_)
      obtain ⟨rfl, rfl⟩ := hr7
      have hT7 : TX (wI μ6 B 9 (nI (sd (yr2 τ 6 0 5)))) B (yr3 τ) := tx_num hT6 5 _ (by decide) (by decide)
      have s7 : SameI (TR B) μ (wI μ6 B 9 (nI (sd (yr2 τ 6 0 5)))) := s6.tr (SameI.wI ⟨by omega, by omega⟩)
      have t5 := dv_lt (s := yr2 τ 6 0 5) (n := 8) (by decide)
      generalize (wI μ6 B 9 (nI (sd (yr2 τ 6 0 5)))) = μ7 at hT7 s7 ⊢
      refine AW.callV X dX9_passYear_76 lX9_122 cfX9 (c_X9_hailOnAll (wx_same W s7) hB hT7 (by omega)) (ta_ob hB) rfl rfl rfl rfl ⟨rfl, rfl⟩ (pI_k fun r8 μ8 hr8 => ?_)
      obtain ⟨rfl, hT8, s8⟩ := hr8
      replace hT8 : TX μ8 B (yr4 τ) := hT8
      replace s8 := s7.tr s8
      refine AW.pop X dX9_passYear_79 rfl ?_
      refine AW.aload_n X dX9_passYear_80 (i := 0) rfl rfl ?_
      refine AW.callV X dX9_passYear_81 lX9_125 cfX9 (c_X9_letFall (wx_same W s8) hB hT8) (ta_ob hB) rfl rfl rfl rfl ⟨rfl, rfl⟩ (pI_k fun r9 μ9 hr9 => ?_)
      obtain ⟨rfl, hT9, s9⟩ := hr9
      replace hT9 : TX μ9 B (yr5 τ) := hT9
      replace s9 := s8.tr s9
      refine AW.pop X dX9_passYear_84 rfl ?_
      refine AW.aload_n X dX9_passYear_85 (i := 0) rfl rfl ?_
      refine AW.dup X dX9_passYear_86 rfl ?_
      refine AW.getI X dX9_passYear_87 fX9_34 rfl (ta_ob hB) (v := (nI (yr5 τ 6 0 3))) (tx_yr hT9) ?_
      refine AW.iconstN X 1 dX9_passYear_90 rfl ?_
      refine AW.iaddN X dX9_passYear_91 ?_
      refine AW.putI X dX9_passYear_92 fX9_34 rfl rfl ⟨rfl, rfl⟩ (by decide) (ta_ob hB) ?_
      refine AW.vret X hQ dX9_passYear_95 ⟨rfl, ?_⟩
      exact ⟨tx_num hT9 3 _ (by decide) (by decide), s9.tr (SameI.wI ⟨by omega, by omega⟩)⟩
theorem ta_far {B B2 : Nat} (h : TA B) (h2 : TA B2) (hne : B ≠ B2) : B + 46 ≤ B2 ∨ B2 + 46 ≤ B := by
  rcases h with rfl | rfl | rfl <;> rcases h2 with rfl | rfl | rfl <;> omega
theorem tr_apart {B B2 : Nat} (h : B + 46 ≤ B2 ∨ B2 + 46 ≤ B) : ∀ x, TR B2 x → ¬ TR B x := fun x hx hy => by
  obtain ⟨h1, h2⟩ := hx
  obtain ⟨h3, h4⟩ := hy
  omega
theorem wx_bc {μ : Mm} {o o2 kd : Nat} (W : WX μ.2.2) (hF : FA o) : WX (bcM μ o o2 kd).2.2 := wx_wR W hF
theorem bec_end {μ μ1 : Mm} {B B2 : Nat} {τ : Tt} (hI : TI τ) (hT1 : TX μ1 B2 τ) (hs1 : Same (TR B) μ μ1) (W1 : WX μ1.2.2) (hn1 : μ1.1 B 2 = nI (τ 6 0 0)) (hh1 : ∀ h, h < τ 6 0 0 → HV μ1 (B + 4 + 7 * h) (τ h)) (far : B + 46 ≤ B2 ∨ B2 + 46 ≤ B) :
    TX (wI (wI (wI (wI (wI (cpI (cpI μ1 (B2 + 2) (B + 2) 0 0 6) (B2 + 3) (B + 3) 0 0 6) B 5 (nI (τ 6 0 1))) B 6 (nI (τ 6 0 2))) B 7 (nI (τ 6 0 3))) B 8 (nI (τ 6 0 4))) B 9 (nI (τ 6 0 5))) B τ ∧ Same (TR B) μ (wI (wI (wI (wI (wI (cpI (cpI μ1 (B2 + 2) (B + 2) 0 0 6) (B2 + 3) (B + 3) 0 0 6) B 5 (nI (τ 6 0 1))) B 6 (nI (τ 6 0 2))) B 7 (nI (τ 6 0 3))) B 8 (nI (τ 6 0 4))) B 9 (nI (τ 6 0 5))) ∧ WX (wI (wI (wI (wI (wI (cpI (cpI μ1 (B2 + 2) (B + 2) 0 0 6) (B2 + 3) (B + 3) 0 0 6) B 5 (nI (τ 6 0 1))) B 6 (nI (τ 6 0 2))) B 7 (nI (τ 6 0 3))) B 8 (nI (τ 6 0 4))) B 9 (nI (τ 6 0 5))).2.2 := by
  have t : ∀ j, j < 46 → TR B (B + j) := fun j hj => ⟨by omega, by omega⟩
  have t0 : TR B B := t 0 (by omega)
  have s : SameI (fun q => q = B ∨ q = B + 2 ∨ q = B + 3) μ1 (wI (wI (wI (wI (wI (cpI (cpI μ1 (B2 + 2) (B + 2) 0 0 6) (B2 + 3) (B + 3) 0 0 6) B 5 (nI (τ 6 0 1))) B 6 (nI (τ 6 0 2))) B 7 (nI (τ 6 0 3))) B 8 (nI (τ 6 0 4))) B 9 (nI (τ 6 0 5))) :=
    ((((((SameI.cpI (Or.inr (Or.inl rfl))).tr (SameI.cpI (Or.inr (Or.inr rfl)))).tr (SameI.wI (Or.inl rfl))).tr (SameI.wI (Or.inl rfl))).tr (SameI.wI (Or.inl rfl))).tr (SameI.wI (Or.inl rfl))).tr (SameI.wI (Or.inl rfl))
  refine ⟨⟨hI, ⟨?_, ?_, ?_, ?_, ?_, ?_⟩, fun c hc => ?_, fun h hh => ?_⟩, hs1.tr (s.same.mono ?_), W1⟩
  · simpa [wI, cpI] using hn1
  · simp [wI]
  · simp [wI]
  · simp [wI]
  · simp [wI]
  · simp [wI]
  · have h1 := hT1.2.2.1 c hc
    simp [wI, cpI, va_cpy, hc, show ¬ B2 + 3 = B + 2 by omega]
    exact h1
  · refine hv_same (hh1 h hh) s.same (fun q hq hz => ?_)
    have := hq.1
    rcases hz with hz | hz | hz <;> omega
  · rintro q (rfl | rfl | rfl)
    · exact t0
    · exact t 2 (by omega)
    · exact t 3 (by omega)
set_option maxRecDepth 100000 in
set_option maxHeartbeats 4000000 in
theorem c_X9_become {l : Launch} {δ : Dl} {b : Nat} {μ : Mm} (W : WX μ.2.2) {B B2 : Nat} (hB : TA B) (hB2 : TA B2) {τ : Tt} (hT : TX μ B2 τ) (hne : B ≠ B2) : MCX l δ b yX9_become cX9_become 3 none 2 [.ref (b + B), .ref (b + B2)] μ (pV fun μ' => TX μ' B τ ∧ Same (TR B) μ μ' ∧ WX μ'.2.2) := by
  have bn := ti_n hT.1
  refine MC.intro ([some (.ref (b + B)), some (.ref (b + B2)), none]) (by decide) rfl rfl fun κ Qc hl hQ X => ?_
  subst hl
  have far := ta_far hB hB2 hne
  have L10 : ∀ (m i : Nat) (μ1 : Mm), τ 6 0 0 - i < m → i ≤ τ 6 0 0 → Same (TR B) μ μ1 → WX μ1.2.2 → μ1.1 B 2 = nI (τ 6 0 0) → (∀ h, h < i → HV μ1 (B + 4 + 7 * h) (τ h)) → AW κ (δ, b, NX, 3, shX, False, Qc, 0, 0) NX 0 0 10 [some (.ref (b + B)), some (.ref (b + B2)), some (.int (nI i))] [] μ1 := by
    intro m
    induction m with
    | zero => intro i μ1 hm; exact absurd hm (Nat.not_lt_zero _)
    | succ m ih =>
      intro i μ1 hm hi hs1 W1 hn1 hh1
      have hT1 := tx_same hT hs1 (tr_apart (by omega))
      refine AW.iload_n X dX9_become_10 (i := 2) rfl rfl ?_
      refine AW.aload_n X dX9_become_11 (i := 0) rfl rfl ?_
      refine AW.getI X dX9_become_12 fX9_17 rfl (ta_ob hB) (v := (nI (τ 6 0 0))) hn1 ?_
      refine AW.icmp_geN X (tgt := 39) dX9_become_15 (by decide) (by omega) (by omega) (fun h15 => ?_) (fun h15 => ?_)
      · obtain rfl : i = τ 6 0 0 := by omega
        refine AW.aload_n X dX9_become_39 (i := 1) rfl rfl ?_
        refine AW.getR X dX9_become_40 fX9_21 rfl (ta_ob hB2) (wx_hides W1 hB2) ?_
        refine AW.iconstN X 0 dX9_become_43 rfl ?_
        refine AW.aload_n X dX9_become_44 (i := 0) rfl rfl ?_
        refine AW.getR X dX9_become_45 fX9_21 rfl (ta_ob hB) (wx_hides W1 hB) ?_
        refine AW.iconstN X 0 dX9_become_48 rfl ?_
        refine AW.bipushN X 6 dX9_become_49 rfl ?_
        refine AW.acopyI X dX9_become_51 lX9_copy (ta_h hB2) (ta_h hB) (by omega) (by omega) (by decide) (by decide) ⟨rfl, rfl⟩ ?_
        refine AW.aload_n X dX9_become_54 (i := 1) rfl rfl ?_
        refine AW.getR X dX9_become_55 fX9_25 rfl (ta_ob hB2) (wx_costs W1 hB2) ?_
        refine AW.iconstN X 0 dX9_become_58 rfl ?_
        refine AW.aload_n X dX9_become_59 (i := 0) rfl rfl ?_
        refine AW.getR X dX9_become_60 fX9_25 rfl (ta_ob hB) (wx_costs W1 hB) ?_
        refine AW.iconstN X 0 dX9_become_63 rfl ?_
        refine AW.bipushN X 6 dX9_become_64 rfl ?_
        refine AW.acopyI X dX9_become_66 lX9_copy (ta_c hB2) (ta_c hB) (by omega) (by omega) (by decide) (by decide) ⟨rfl, rfl⟩ ?_
        refine AW.aload_n X dX9_become_69 (i := 0) rfl rfl ?_
        refine AW.aload_n X dX9_become_70 (i := 1) rfl rfl ?_
        refine AW.getI X dX9_become_71 fX9_28 rfl (ta_ob hB2) (v := (nI (τ 6 0 1))) (by simp [wI, cpI, show ¬ B2 = B by omega, show ¬ B2 = B + 2 by omega, show ¬ B2 = B + 3 by omega]; exact tx_lim hT1) ?_
        refine AW.putI X dX9_become_74 fX9_28 rfl rfl ⟨rfl, rfl⟩ (by decide) (ta_ob hB) ?_
        refine AW.aload_n X dX9_become_77 (i := 0) rfl rfl ?_
        refine AW.aload_n X dX9_become_78 (i := 1) rfl rfl ?_
        refine AW.getI X dX9_become_79 fX9_31 rfl (ta_ob hB2) (v := (nI (τ 6 0 2))) (by simp [wI, cpI, show ¬ B2 = B by omega, show ¬ B2 = B + 2 by omega, show ¬ B2 = B + 3 by omega]; exact tx_wid hT1) ?_
        refine AW.putI X dX9_become_82 fX9_31 rfl rfl ⟨rfl, rfl⟩ (by decide) (ta_ob hB) ?_
        refine AW.aload_n X dX9_become_85 (i := 0) rfl rfl ?_
        refine AW.aload_n X dX9_become_86 (i := 1) rfl rfl ?_
        refine AW.getI X dX9_become_87 fX9_34 rfl (ta_ob hB2) (v := (nI (τ 6 0 3))) (by simp [wI, cpI, show ¬ B2 = B by omega, show ¬ B2 = B + 2 by omega, show ¬ B2 = B + 3 by omega]; exact tx_yr hT1) ?_
        refine AW.putI X dX9_become_90 fX9_34 rfl rfl ⟨rfl, rfl⟩ (by decide) (ta_ob hB) ?_
        refine AW.aload_n X dX9_become_93 (i := 0) rfl rfl ?_
        refine AW.aload_n X dX9_become_94 (i := 1) rfl rfl ?_
        refine AW.getI X dX9_become_95 fX9_37 rfl (ta_ob hB2) (v := (nI (τ 6 0 4))) (by simp [wI, cpI, show ¬ B2 = B by omega, show ¬ B2 = B + 2 by omega, show ¬ B2 = B + 3 by omega]; exact tx_fal hT1) ?_
        refine AW.putI X dX9_become_98 fX9_37 rfl rfl ⟨rfl, rfl⟩ (by decide) (ta_ob hB) ?_
        refine AW.aload_n X dX9_become_101 (i := 0) rfl rfl ?_
        refine AW.aload_n X dX9_become_102 (i := 1) rfl rfl ?_
        refine AW.getI X dX9_become_103 fX9_40 rfl (ta_ob hB2) (v := (nI (τ 6 0 5))) (by simp [wI, cpI, show ¬ B2 = B by omega, show ¬ B2 = B + 2 by omega, show ¬ B2 = B + 3 by omega]; exact tx_seed hT1) ?_
        refine AW.putI X dX9_become_106 fX9_40 rfl rfl ⟨rfl, rfl⟩ (by decide) (ta_ob hB) ?_
        refine AW.vret X hQ dX9_become_109 ⟨rfl, ?_⟩
        exact bec_end hT1.1 hT1 hs1 W1 hn1 hh1 (by omega)
      · refine AW.aload_n X dX9_become_18 (i := 0) rfl rfl ?_
        refine AW.getR X dX9_become_19 fX9_11 rfl (ta_ob hB) (wx_fronts W1 hB) ?_
        refine AW.iload_n X dX9_become_22 (i := 2) rfl rfl ?_
        refine AW.aaload X (r := (B + 4 + 7 * i)) dX9_become_23 rfl rfl (ta_f hB) (n2_in (by omega) (by decide)) (by rw [n2_clamp (by omega)]; exact wx_front W1 hB (by omega)) ?_
        refine AW.aload_n X dX9_become_24 (i := 1) rfl rfl ?_
        refine AW.getR X dX9_become_25 fX9_11 rfl (ta_ob hB2) (wx_fronts W1 hB2) ?_
        refine AW.iload_n X dX9_become_28 (i := 2) rfl rfl ?_
        refine AW.aaload X (r := (B2 + 4 + 7 * i)) dX9_become_29 rfl rfl (ta_f hB2) (n2_in (by omega) (by decide)) (by rw [n2_clamp (by omega)]; exact wx_front W1 hB2 (by omega)) ?_
        refine AW.callV X dX9_become_30 lX9_50 cfX3 (c_X3_become W1 (fa_of hB (by omega)) (fa_of hB2 (by omega)) (tx_h hT1 (h := i) (by omega)) (by omega)) (fa_ob (fa_of hB (by omega))) rfl rfl rfl rfl ⟨rfl, rfl⟩ (pV_k fun μ2 hr => ?_)
        subst hr
        refine AW.iincN X (c := (i + 1)) dX9_become_33 rfl (inc_1 _) rfl ?_
        refine AW.goto X (tgt := 10) dX9_become_36 (by decide) ?_
        have s2 := bc_same μ1 (B + 4 + 7 * i) (B2 + 4 + 7 * i) (19 + τ i 0 0)
        refine ih (i + 1) (bcM μ1 (B + 4 + 7 * i) (B2 + 4 + 7 * i) (19 + τ i 0 0)) (by omega) (by omega) (hs1.tr (s2.mono (fr_tr (by omega)))) (wx_bc W1 (fa_of hB (by omega))) ?_ ?_
        · rw [(s2.1 B (fun z => by have := z.1; omega)).1]; exact hn1
        · intro h hh
          by_cases z : h = i
          · subst z; exact hv_bc (by omega) (tx_h hT1 (by omega))
          · refine hv_same (hh1 h (by omega)) s2 (fun q hq hz => ?_)
            obtain ⟨q1, q2⟩ := hq
            obtain ⟨q3, q4⟩ := hz
            omega
  refine AW.aload_n X dX9_become_0 (i := 0) rfl rfl ?_
  refine AW.aload_n X dX9_become_1 (i := 1) rfl rfl ?_
  refine AW.getI X dX9_become_2 fX9_17 rfl (ta_ob hB2) (tx_n hT) ?_
  refine AW.putI X dX9_become_5 fX9_17 rfl rfl ⟨rfl, rfl⟩ (by decide) (ta_ob hB) ?_
  refine AW.iconstN X 0 dX9_become_8 rfl ?_
  refine AW.istore_n X dX9_become_9 (i := 2) rfl rfl ?_
  have s0 : SameI (TR B) μ (wI μ B 2 (nI (τ 6 0 0))) := SameI.wI ⟨by omega, by omega⟩
  exact AW.cgw (L10 _ 0 _ (Nat.lt_succ_self _) (by omega) s0.same W (by simp [wI]) (fun h hh => absurd hh (Nat.not_lt_zero h))) ⟨rfl, rfl, rfl, trivial⟩
end
section
/-! the whole state, for both sides: the town now, the image's, numbers, elements.
numbers: 0: what the shelves hold (0 nothing, 1 + a house, 101 + a row's sort); 1: the rows' sizes; 2: refusals; 3: 0 the fault + 1, 1 whether there is an image, 2 how many bodies ran; 4: the bodies kept -/
abbrev St : Type := Tt × Tt × (Nat → Nat → Nat) × (Nat → Nat → Int64)
abbrev kk (S : St) (j k : Nat) : Nat := S.2.2.1 j k
def kU (S : St) (j k x : Nat) : St := (S.1, S.2.1, upV S.2.2.1 j k x, S.2.2.2)
def tU (S : St) (τ : Tt) : St := (τ, S.2)
def eU (S : St) (s : Nat) (f : Nat → Int64) : St := (S.1, S.2.1, S.2.2.1, fun s' => if s' = s then f else S.2.2.2 s')
def SI (S : St) : Prop := TI S.1 ∧ (kk S 3 1 = 1 → TI S.2.1) ∧ (∀ s, s < 8 → kk S 0 s = 0 ∨ (1 ≤ kk S 0 s ∧ kk S 0 s ≤ S.1 6 0 0) ∨ (101 ≤ kk S 0 s ∧ kk S 0 s ≤ 104)) ∧ (∀ s, s < 8 → kk S 1 s ≤ 160) ∧ (kk S 3 1 = 0 ∨ kk S 3 1 = 1) ∧ kk S 3 2 < 1000
/-- what the class keeps beside its towns -/
def SX (μ : Mm) (S : St) : Prop := (∀ s, s < 8 → μ.1 1 s = dn (kk S 0 s) ∧ μ.1 2 s = nI (kk S 1 s)) ∧ (∀ i, i < 8 → μ.1 12 i = nI (kk S 2 i)) ∧ μ.1 0 10 = nI (kk S 3 1) ∧ μ.1 0 12 = dn (kk S 3 0) ∧ μ.1 16 2 = nI (kk S 3 2) ∧ (∀ i, i < 20 → i < kk S 3 2 → μ.1 17 i = nI (kk S 4 i)) ∧ ∀ s, s < 8 → ∀ i, i < kk S 1 s → μ.2.1 (4 + s) i = S.2.2.2 s i
def two (B Bd : Nat) : Prop := (B = 26 ∧ Bd = 72) ∨ (B = 72 ∧ Bd = 26)
def RX (μ : Mm) (S : St) : Prop := SI S ∧ WX μ.2.2 ∧ (∃ B Bd, two B Bd ∧ μ.2.2 0 7 = some B ∧ μ.2.2 0 8 = some Bd ∧ TX μ B S.1) ∧ (kk S 3 1 = 1 → TX μ 118 S.2.1) ∧ SX μ S
theorem two_ta {B Bd : Nat} (h : two B Bd) : TA B ∧ TA Bd ∧ B ≠ Bd ∧ B ≠ 118 ∧ Bd ≠ 118 ∧ 26 ≤ B ∧ 26 ≤ Bd ∧ B ≤ 72 ∧ Bd ≤ 72 := by
  rcases h with ⟨rfl, rfl⟩ | ⟨rfl, rfl⟩
  · exact ⟨Or.inl rfl, Or.inr (Or.inl rfl), by decide, by decide, by decide, by decide, by decide, by decide, by decide⟩
  · exact ⟨Or.inr (Or.inl rfl), Or.inl rfl, by decide, by decide, by decide, by decide, by decide, by decide, by decide⟩
theorem kk_kU (S : St) (j k x j' k' : Nat) : kk (kU S j k x) j' k' = if j' = j ∧ k' = k then x else kk S j' k' := rfl
theorem sx_same {P : Nat → Prop} {μ μ' : Mm} {S : St} (h : SX μ S) (hs : Same P μ μ') (hP : ∀ q, q < 26 → ¬ P q) : SX μ' S := by
  have e : ∀ q, q < 26 → μ'.1 q = μ.1 q := fun q hq => (hs.1 q (hP q hq)).1
  obtain ⟨h1, h2, h3, h4, h5, h6, h7⟩ := h
  refine ⟨fun s hs8 => by rw [e 1 (by decide), e 2 (by decide)]; exact h1 s hs8, fun i hi => by rw [e 12 (by decide)]; exact h2 i hi, by rw [e 0 (by decide)]; exact h3, by rw [e 0 (by decide)]; exact h4, by rw [e 16 (by decide)]; exact h5, fun i hi hr => by rw [e 17 (by decide)]; exact h6 i hi hr, fun s hs8 i hi => by rw [hs.2]; exact h7 s hs8 i hi⟩
/-- the town now becomes another -/
theorem rx_town {μ μ' : Mm} {S : St} {B Bd : Nat} {τ' : Tt} (h : RX μ S) (h2 : two B Bd) (hB : μ.2.2 0 7 = some B) (hBd : μ.2.2 0 8 = some Bd) (hs : Same (TR B) μ μ') (W : WX μ'.2.2) (hT : TX μ' B τ') (hn : S.1 6 0 0 ≤ τ' 6 0 0) : RX μ' (tU S τ') := by
  obtain ⟨⟨i1, i2, i3, i4, i5, i6⟩, -, -, h4, h5⟩ := h
  have ta := two_ta h2
  have r0 : μ'.2.2 0 = μ.2.2 0 := (hs.1 0 (fun z => by have := z.1; omega)).2
  refine ⟨⟨hT.1, i2, fun s hs8 => ?_, i4, i5, i6⟩, W, ⟨B, Bd, h2, by rw [r0]; exact hB, by rw [r0]; exact hBd, hT⟩, fun hi => tx_same (h4 hi) hs (tr_apart (by omega)), sx_same h5 hs (fun q hq z => by have := z.1; omega)⟩
  rcases i3 s hs8 with q | q | q
  · exact Or.inl q
  · exact Or.inr (Or.inl ⟨q.1, Nat.le_trans q.2 hn⟩)
  · exact Or.inr (Or.inr q)
theorem rx_small {μ μ' : Mm} {S S' : St} (h : RX μ S) (hs : SameI (fun q => q < 26) μ μ') (h1 : S'.1 = S.1) (h2 : S'.2.1 = S.2.1) (hi : SI S') (h31 : kk S' 3 1 = kk S 3 1) (hx : SX μ' S') : RX μ' S' := by
  obtain ⟨-, W, ⟨B, Bd, tb, hB, hBd, hT⟩, h4, -⟩ := h
  have ta := two_ta tb
  refine ⟨hi, wx_same W hs, ⟨B, Bd, tb, by rw [hs.2]; exact hB, by rw [hs.2]; exact hBd, by rw [h1]; exact tx_same hT hs.same (fun q z y => by have := z.1; omega)⟩, fun hi2 => ?_, hx⟩
  rw [h2]
  exact tx_same (h4 (h31 ▸ hi2)) hs.same (fun q z y => by have := z.1; omega)
theorem rx_ref {μ : Mm} {S : St} {k : Nat} (h : RX μ S) (hk : k < 8) : RX (wI μ 12 k (nI (kk S 2 k + 1))) (kU S 2 k (kk S 2 k + 1)) := by
  have hi := h.1
  have hx := h.2.2.2.2
  refine rx_small h (SameI.wI (by decide)) rfl rfl hi rfl ?_
  refine ⟨hx.1, fun i hi8 => ?_, hx.2.2.1, hx.2.2.2.1, hx.2.2.2.2.1, hx.2.2.2.2.2.1, hx.2.2.2.2.2.2⟩
  rw [kk_kU]
  by_cases q : i = k
  · subst q; simp [wI]
  · simp only [wI, q, and_false, if_false]; exact hx.2.1 i hi8
section RXS
variable {μ : Mm} {S : St}
theorem rx_i (h : RX μ S) : SI S := h.1
theorem rx_w (h : RX μ S) : WX μ.2.2 := h.2.1
theorem rx_held (h : RX μ S) {s : Nat} (hs : s < 8) : μ.1 1 s = dn (kk S 0 s) := (h.2.2.2.2.1 s hs).1
theorem rx_size (h : RX μ S) {s : Nat} (hs : s < 8) : μ.1 2 s = nI (kk S 1 s) := (h.2.2.2.2.1 s hs).2
theorem rx_refu (h : RX μ S) {s : Nat} (hs : s < 8) : μ.1 12 s = nI (kk S 2 s) := h.2.2.2.2.2.1 s hs
theorem rx_imaged (h : RX μ S) : μ.1 0 10 = nI (kk S 3 1) := h.2.2.2.2.2.2.1
theorem rx_fault (h : RX μ S) : μ.1 0 12 = dn (kk S 3 0) := h.2.2.2.2.2.2.2.1
theorem rx_ran (h : RX μ S) : μ.1 16 2 = nI (kk S 3 2) := h.2.2.2.2.2.2.2.2.1
theorem rx_body (h : RX μ S) {i : Nat} (hi : i < 20) (hr : i < kk S 3 2) : μ.1 17 i = nI (kk S 4 i) := h.2.2.2.2.2.2.2.2.2.1 i hi hr
theorem rx_elem (h : RX μ S) {s i : Nat} (hs : s < 8) (hi : i < kk S 1 s) : μ.2.1 (4 + s) i = S.2.2.2 s i := h.2.2.2.2.2.2.2.2.2.2 s hs i hi
end RXS
/-- a refusal: the number, and the state with one more of it -/
def ref (S : St) (k down : Nat) : Int32 × St := (-(nI k) - nI down, kU S 2 k (kk S 2 k + 1))
theorem dn_eq {a c : Nat} (ha : a < 1000000) (hc : c < 1000000) : dn a = dn c ↔ a = c := by
  constructor
  · intro q
    have := congrArg (fun x => x + 1) q
    simp only [dn] at this
    have e : ∀ z : Nat, nI z + -1 + 1 = nI z := fun z => by
      rw [Int32.add_assoc]
      have : (-1 : Int32) + 1 = 0 := by decide
      rw [this, Int32.add_zero]
    rw [e, e] at this
    exact (n2_eq (by omega) (by omega)).mp this
  · rintro rfl; rfl
theorem dn_m1 {a : Nat} (ha : a < 1000000) : dn a = -1 ↔ a = 0 := by
  rw [← dn_0]
  exact dn_eq ha (by decide)
theorem dn_ge {a c : Nat} (ha : a < 1000000) (hc : c < 1000000) : nI c ≤ dn a ↔ c + 1 ≤ a := by
  cases a with
  | zero =>
    rw [dn_0]
    constructor
    · intro q
      have h1 : (0 : Int32) ≤ nI c := (n2_le (a := 0) (by decide) (by omega)).mpr (Nat.zero_le _)
      have h2 : (0 : Int32) ≤ -1 := Int32.le_trans h1 q
      exact absurd h2 (by decide)
    · omega
  | succ a =>
    rw [dn_s, n2_le (by omega) (by omega)]
    omega
theorem dn_lt {a c : Nat} (ha : a < 1000000) (hc : c < 1000000) : dn a < nI c ↔ a ≤ c := by
  have := dn_ge ha hc
  constructor
  · intro q
    refine Nat.le_of_not_lt (fun z => absurd q (Int32.not_lt.mpr (this.mpr z)))
  · intro q
    exact Int32.not_le.mp (fun z => by have := this.mp z; omega)
end
section
set_option maxRecDepth 100000 in
set_option maxHeartbeats 4000000 in
theorem c_X11_refuseDown {l : Launch} {δ : Dl} {b : Nat} {μ : Mm} {S : St} (hR : RX μ S) {k down : Nat} (hk : k < 8) : MCX l δ b yX11_refuseDown cX11_refuseDown 3 (some .int) 1 [.ref (b + 0), .int (nI k), .int (nI down)] μ (pI fun r μ' => r = (ref S k down).1 ∧ RX μ' (ref S k down).2) := by
  obtain ⟨B, Bd, tb, hnow, hdr, hT⟩ := hR.2.2.1
  have W := rx_w hR
  have ta := two_ta tb
  have hB := ta.1
  have hBd := ta.2.1
  have bn := ti_n hT.1
  refine MC.intro ([some (.ref (b + 0)), some (.int (nI k)), some (.int (nI down))]) (by decide) rfl rfl fun κ Qc hl hQ X => ?_
  subst hl
  refine AW.aload_n X dX11_refuseDown_0 (i := 0) rfl rfl ?_
  refine AW.getR X dX11_refuseDown_1 fX11_21 rfl ox0 (wx_refusals W) ?_
  refine AW.iload_n X dX11_refuseDown_4 (i := 1) rfl rfl ?_
  refine AW.dup2 X dX11_refuseDown_5 rfl rfl ?_
  refine AW.iaload X dX11_refuseDown_6 ax12 (n2_in (by omega) (by decide)) (v := (nI (kk S 2 k))) (by rw [n2_clamp (by omega)]; exact rx_refu hR (by omega)) ?_
  refine AW.iconstN X 1 dX11_refuseDown_7 rfl ?_
  refine AW.iaddN X dX11_refuseDown_8 ?_
  refine AW.iastore X dX11_refuseDown_9 (by decide) ax12 (n2_in (by omega) (by decide)) ?_
  rw [n2_clamp (by omega)]
  refine AW.iload_n X dX11_refuseDown_10 (i := 1) rfl rfl ?_
  refine AW.ineg X dX11_refuseDown_11 ?_
  refine AW.iload_n X dX11_refuseDown_12 (i := 2) rfl rfl ?_
  refine AW.isub X dX11_refuseDown_13 ?_
  refine AW.iret X hQ dX11_refuseDown_14 ⟨_, rfl, ?_⟩
  exact ⟨rfl, rx_ref hR hk⟩
set_option maxRecDepth 100000 in
set_option maxHeartbeats 4000000 in
theorem c_X11_refuse {l : Launch} {δ : Dl} {b : Nat} {μ : Mm} {S : St} (hR : RX μ S) {k : Nat} (hk : k < 8) : MCX l δ b yX11_refuse cX11_refuse 2 (some .int) 2 [.ref (b + 0), .int (nI k)] μ (pI fun r μ' => r = (ref S k 0).1 ∧ RX μ' (ref S k 0).2) := by
  obtain ⟨B, Bd, tb, hnow, hdr, hT⟩ := hR.2.2.1
  have W := rx_w hR
  have ta := two_ta tb
  have hB := ta.1
  have hBd := ta.2.1
  have bn := ti_n hT.1
  refine MC.intro ([some (.ref (b + 0)), some (.int (nI k))]) (by decide) rfl rfl fun κ Qc hl hQ X => ?_
  subst hl
  refine AW.aload_n X dX11_refuse_0 (i := 0) rfl rfl ?_
  refine AW.iload_n X dX11_refuse_1 (i := 1) rfl rfl ?_
  refine AW.iconstN X 0 dX11_refuse_2 rfl ?_
  refine AW.callV X dX11_refuse_3 lX11_221 cfX11 (c_X11_refuseDown hR hk) ox0 rfl rfl rfl rfl ⟨rfl, rfl⟩ (pI_k fun r μ1 hr => ?_)
  refine AW.iret X hQ dX11_refuse_6 ⟨_, rfl, ?_⟩
  exact hr
set_option maxRecDepth 100000 in
set_option maxHeartbeats 4000000 in
theorem c_X11_noHouse {l : Launch} {δ : Dl} {b : Nat} {μ : Mm} {S : St} (hR : RX μ S) {x : Int32} : MCX l δ b yX11_noHouse cX11_noHouse 2 (some .boolean) 2 [.ref (b + 0), .int x] μ (pI fun r μ' => r = bI (!inr x (S.1 6 0 0)) ∧ μ' = μ) := by
  obtain ⟨B, Bd, tb, hnow, hdr, hT⟩ := hR.2.2.1
  have W := rx_w hR
  have ta := two_ta tb
  have hB := ta.1
  have hBd := ta.2.1
  have bn := ti_n hT.1
  refine MC.intro ([some (.ref (b + 0)), some (.int x)]) (by decide) rfl rfl fun κ Qc hl hQ X => ?_
  subst hl
  refine AW.iload_n X dX11_noHouse_0 (i := 1) rfl rfl ?_
  refine AW.aload_n X dX11_noHouse_1 (i := 0) rfl rfl ?_
  refine AW.getR X dX11_noHouse_2 fX11_81 rfl ox0 hnow ?_
  refine AW.getI X dX11_noHouse_5 fX11_144 rfl (ta_ob hB) (tx_n hT) ?_
  refine AW.callS X dX11_noHouse_8 lX11_91 (c_X11_outside) rfl rfl rfl rfl ⟨rfl, rfl⟩ (pR_k ?_)
  refine AW.zret X (bI_n _) hQ dX11_noHouse_11 ⟨_, rfl, ?_⟩
  exact ⟨rfl, rfl⟩
set_option maxRecDepth 100000 in
set_option maxHeartbeats 4000000 in
theorem c_X11_noCoat {l : Launch} {δ : Dl} {b : Nat} {μ : Mm} {S : St} (hR : RX μ S) {h : Nat} {x : Int32} (hh : h < S.1 6 0 0) : MCX l δ b yX11_noCoat cX11_noCoat 3 (some .boolean) 2 [.ref (b + 0), .int (nI h), .int x] μ (pI fun r μ' => r = bI (!inr x (S.1 h 0 2)) ∧ μ' = μ) := by
  obtain ⟨B, Bd, tb, hnow, hdr, hT⟩ := hR.2.2.1
  have W := rx_w hR
  have ta := two_ta tb
  have hB := ta.1
  have hBd := ta.2.1
  have bn := ti_n hT.1
  refine MC.intro ([some (.ref (b + 0)), some (.int (nI h)), some (.int x)]) (by decide) rfl rfl fun κ Qc hl hQ X => ?_
  subst hl
  refine AW.iload_n X dX11_noCoat_0 (i := 2) rfl rfl ?_
  refine AW.aload_n X dX11_noCoat_1 (i := 0) rfl rfl ?_
  refine AW.getR X dX11_noCoat_2 fX11_81 rfl ox0 hnow ?_
  refine AW.getR X dX11_noCoat_5 fX11_126 rfl (ta_ob hB) (wx_fronts W hB) ?_
  refine AW.iload_n X dX11_noCoat_8 (i := 1) rfl rfl ?_
  refine AW.aaload X (r := (B + 4 + 7 * h)) dX11_noCoat_9 rfl rfl (ta_f hB) (n2_in (by omega) (by decide)) (by rw [n2_clamp (by omega)]; exact wx_front W hB (by omega)) ?_
  refine AW.getI X dX11_noCoat_10 fX11_157 rfl (fa_ob (fa_of hB (by omega))) (hv_n (tx_h hT (by omega))) ?_
  refine AW.callS X dX11_noCoat_13 lX11_91 (c_X11_outside) rfl rfl rfl rfl ⟨rfl, rfl⟩ (pR_k ?_)
  refine AW.zret X (bI_n _) hQ dX11_noCoat_16 ⟨_, rfl, ?_⟩
  exact ⟨rfl, rfl⟩
set_option maxRecDepth 100000 in
set_option maxHeartbeats 4000000 in
theorem c_X11_holdsRow {l : Launch} {δ : Dl} {b : Nat} {μ : Mm} {S : St} (hR : RX μ S) {s : Nat} (hs : s < 8) : MCX l δ b yX11_holdsRow cX11_holdsRow 2 (some .boolean) 1 [.ref (b + 0), .int (nI s)] μ (pI fun r μ' => r = bI (decide (101 ≤ kk S 0 s)) ∧ μ' = μ) := by
  obtain ⟨B, Bd, tb, hnow, hdr, hT⟩ := hR.2.2.1
  have W := rx_w hR
  have ta := two_ta tb
  have hB := ta.1
  have hBd := ta.2.1
  have bn := ti_n hT.1
  have bk := hR.1.2.2.1 s hs
  refine MC.intro ([some (.ref (b + 0)), some (.int (nI s))]) (by decide) rfl rfl fun κ Qc hl hQ X => ?_
  subst hl
  refine AW.aload_n X dX11_holdsRow_0 (i := 0) rfl rfl ?_
  refine AW.getR X dX11_holdsRow_1 fX11_9 rfl ox0 (wx_held W) ?_
  refine AW.iload_n X dX11_holdsRow_4 (i := 1) rfl rfl ?_
  refine AW.iaload X dX11_holdsRow_5 ax1 (n2_in (by omega) (by decide)) (v := (dn (kk S 0 s))) (by rw [n2_clamp (by omega)]; exact rx_held hR (by omega)) ?_
  refine AW.bipushN X 100 dX11_holdsRow_6 rfl ?_
  refine AW.icmp_lt X (tgt := 15) dX11_holdsRow_8 (by decide) (fun h8 => ?_) (fun h8 => ?_)
  · rw [dn_lt (by omega) (by omega)] at h8
    refine AW.iconstN X 0 dX11_holdsRow_15 rfl ?_
    refine AW.zret X rfl hQ dX11_holdsRow_16 ⟨_, rfl, ?_⟩
    have e : (decide (101 ≤ kk S 0 s)) = false := by simp; omega
    exact ⟨by rw [e]; rfl, rfl⟩
  · rw [dn_lt (by omega) (by omega)] at h8
    refine AW.iconstN X 1 dX11_holdsRow_11 rfl ?_
    refine AW.goto X (tgt := 16) dX11_holdsRow_12 (by decide) ?_
    refine AW.zret X rfl hQ dX11_holdsRow_16 ⟨_, rfl, ?_⟩
    have e : (decide (101 ≤ kk S 0 s)) = true := by simp; omega
    exact ⟨by rw [e]; rfl, rfl⟩
set_option maxRecDepth 100000 in
set_option maxHeartbeats 4000000 in
theorem c_X11_holdsHouse {l : Launch} {δ : Dl} {b : Nat} {μ : Mm} {S : St} (hR : RX μ S) {s : Nat} (hs : s < 8) : MCX l δ b yX11_holdsHouse cX11_holdsHouse 2 (some .boolean) 1 [.ref (b + 0), .int (nI s)] μ (pI fun r μ' => r = bI (decide (1 ≤ kk S 0 s ∧ kk S 0 s ≤ 100)) ∧ μ' = μ) := by
  obtain ⟨B, Bd, tb, hnow, hdr, hT⟩ := hR.2.2.1
  have W := rx_w hR
  have ta := two_ta tb
  have hB := ta.1
  have hBd := ta.2.1
  have bn := ti_n hT.1
  have bk := hR.1.2.2.1 s hs
  refine MC.intro ([some (.ref (b + 0)), some (.int (nI s))]) (by decide) rfl rfl fun κ Qc hl hQ X => ?_
  subst hl
  refine AW.aload_n X dX11_holdsHouse_0 (i := 0) rfl rfl ?_
  refine AW.getR X dX11_holdsHouse_1 fX11_9 rfl ox0 (wx_held W) ?_
  refine AW.iload_n X dX11_holdsHouse_4 (i := 1) rfl rfl ?_
  refine AW.iaload X dX11_holdsHouse_5 ax1 (n2_in (by omega) (by decide)) (v := (dn (kk S 0 s))) (by rw [n2_clamp (by omega)]; exact rx_held hR (by omega)) ?_
  refine AW.iconst X (v := -1) dX11_holdsHouse_6 rfl ?_
  refine AW.icmp_eq X (tgt := 25) dX11_holdsHouse_7 (by decide) (fun h7 => ?_) (fun h7 => ?_)
  · rw [dn_m1 (by omega)] at h7
    refine AW.iconstN X 0 dX11_holdsHouse_25 rfl ?_
    refine AW.zret X rfl hQ dX11_holdsHouse_26 ⟨_, rfl, ?_⟩
    have e : (decide (1 ≤ kk S 0 s ∧ kk S 0 s ≤ 100)) = false := by simp; omega
    exact ⟨by rw [e]; rfl, rfl⟩
  · rw [dn_m1 (by omega)] at h7
    refine AW.aload_n X dX11_holdsHouse_10 (i := 0) rfl rfl ?_
    refine AW.getR X dX11_holdsHouse_11 fX11_9 rfl ox0 (wx_held W) ?_
    refine AW.iload_n X dX11_holdsHouse_14 (i := 1) rfl rfl ?_
    refine AW.iaload X dX11_holdsHouse_15 ax1 (n2_in (by omega) (by decide)) (v := (dn (kk S 0 s))) (by rw [n2_clamp (by omega)]; exact rx_held hR (by omega)) ?_
    refine AW.bipushN X 100 dX11_holdsHouse_16 rfl ?_
    refine AW.icmp_ge X (tgt := 25) dX11_holdsHouse_18 (by decide) (fun h18 => ?_) (fun h18 => ?_)
    · replace h18 := Int32.not_lt.mpr h18
      rw [dn_lt (by omega) (by omega)] at h18
      refine AW.iconstN X 0 dX11_holdsHouse_25 rfl ?_
      refine AW.zret X rfl hQ dX11_holdsHouse_26 ⟨_, rfl, ?_⟩
      have e : (decide (1 ≤ kk S 0 s ∧ kk S 0 s ≤ 100)) = false := by simp; omega
      exact ⟨by rw [e]; rfl, rfl⟩
    · replace h18 := Int32.not_le.mp h18
      rw [dn_lt (by omega) (by omega)] at h18
      refine AW.iconstN X 1 dX11_holdsHouse_21 rfl ?_
      refine AW.goto X (tgt := 26) dX11_holdsHouse_22 (by decide) ?_
      refine AW.zret X rfl hQ dX11_holdsHouse_26 ⟨_, rfl, ?_⟩
      have e : (decide (1 ≤ kk S 0 s ∧ kk S 0 s ≤ 100)) = true := by simp; omega
      exact ⟨by rw [e]; rfl, rfl⟩
/-- why shelf x holds no row: the refusal, or 0 -/
def rowT (S : St) (x : Int32) : Nat := if inr x 8 = false then 1 else if 1 ≤ kk S 0 x.toNatClampNeg ∧ kk S 0 x.toNatClampNeg ≤ 100 then 2 else if 101 ≤ kk S 0 x.toNatClampNeg then 0 else 3
theorem rowT_le (S : St) (x : Int32) : rowT S x ≤ 3 := by
  unfold rowT
  split
  · omega
  · split
    · omega
    · split <;> omega
theorem rowT_0 {S : St} {x : Int32} (h : rowT S x = 0) : ∃ s : Nat, s < 8 ∧ x = nI s ∧ 101 ≤ kk S 0 s := by
  unfold rowT at h
  split at h
  · omega
  · rename_i q
    obtain ⟨s, hs, rfl⟩ := inr_of (m := 8) (by decide) (by simpa using q)
    rw [n2_clamp (by omega)] at h
    split at h
    · omega
    · split at h
      · exact ⟨s, hs, rfl, ‹_›⟩
      · omega
set_option maxRecDepth 100000 in
set_option maxHeartbeats 4000000 in
theorem c_X11_rowTrouble {l : Launch} {δ : Dl} {b : Nat} {μ : Mm} {S : St} (hR : RX μ S) {x : Int32} : MCX l δ b yX11_rowTrouble cX11_rowTrouble 2 (some .int) 2 [.ref (b + 0), .int x] μ (pI fun r μ' => r = nI (rowT S x) ∧ μ' = μ) := by
  obtain ⟨B, Bd, tb, hnow, hdr, hT⟩ := hR.2.2.1
  have W := rx_w hR
  have ta := two_ta tb
  have hB := ta.1
  have hBd := ta.2.1
  have bn := ti_n hT.1
  refine MC.intro ([some (.ref (b + 0)), some (.int x)]) (by decide) rfl rfl fun κ Qc hl hQ X => ?_
  subst hl
  refine AW.iload_n X dX11_rowTrouble_0 (i := 1) rfl rfl ?_
  refine AW.bipushN X 8 dX11_rowTrouble_1 rfl ?_
  refine AW.callS X dX11_rowTrouble_3 lX11_91 (c_X11_outside) rfl rfl rfl rfl ⟨rfl, rfl⟩ (pR_k ?_)
  refine AW.if_eqB X (tgt := 11) dX11_rowTrouble_6 (by decide) (fun h6 => ?_) (fun h6 => ?_)
  · simp only [Bool.not_eq_true', Bool.not_eq_false'] at h6
    obtain ⟨s, hs, es⟩ := inr_of (x := x) (m := 8) (by omega) h6
    subst es
    refine AW.aload_n X dX11_rowTrouble_11 (i := 0) rfl rfl ?_
    refine AW.iload_n X dX11_rowTrouble_12 (i := 1) rfl rfl ?_
    refine AW.callV X dX11_rowTrouble_13 lX11_106 cfX11 (c_X11_holdsHouse hR (by omega)) ox0 rfl rfl rfl rfl ⟨rfl, rfl⟩ (pR_k ?_)
    refine AW.if_eqB X (tgt := 21) dX11_rowTrouble_16 (by decide) (fun h16 => ?_) (fun h16 => ?_)
    · refine AW.aload_n X dX11_rowTrouble_21 (i := 0) rfl rfl ?_
      refine AW.iload_n X dX11_rowTrouble_22 (i := 1) rfl rfl ?_
      refine AW.callV X dX11_rowTrouble_23 lX11_110 cfX11 (c_X11_holdsRow hR (by omega)) ox0 rfl rfl rfl rfl ⟨rfl, rfl⟩ (pR_k ?_)
      refine AW.if_eqB X (tgt := 33) dX11_rowTrouble_26 (by decide) (fun h26 => ?_) (fun h26 => ?_)
      · refine AW.iconstN X 3 dX11_rowTrouble_33 rfl ?_
        refine AW.iret X hQ dX11_rowTrouble_34 ⟨_, rfl, ?_⟩
        refine ⟨congrArg nI ?_, rfl⟩
        first | (rw [rowT, if_pos h6]; done) | (simp only [rowT, n2_clamp (show s < 2147483648 by omega), decide_eq_true_eq, decide_eq_false_iff_not] at *; rw [if_neg (by simp [h6])]; first | (rw [if_pos (by omega)]; done) | (rw [if_neg (by omega), if_pos (by omega)]; done) | (rw [if_neg (by omega), if_neg (by omega)]))
      · refine AW.iconstN X 0 dX11_rowTrouble_29 rfl ?_
        refine AW.goto X (tgt := 34) dX11_rowTrouble_30 (by decide) ?_
        refine AW.iret X hQ dX11_rowTrouble_34 ⟨_, rfl, ?_⟩
        refine ⟨congrArg nI ?_, rfl⟩
        first | (rw [rowT, if_pos h6]; done) | (simp only [rowT, n2_clamp (show s < 2147483648 by omega), decide_eq_true_eq, decide_eq_false_iff_not] at *; rw [if_neg (by simp [h6])]; first | (rw [if_pos (by omega)]; done) | (rw [if_neg (by omega), if_pos (by omega)]; done) | (rw [if_neg (by omega), if_neg (by omega)]))
    · refine AW.iconstN X 2 dX11_rowTrouble_19 rfl ?_
      refine AW.iret X hQ dX11_rowTrouble_20 ⟨_, rfl, ?_⟩
      refine ⟨congrArg nI ?_, rfl⟩
      first | (rw [rowT, if_pos h6]; done) | (simp only [rowT, n2_clamp (show s < 2147483648 by omega), decide_eq_true_eq, decide_eq_false_iff_not] at *; rw [if_neg (by simp [h6])]; first | (rw [if_pos (by omega)]; done) | (rw [if_neg (by omega), if_pos (by omega)]; done) | (rw [if_neg (by omega), if_neg (by omega)]))
  · simp only [Bool.not_eq_true', Bool.not_eq_false'] at h6
    refine AW.iconstN X 1 dX11_rowTrouble_9 rfl ?_
    refine AW.iret X hQ dX11_rowTrouble_10 ⟨_, rfl, ?_⟩
    refine ⟨congrArg nI ?_, rfl⟩
    first | (rw [rowT, if_pos h6]; done) | (simp only [rowT, n2_clamp (show s < 2147483648 by omega), decide_eq_true_eq, decide_eq_false_iff_not] at *; rw [if_neg (by simp [h6])]; first | (rw [if_pos (by omega)]; done) | (rw [if_neg (by omega), if_pos (by omega)]; done) | (rw [if_neg (by omega), if_neg (by omega)]))
def lowB (q : Nat) (v : Int64) : Int64 := if q = 0 then v.toInt32.toInt8.toInt32.toInt64 else if q = 1 then v.toInt32.toInt16.toInt32.toInt64 else if q = 2 then v.toInt32.toInt64 else v
end
section
/-! shelves: what becomes of the state, and what each call answers -/
def cl (x : Int32) : Nat := x.toNatClampNeg
theorem cl_n {a : Nat} (h : a < 2147483648) : cl (nI a) = a := n2_clamp h
def S_row (S : St) (x q m : Int32) : Int32 × St :=
  if inr x 8 = false then ref S 1 0 else if m < 0 then ref S 4 0 else if inr q 4 = false then ref S 6 0 else if nI 160 < m then ref S 7 0
  else (nI 1, eU (kU (kU S 0 (cl x) (101 + cl q)) 1 (cl x) (cl m)) (cl x) (fun _ => 0))
def S_set (S : St) (x i : Int32) (v : Int64) : Int32 × St :=
  if rowT S x ≠ 0 then ref S (rowT S x) 0 else if inr i (kk S 1 (cl x)) = false then ref S 5 0
  else (nI 1, eU S (cl x) (fun j => if j = cl i then lowB (kk S 0 (cl x) - 101) v else S.2.2.2 (cl x) j))
def isH (S : St) (s : Nat) : Bool := decide (1 ≤ kk S 0 s ∧ kk S 0 s ≤ 100)
def isRw (S : St) (s : Nat) : Bool := decide (101 ≤ kk S 0 s)
/-- the part of m elements from x on isn't there -/
def nsp (S : St) (s : Nat) (x : Int32) (m : Nat) : Bool := decide (x < 0 ∨ kk S 1 s < m ∨ nI (kk S 1 s - m) < x)
def S_copy (S : St) (p q i j m : Int32) : Int32 × St :=
  if inr p 8 = false ∨ inr q 8 = false then ref S 1 0
  else if isH S (cl p) = true ∨ isH S (cl q) = true ∨ (isRw S (cl p) = true ∧ isRw S (cl q) = true ∧ kk S 0 (cl p) ≠ kk S 0 (cl q)) then ref S 2 0
  else if isRw S (cl p) = false ∨ isRw S (cl q) = false then ref S 3 0
  else if m < 0 then ref S 4 0
  else if nsp S (cl p) i (cl m) = true ∨ nsp S (cl q) j (cl m) = true then ref S 5 0
  else (nI 1, eU S (cl q) (va_cpy (S.2.2.2 (cl p)) (S.2.2.2 (cl q)) (cl i) (cl j) (cl m)))
def S_element (S : St) (x i : Int32) : Int64 := if rowT S x ≠ 0 ∨ inr i (kk S 1 (cl x)) = false then 0 else S.2.2.2 (cl x) (cl i)
def S_show (S : St) (x h : Int32) : Int32 × St :=
  if inr x 8 = false ∨ (h ≠ -1 ∧ inr h (S.1 6 0 0) = false) then ref S 1 0 else if h = -1 then (nI 0, kU S 0 (cl x) 0) else (nI 1, kU S 0 (cl x) (cl h + 1))
def S_holds (S : St) (x : Int32) : Int32 := if inr x 8 = false then -1 else dn (kk S 0 (cl x))
/-- is kind k the kind 'want', or one under it -/
def under (k want : Nat) : Bool := decide (want = 0 ∨ want = k ∨ (want = 1 ∧ k = 3) ∨ (want = 2 ∧ (k = 5 ∨ k = 6)))
def topStr (hd : Nat → Nat) (V : Vt) : Nat := if V 0 2 = 0 then 0 else strength hd V (V 0 2 - 1)
def saidBy (τ : Tt) (V : Vt) (k : Nat) : Nat :=
  if k = 1 then wet V 0 10 else if k = 2 then hard V 0 10 else if k = 3 then wet V 8 10 else if k = 4 then topStr (τ 6 1) V else if k = 5 then hard V 4 10 else if k = 6 then V 0 1 else skin V
def S_says (S : St) (x k : Int32) : Int32 × St :=
  if inr x 8 = false ∨ inr k 7 = false then ref S 1 0 else if isRw S (cl x) = true then ref S 2 0 else if isH S (cl x) = false then ref S 3 0
  else if under (S.1 (kk S 0 (cl x) - 1) 0 0) (cl k) = false then ref S 2 0 else (nI (saidBy S.1 (S.1 (kk S 0 (cl x) - 1)) (cl k)), S)
def zlM (μ : Mm) (o i : Nat) : Mm := (μ.1, fun q k => if q = o ∧ k < i then 0 else μ.2.1 q k, μ.2.2)
theorem zl_0 (μ : Mm) (o : Nat) : μ = zlM μ o 0 := by
  refine Prod.ext rfl (Prod.ext (funext fun q => funext fun k => ?_) rfl)
  simp [zlM]
theorem zl_s (μ : Mm) (o i : Nat) : wL (zlM μ o i) o i 0 = zlM μ o (i + 1) := by
  refine Prod.ext rfl (Prod.ext (funext fun q => funext fun k => ?_) rfl)
  simp only [wL, zlM]
  by_cases h1 : q = o
  · subst h1
    by_cases h2 : k = i
    · subst h2; simp
    · by_cases h3 : k < i
      · have : k < i + 1 := by omega
        simp [h2, h3, this]
      · have h4 : ¬ k < i + 1 := by omega
        simp [h2, h3, h4]
  · simp [h1]
/-- shelves, the class's own numbers: all towns stay -/
theorem rx_low {μ μ' : Mm} {S S' : St} (h : RX μ S) (e1 : ∀ q, 26 ≤ q → μ'.1 q = μ.1 q) (eL : ∀ q, 26 ≤ q → μ'.2.1 q = μ.2.1 q) (e2 : μ'.2.2 = μ.2.2) (h1 : S'.1 = S.1) (h2 : S'.2.1 = S.2.1) (hi : SI S') (h31 : kk S' 3 1 = kk S 3 1) (hx : SX μ' S') : RX μ' S' := by
  have m : SameI (fun q => q < 26) μ (μ'.1, μ.2) := ⟨fun q hq => e1 q (Nat.le_of_not_lt hq), rfl⟩
  obtain ⟨-, W, ⟨B, Bd, tb, hB, hBd, hT⟩, h4, -⟩ := h
  have ta := two_ta tb
  have key : ∀ {B : Nat} {τ : Tt}, 26 ≤ B → TX μ B τ → TX μ' B τ := fun {B τ} hb q => by
    have f : TX (μ'.1, μ.2) B τ := tx_same q m.same (fun x z y => by have := z.1; omega)
    refine ⟨f.1, f.2.1, f.2.2.1, fun i hi => ?_⟩
    have g := f.2.2.2 i hi
    exact ⟨g.1, by rw [e2]; exact g.2.1, g.2.2⟩
  exact ⟨hi, by rw [e2]; exact W, ⟨B, Bd, tb, by rw [e2]; exact hB, by rw [e2]; exact hBd, by rw [h1]; exact key (by omega) hT⟩, fun hi2 => by rw [h2]; exact key (by decide) (h4 (h31 ▸ hi2)), hx⟩
theorem rx_row {μ : Mm} {S : St} {s q m : Nat} (h : RX μ S) (hs : s < 8) (hq : q < 4) (hm : m ≤ 160) : RX (zlM (wI (wI μ 1 s (nI (100 + q))) 2 s (nI m)) (4 + s) m) (eU (kU (kU S 0 s (101 + q)) 1 s m) s (fun _ => 0)) := by
  obtain ⟨i1, i2, i3, i4, i5, i6⟩ := h.1
  have hx := h.2.2.2.2
  refine rx_low h (fun o ho => funext fun k => ?_) (fun o ho => funext fun k => ?_) rfl rfl rfl ⟨i1, i2, fun t ht => ?_, fun t ht => ?_, i5, i6⟩ rfl ⟨fun t ht => ?_, fun i hi => ?_, hx.2.2.1, hx.2.2.2.1, hx.2.2.2.2.1, hx.2.2.2.2.2.1, fun t ht i hi => ?_⟩
  · simp [zlM, wI, show ¬ o = 2 by omega, show ¬ o = 1 by omega]
  · simp [zlM, wI, show ¬ o = 4 + s by omega]
  · have e : kk (eU (kU (kU S 0 s (101 + q)) 1 s m) s (fun _ => 0)) 0 t = if t = s then 101 + q else kk S 0 t := by
      show kk (kU (kU S 0 s (101 + q)) 1 s m) 0 t = _
      rw [kk_kU, kk_kU]
      simp
    rw [e]
    show _ ∨ (_ ∧ _ ≤ S.1 6 0 0) ∨ _
    split
    · omega
    · exact i3 t ht
  · show kk (kU (kU S 0 s (101 + q)) 1 s m) 1 t ≤ 160
    rw [kk_kU, kk_kU]
    by_cases z : t = s
    · simpa [z] using hm
    · simpa [z] using i4 t ht
  · show (wI (wI μ 1 s (nI (100 + q))) 2 s (nI m)).1 1 t = dn (kk (kU (kU S 0 s (101 + q)) 1 s m) 0 t) ∧ (wI (wI μ 1 s (nI (100 + q))) 2 s (nI m)).1 2 t = nI (kk (kU (kU S 0 s (101 + q)) 1 s m) 1 t)
    rw [kk_kU, kk_kU, kk_kU, kk_kU]
    by_cases z : t = s
    · subst z
      have e : 101 + q = (100 + q) + 1 := by omega
      simp [wI, e, dn_s]
    · simpa [wI, z] using hx.1 t ht
  · show (wI (wI μ 1 s (nI (100 + q))) 2 s (nI m)).1 12 i = nI (kk (kU (kU S 0 s (101 + q)) 1 s m) 2 i)
    rw [kk_kU, kk_kU]
    simpa [wI] using hx.2.1 i hi
  · have hi : i < kk (kU (kU S 0 s (101 + q)) 1 s m) 1 t := hi
    rw [kk_kU, kk_kU] at hi
    by_cases z : t = s
    · subst z
      simp at hi
      simp [zlM, eU, hi]
    · simp [z] at hi
      simp [zlM, eU, z, wI, kU, show ¬ (4 + t = 4 + s) by omega]
      exact hx.2.2.2.2.2.2 t ht i hi
theorem rx_elems {μ μ' : Mm} {S : St} {s : Nat} {f : Nat → Int64} (h : RX μ S) (hs : s < 8) (e1 : μ'.1 = μ.1) (e2 : μ'.2.2 = μ.2.2) (eL : ∀ q, q ≠ 4 + s → μ'.2.1 q = μ.2.1 q) (hf : ∀ i, i < kk S 1 s → μ'.2.1 (4 + s) i = f i) : RX μ' (eU S s f) := by
  have hx := h.2.2.2.2
  refine rx_low h (fun o ho => by rw [e1]) (fun o ho => eL o (by omega)) e2 rfl rfl h.1 rfl ⟨fun t ht => by rw [e1]; exact hx.1 t ht, fun i hi => by rw [e1]; exact hx.2.1 i hi, by rw [e1]; exact hx.2.2.1, by rw [e1]; exact hx.2.2.2.1, by rw [e1]; exact hx.2.2.2.2.1, fun i hi hr => by rw [e1]; exact hx.2.2.2.2.2.1 i hi hr, fun t ht i hi => ?_⟩
  by_cases z : t = s
  · subst z
    rw [hf i hi]
    simp [eU]
  · rw [eL (4 + t) (by omega)]
    simp [eU, z]
    exact hx.2.2.2.2.2.2 t ht i hi
theorem rx_show {μ : Mm} {S : St} {s v : Nat} (h : RX μ S) (hs : s < 8) (hv : v = 0 ∨ (1 ≤ v ∧ v ≤ S.1 6 0 0)) : RX (wI μ 1 s (dn v)) (kU S 0 s v) := by
  obtain ⟨i1, i2, i3, i4, i5, i6⟩ := h.1
  have hx := h.2.2.2.2
  refine rx_small h (SameI.wI (by decide)) rfl rfl ⟨i1, i2, fun t ht => ?_, i4, i5, i6⟩ rfl ⟨fun t ht => ?_, hx.2.1, hx.2.2.1, hx.2.2.2.1, hx.2.2.2.2.1, hx.2.2.2.2.2.1, hx.2.2.2.2.2.2⟩
  · rw [kk_kU]
    by_cases z : t = s
    · simp only [z, and_self, if_true]
      rcases hv with hv | hv
      · exact Or.inl hv
      · exact Or.inr (Or.inl hv)
    · show _ ∨ (_ ∧ _ ≤ S.1 6 0 0) ∨ _
      simpa [z] using i3 t ht
  · rw [kk_kU, kk_kU]
    by_cases z : t = s
    · subst z
      have := hx.1 t ht
      simp [wI, this.2]
    · simpa [wI, z] using hx.1 t ht
end
section
section INST
variable {κ : Kt} {δ : Dl} {b n nL : Nat} {sh : Sh} {tp : Prop} {Qc : Array Value → State → Outcome → State → Prop} {mc ms d : Nat} {own nm : String} {cc : ByteArray} {ret : Option FieldType} {N cells slots pc : Nat} {ls : List (Option Value)} {st : List Value} {μ : Mm}
theorem AW.instY (X : CX κ (δ, b, n, nL, sh, tp, Qc, mc, ms) own nm cc ret d) {idx o ci : Nat} {C D : String} {T : u_T} (hd : decode cc pc = .ok (.instanceof idx, 3)) (hl : Cond.classLink own idx D ∈ TT) (hC : CF ci C T) (ho : OB sh N o ci) (hc : Cond.castable C D ∈ NW) (k : AW κ (δ, b, n, nL, sh, tp, Qc, mc, ms) N cells slots (pc + 3) ls (.int (nI 1) :: st) μ) : AW κ (δ, b, n, nL, sh, tp, Qc, mc, ms) N cells slots pc ls (.ref (b + o) :: st) μ := by
  obtain ⟨p, l, e, R, s, m, args, below, meth, c9⟩ := κ
  intro H locs lsr hP hT hS h
  exact va_instY X.1 X.2.1 X.2.2.2.1 (X.2.2.2.2.1 _ hl) (X.2.2.2.2.2.2.2.2.1.2.1 _ hc) (va_recv X.2.2.2.2.2.2.2.2.1.1 hP hC.1 (ob_get ho)) hd (k H locs lsr hP hT hS h)
theorem AW.instS (X : CX κ (δ, b, n, nL, sh, tp, Qc, mc, ms) own nm cc ret d) {idx o ci : Nat} {C : String} {T : u_T} (hd : decode cc pc = .ok (.instanceof idx, 3)) (hl : Cond.classLink own idx C ∈ TT) (hC : CF ci C T) (ho : OB sh N o ci) (k : AW κ (δ, b, n, nL, sh, tp, Qc, mc, ms) N cells slots (pc + 3) ls (.int (nI 1) :: st) μ) : AW κ (δ, b, n, nL, sh, tp, Qc, mc, ms) N cells slots pc ls (.ref (b + o) :: st) μ := by
  obtain ⟨p, l, e, R, s, m, args, below, meth, c9⟩ := κ
  intro H locs lsr hP hT hS h
  have hK := X.2.2.2.2.2.2.2.2.1.1
  have hat := (hK.1 ci _ hC.1).2
  obtain ⟨cell, r1, r2, r3⟩ := va_recv hK hP hC.1 (ob_get ho)
  exact va_instS X.1 X.2.1 X.2.2.2.1 (X.2.2.2.2.1 _ hl) hat ⟨cell, r1, r2, r3⟩ hd (k H locs lsr hP hT hS h)
theorem AW.instN (X : CX κ (δ, b, n, nL, sh, tp, Qc, mc, ms) own nm cc ret d) {idx o ci : Nat} {C D : String} {T : u_T} (hd : decode cc pc = .ok (.instanceof idx, 3)) (hl : Cond.classLink own idx D ∈ TT) (hC : CF ci C T) (ho : OB sh N o ci) (hc : (C, D) ∈ NC) (k : AW κ (δ, b, n, nL, sh, tp, Qc, mc, ms) N cells slots (pc + 3) ls (.int (nI 0) :: st) μ) : AW κ (δ, b, n, nL, sh, tp, Qc, mc, ms) N cells slots pc ls (.ref (b + o) :: st) μ := by
  obtain ⟨p, l, e, R, s, m, args, below, meth, c9⟩ := κ
  intro H locs lsr hP hT hS h
  exact va_instNo X.1 X.2.1 X.2.2.2.1 (X.2.2.2.2.1 _ hl) (X.2.2.2.2.2.2.2.2.1.2.2.1 _ hc) (va_recv X.2.2.2.2.2.2.2.2.1.1 hP hC.1 (ob_get ho)) hd (k H locs lsr hP hT hS h)
theorem pLR_k {f : Int64} (k : AW κ (δ, b, n, nL, sh, tp, Qc, mc, ms) N cells slots pc ls (.long f :: st) μ) : ∀ v μ', pL (fun r μ' => r = f ∧ μ' = μ) v μ' → AW κ (δ, b, n, nL, sh, tp, Qc, mc, ms) N cells slots pc ls (v.toList ++ st) μ' := by
  rintro v μ' ⟨r, rfl, rfl, rfl⟩
  exact k
end INST
theorem inr_out {x : Int32} {m : Nat} (hm : m < 2147483648) (h : inr x m = false) : x.toInt < 0 ∨ (m : Int) - 1 < x.toInt := by
  simp only [inr, decide_eq_false_iff_not] at h
  by_cases h0 : x < 0
  · exact Or.inl (by have := Int32.lt_iff_toInt_lt.mp h0; simpa using this)
  · refine Or.inr ?_
    have h1 : ¬ x < nI m := fun z => h ⟨Int32.not_lt.mp h0, z⟩
    have h2 := Int32.le_iff_toInt_le.mp (Int32.not_lt.mp h1)
    rw [nI_toInt hm] at h2
    omega
end
section
set_option maxRecDepth 100000 in
set_option maxHeartbeats 4000000 in
theorem c_X11_lowestBits {l : Launch} {δ : Dl} {b : Nat} {μ : Mm} {q : Nat} {v : Int64} (hq : q < 4) : MCX l δ b yX11_lowestBits cX11_lowestBits 3 (some .long) 1 [.int (nI q), .long v] μ (pL fun r μ' => r = lowB q v ∧ μ' = μ) := by
  refine MC.intro ([some (.int (nI q)), some (.long v), none]) (by decide) rfl rfl fun κ Qc hl hQ X => ?_
  subst hl
  refine AW.iload_n X dX11_lowestBits_0 (i := 0) rfl rfl ?_
  have hsw : q = 0 ∨ q = 1 ∨ q = 2 ∨ q = 3 := by omega
  rcases hsw with rfl | rfl | rfl | rfl
  · refine AW.tableIn X (tgt := 28) dX11_lowestBits_1 (by decide) (by decide) rfl (by decide) ?_
    refine AW.lload_n X dX11_lowestBits_28 (i := 1) rfl rfl ?_
    refine AW.l2i X dX11_lowestBits_29 ?_
    refine AW.i2b X dX11_lowestBits_30 ?_
    refine AW.i2l X dX11_lowestBits_31 ?_
    refine AW.lret X hQ dX11_lowestBits_32 ⟨_, rfl, ?_⟩
    exact ⟨rfl, rfl⟩
  · refine AW.tableIn X (tgt := 33) dX11_lowestBits_1 (by decide) (by decide) rfl (by decide) ?_
    refine AW.lload_n X dX11_lowestBits_33 (i := 1) rfl rfl ?_
    refine AW.l2i X dX11_lowestBits_34 ?_
    refine AW.i2s X dX11_lowestBits_35 ?_
    refine AW.i2l X dX11_lowestBits_36 ?_
    refine AW.lret X hQ dX11_lowestBits_37 ⟨_, rfl, ?_⟩
    exact ⟨rfl, rfl⟩
  · refine AW.tableIn X (tgt := 38) dX11_lowestBits_1 (by decide) (by decide) rfl (by decide) ?_
    refine AW.lload_n X dX11_lowestBits_38 (i := 1) rfl rfl ?_
    refine AW.l2i X dX11_lowestBits_39 ?_
    refine AW.i2l X dX11_lowestBits_40 ?_
    refine AW.lret X hQ dX11_lowestBits_41 ⟨_, rfl, ?_⟩
    exact ⟨rfl, rfl⟩
  · refine AW.tableOut X (tgt := 42) dX11_lowestBits_1 (by decide) (by decide) ?_
    refine AW.lload_n X dX11_lowestBits_42 (i := 1) rfl rfl ?_
    refine AW.lret X hQ dX11_lowestBits_43 ⟨_, rfl, ?_⟩
    exact ⟨rfl, rfl⟩
set_option maxRecDepth 100000 in
set_option maxHeartbeats 4000000 in
theorem c_X11_isOf {l : Launch} {δ : Dl} {b : Nat} {μ : Mm} {k w : Nat} (hk : k < 7) (hw : w < 7) : MCX l δ b yX11_isOf cX11_isOf 2 (some .boolean) 1 [.ref (b + (19 + k)), .int (nI w)] μ (pI fun r μ' => r = bI (under k w) ∧ μ' = μ) := by
  refine MC.intro ([some (.ref (b + (19 + k))), some (.int (nI w))]) (by decide) rfl rfl fun κ Qc hl hQ X => ?_
  subst hl
  refine AW.iload_n X dX11_isOf_0 (i := 1) rfl rfl ?_
  have hsw : w = 0 ∨ w = 1 ∨ w = 2 ∨ w = 3 ∨ w = 4 ∨ w = 5 ∨ w = 6 := by omega
  rcases hsw with rfl | rfl | rfl | rfl | rfl | rfl | rfl
  · refine AW.tableOut X (tgt := 70) dX11_isOf_1 (by decide) (by decide) ?_
    refine AW.iconstN X 1 dX11_isOf_70 rfl ?_
    refine AW.zret X rfl hQ dX11_isOf_71 ⟨_, rfl, ?_⟩
    exact ⟨by first | decide | (rw [show under k 0 = true by simp [under]]; rfl), rfl⟩
  · refine AW.tableIn X (tgt := 40) dX11_isOf_1 (by decide) (by decide) rfl (by decide) ?_
    refine AW.aload_n X dX11_isOf_40 (i := 0) rfl rfl ?_
    refine seven hk (fun e => ?_) (fun e => ?_) (fun e => ?_) (fun e => ?_) (fun e => ?_) (fun e => ?_) (fun e => ?_)
    · subst e
      refine AW.instN X dX11_isOf_41 clX11_58 cfX4 ox_k0 (by decide) ?_
      refine AW.zret X rfl hQ dX11_isOf_44 ⟨_, rfl, ?_⟩
      exact ⟨by first | decide | (rw [show under k 0 = true by simp [under]]; rfl), rfl⟩
    · subst e
      refine AW.instS X dX11_isOf_41 clX11_58 cfX2 ox_k1 ?_
      refine AW.zret X rfl hQ dX11_isOf_44 ⟨_, rfl, ?_⟩
      exact ⟨by first | decide | (rw [show under k 0 = true by simp [under]]; rfl), rfl⟩
    · subst e
      refine AW.instN X dX11_isOf_41 clX11_58 cfX5 ox_k2 (by decide) ?_
      refine AW.zret X rfl hQ dX11_isOf_44 ⟨_, rfl, ?_⟩
      exact ⟨by first | decide | (rw [show under k 0 = true by simp [under]]; rfl), rfl⟩
    · subst e
      refine AW.instY X dX11_isOf_41 clX11_58 cfX1 ox_k3 ca_X1_X2 ?_
      refine AW.zret X rfl hQ dX11_isOf_44 ⟨_, rfl, ?_⟩
      exact ⟨by first | decide | (rw [show under k 0 = true by simp [under]]; rfl), rfl⟩
    · subst e
      refine AW.instN X dX11_isOf_41 clX11_58 cfX7 ox_k4 (by decide) ?_
      refine AW.zret X rfl hQ dX11_isOf_44 ⟨_, rfl, ?_⟩
      exact ⟨by first | decide | (rw [show under k 0 = true by simp [under]]; rfl), rfl⟩
    · subst e
      refine AW.instN X dX11_isOf_41 clX11_58 cfX8 ox_k5 (by decide) ?_
      refine AW.zret X rfl hQ dX11_isOf_44 ⟨_, rfl, ?_⟩
      exact ⟨by first | decide | (rw [show under k 0 = true by simp [under]]; rfl), rfl⟩
    · subst e
      refine AW.instN X dX11_isOf_41 clX11_58 cfX0 ox_k6 (by decide) ?_
      refine AW.zret X rfl hQ dX11_isOf_44 ⟨_, rfl, ?_⟩
      exact ⟨by first | decide | (rw [show under k 0 = true by simp [under]]; rfl), rfl⟩
  · refine AW.tableIn X (tgt := 45) dX11_isOf_1 (by decide) (by decide) rfl (by decide) ?_
    refine AW.aload_n X dX11_isOf_45 (i := 0) rfl rfl ?_
    refine seven hk (fun e => ?_) (fun e => ?_) (fun e => ?_) (fun e => ?_) (fun e => ?_) (fun e => ?_) (fun e => ?_)
    · subst e
      refine AW.instN X dX11_isOf_46 clX11_61 cfX4 ox_k0 (by decide) ?_
      refine AW.zret X rfl hQ dX11_isOf_49 ⟨_, rfl, ?_⟩
      exact ⟨by first | decide | (rw [show under k 0 = true by simp [under]]; rfl), rfl⟩
    · subst e
      refine AW.instN X dX11_isOf_46 clX11_61 cfX2 ox_k1 (by decide) ?_
      refine AW.zret X rfl hQ dX11_isOf_49 ⟨_, rfl, ?_⟩
      exact ⟨by first | decide | (rw [show under k 0 = true by simp [under]]; rfl), rfl⟩
    · subst e
      refine AW.instS X dX11_isOf_46 clX11_61 cfX5 ox_k2 ?_
      refine AW.zret X rfl hQ dX11_isOf_49 ⟨_, rfl, ?_⟩
      exact ⟨by first | decide | (rw [show under k 0 = true by simp [under]]; rfl), rfl⟩
    · subst e
      refine AW.instN X dX11_isOf_46 clX11_61 cfX1 ox_k3 (by decide) ?_
      refine AW.zret X rfl hQ dX11_isOf_49 ⟨_, rfl, ?_⟩
      exact ⟨by first | decide | (rw [show under k 0 = true by simp [under]]; rfl), rfl⟩
    · subst e
      refine AW.instN X dX11_isOf_46 clX11_61 cfX7 ox_k4 (by decide) ?_
      refine AW.zret X rfl hQ dX11_isOf_49 ⟨_, rfl, ?_⟩
      exact ⟨by first | decide | (rw [show under k 0 = true by simp [under]]; rfl), rfl⟩
    · subst e
      refine AW.instY X dX11_isOf_46 clX11_61 cfX8 ox_k5 ca_X8_X5 ?_
      refine AW.zret X rfl hQ dX11_isOf_49 ⟨_, rfl, ?_⟩
      exact ⟨by first | decide | (rw [show under k 0 = true by simp [under]]; rfl), rfl⟩
    · subst e
      refine AW.instY X dX11_isOf_46 clX11_61 cfX0 ox_k6 ca_X0_X5 ?_
      refine AW.zret X rfl hQ dX11_isOf_49 ⟨_, rfl, ?_⟩
      exact ⟨by first | decide | (rw [show under k 0 = true by simp [under]]; rfl), rfl⟩
  · refine AW.tableIn X (tgt := 50) dX11_isOf_1 (by decide) (by decide) rfl (by decide) ?_
    refine AW.aload_n X dX11_isOf_50 (i := 0) rfl rfl ?_
    refine seven hk (fun e => ?_) (fun e => ?_) (fun e => ?_) (fun e => ?_) (fun e => ?_) (fun e => ?_) (fun e => ?_)
    · subst e
      refine AW.instN X dX11_isOf_51 clX11_64 cfX4 ox_k0 (by decide) ?_
      refine AW.zret X rfl hQ dX11_isOf_54 ⟨_, rfl, ?_⟩
      exact ⟨by first | decide | (rw [show under k 0 = true by simp [under]]; rfl), rfl⟩
    · subst e
      refine AW.instN X dX11_isOf_51 clX11_64 cfX2 ox_k1 (by decide) ?_
      refine AW.zret X rfl hQ dX11_isOf_54 ⟨_, rfl, ?_⟩
      exact ⟨by first | decide | (rw [show under k 0 = true by simp [under]]; rfl), rfl⟩
    · subst e
      refine AW.instN X dX11_isOf_51 clX11_64 cfX5 ox_k2 (by decide) ?_
      refine AW.zret X rfl hQ dX11_isOf_54 ⟨_, rfl, ?_⟩
      exact ⟨by first | decide | (rw [show under k 0 = true by simp [under]]; rfl), rfl⟩
    · subst e
      refine AW.instS X dX11_isOf_51 clX11_64 cfX1 ox_k3 ?_
      refine AW.zret X rfl hQ dX11_isOf_54 ⟨_, rfl, ?_⟩
      exact ⟨by first | decide | (rw [show under k 0 = true by simp [under]]; rfl), rfl⟩
    · subst e
      refine AW.instN X dX11_isOf_51 clX11_64 cfX7 ox_k4 (by decide) ?_
      refine AW.zret X rfl hQ dX11_isOf_54 ⟨_, rfl, ?_⟩
      exact ⟨by first | decide | (rw [show under k 0 = true by simp [under]]; rfl), rfl⟩
    · subst e
      refine AW.instN X dX11_isOf_51 clX11_64 cfX8 ox_k5 (by decide) ?_
      refine AW.zret X rfl hQ dX11_isOf_54 ⟨_, rfl, ?_⟩
      exact ⟨by first | decide | (rw [show under k 0 = true by simp [under]]; rfl), rfl⟩
    · subst e
      refine AW.instN X dX11_isOf_51 clX11_64 cfX0 ox_k6 (by decide) ?_
      refine AW.zret X rfl hQ dX11_isOf_54 ⟨_, rfl, ?_⟩
      exact ⟨by first | decide | (rw [show under k 0 = true by simp [under]]; rfl), rfl⟩
  · refine AW.tableIn X (tgt := 55) dX11_isOf_1 (by decide) (by decide) rfl (by decide) ?_
    refine AW.aload_n X dX11_isOf_55 (i := 0) rfl rfl ?_
    refine seven hk (fun e => ?_) (fun e => ?_) (fun e => ?_) (fun e => ?_) (fun e => ?_) (fun e => ?_) (fun e => ?_)
    · subst e
      refine AW.instN X dX11_isOf_56 clX11_67 cfX4 ox_k0 (by decide) ?_
      refine AW.zret X rfl hQ dX11_isOf_59 ⟨_, rfl, ?_⟩
      exact ⟨by first | decide | (rw [show under k 0 = true by simp [under]]; rfl), rfl⟩
    · subst e
      refine AW.instN X dX11_isOf_56 clX11_67 cfX2 ox_k1 (by decide) ?_
      refine AW.zret X rfl hQ dX11_isOf_59 ⟨_, rfl, ?_⟩
      exact ⟨by first | decide | (rw [show under k 0 = true by simp [under]]; rfl), rfl⟩
    · subst e
      refine AW.instN X dX11_isOf_56 clX11_67 cfX5 ox_k2 (by decide) ?_
      refine AW.zret X rfl hQ dX11_isOf_59 ⟨_, rfl, ?_⟩
      exact ⟨by first | decide | (rw [show under k 0 = true by simp [under]]; rfl), rfl⟩
    · subst e
      refine AW.instN X dX11_isOf_56 clX11_67 cfX1 ox_k3 (by decide) ?_
      refine AW.zret X rfl hQ dX11_isOf_59 ⟨_, rfl, ?_⟩
      exact ⟨by first | decide | (rw [show under k 0 = true by simp [under]]; rfl), rfl⟩
    · subst e
      refine AW.instS X dX11_isOf_56 clX11_67 cfX7 ox_k4 ?_
      refine AW.zret X rfl hQ dX11_isOf_59 ⟨_, rfl, ?_⟩
      exact ⟨by first | decide | (rw [show under k 0 = true by simp [under]]; rfl), rfl⟩
    · subst e
      refine AW.instN X dX11_isOf_56 clX11_67 cfX8 ox_k5 (by decide) ?_
      refine AW.zret X rfl hQ dX11_isOf_59 ⟨_, rfl, ?_⟩
      exact ⟨by first | decide | (rw [show under k 0 = true by simp [under]]; rfl), rfl⟩
    · subst e
      refine AW.instN X dX11_isOf_56 clX11_67 cfX0 ox_k6 (by decide) ?_
      refine AW.zret X rfl hQ dX11_isOf_59 ⟨_, rfl, ?_⟩
      exact ⟨by first | decide | (rw [show under k 0 = true by simp [under]]; rfl), rfl⟩
  · refine AW.tableIn X (tgt := 60) dX11_isOf_1 (by decide) (by decide) rfl (by decide) ?_
    refine AW.aload_n X dX11_isOf_60 (i := 0) rfl rfl ?_
    refine seven hk (fun e => ?_) (fun e => ?_) (fun e => ?_) (fun e => ?_) (fun e => ?_) (fun e => ?_) (fun e => ?_)
    · subst e
      refine AW.instN X dX11_isOf_61 clX11_70 cfX4 ox_k0 (by decide) ?_
      refine AW.zret X rfl hQ dX11_isOf_64 ⟨_, rfl, ?_⟩
      exact ⟨by first | decide | (rw [show under k 0 = true by simp [under]]; rfl), rfl⟩
    · subst e
      refine AW.instN X dX11_isOf_61 clX11_70 cfX2 ox_k1 (by decide) ?_
      refine AW.zret X rfl hQ dX11_isOf_64 ⟨_, rfl, ?_⟩
      exact ⟨by first | decide | (rw [show under k 0 = true by simp [under]]; rfl), rfl⟩
    · subst e
      refine AW.instN X dX11_isOf_61 clX11_70 cfX5 ox_k2 (by decide) ?_
      refine AW.zret X rfl hQ dX11_isOf_64 ⟨_, rfl, ?_⟩
      exact ⟨by first | decide | (rw [show under k 0 = true by simp [under]]; rfl), rfl⟩
    · subst e
      refine AW.instN X dX11_isOf_61 clX11_70 cfX1 ox_k3 (by decide) ?_
      refine AW.zret X rfl hQ dX11_isOf_64 ⟨_, rfl, ?_⟩
      exact ⟨by first | decide | (rw [show under k 0 = true by simp [under]]; rfl), rfl⟩
    · subst e
      refine AW.instN X dX11_isOf_61 clX11_70 cfX7 ox_k4 (by decide) ?_
      refine AW.zret X rfl hQ dX11_isOf_64 ⟨_, rfl, ?_⟩
      exact ⟨by first | decide | (rw [show under k 0 = true by simp [under]]; rfl), rfl⟩
    · subst e
      refine AW.instS X dX11_isOf_61 clX11_70 cfX8 ox_k5 ?_
      refine AW.zret X rfl hQ dX11_isOf_64 ⟨_, rfl, ?_⟩
      exact ⟨by first | decide | (rw [show under k 0 = true by simp [under]]; rfl), rfl⟩
    · subst e
      refine AW.instN X dX11_isOf_61 clX11_70 cfX0 ox_k6 (by decide) ?_
      refine AW.zret X rfl hQ dX11_isOf_64 ⟨_, rfl, ?_⟩
      exact ⟨by first | decide | (rw [show under k 0 = true by simp [under]]; rfl), rfl⟩
  · refine AW.tableIn X (tgt := 65) dX11_isOf_1 (by decide) (by decide) rfl (by decide) ?_
    refine AW.aload_n X dX11_isOf_65 (i := 0) rfl rfl ?_
    refine seven hk (fun e => ?_) (fun e => ?_) (fun e => ?_) (fun e => ?_) (fun e => ?_) (fun e => ?_) (fun e => ?_)
    · subst e
      refine AW.instN X dX11_isOf_66 clX11_73 cfX4 ox_k0 (by decide) ?_
      refine AW.zret X rfl hQ dX11_isOf_69 ⟨_, rfl, ?_⟩
      exact ⟨by first | decide | (rw [show under k 0 = true by simp [under]]; rfl), rfl⟩
    · subst e
      refine AW.instN X dX11_isOf_66 clX11_73 cfX2 ox_k1 (by decide) ?_
      refine AW.zret X rfl hQ dX11_isOf_69 ⟨_, rfl, ?_⟩
      exact ⟨by first | decide | (rw [show under k 0 = true by simp [under]]; rfl), rfl⟩
    · subst e
      refine AW.instN X dX11_isOf_66 clX11_73 cfX5 ox_k2 (by decide) ?_
      refine AW.zret X rfl hQ dX11_isOf_69 ⟨_, rfl, ?_⟩
      exact ⟨by first | decide | (rw [show under k 0 = true by simp [under]]; rfl), rfl⟩
    · subst e
      refine AW.instN X dX11_isOf_66 clX11_73 cfX1 ox_k3 (by decide) ?_
      refine AW.zret X rfl hQ dX11_isOf_69 ⟨_, rfl, ?_⟩
      exact ⟨by first | decide | (rw [show under k 0 = true by simp [under]]; rfl), rfl⟩
    · subst e
      refine AW.instN X dX11_isOf_66 clX11_73 cfX7 ox_k4 (by decide) ?_
      refine AW.zret X rfl hQ dX11_isOf_69 ⟨_, rfl, ?_⟩
      exact ⟨by first | decide | (rw [show under k 0 = true by simp [under]]; rfl), rfl⟩
    · subst e
      refine AW.instN X dX11_isOf_66 clX11_73 cfX8 ox_k5 (by decide) ?_
      refine AW.zret X rfl hQ dX11_isOf_69 ⟨_, rfl, ?_⟩
      exact ⟨by first | decide | (rw [show under k 0 = true by simp [under]]; rfl), rfl⟩
    · subst e
      refine AW.instS X dX11_isOf_66 clX11_73 cfX0 ox_k6 ?_
      refine AW.zret X rfl hQ dX11_isOf_69 ⟨_, rfl, ?_⟩
      exact ⟨by first | decide | (rw [show under k 0 = true by simp [under]]; rfl), rfl⟩
set_option maxRecDepth 100000 in
set_option maxHeartbeats 4000000 in
theorem c_X11_strengthOfHighest {l : Launch} {δ : Dl} {b : Nat} {μ : Mm} {S : St} (hR : RX μ S) {o : Nat} (hF : FA o) {V : Vt} (hV : HV μ o V)  : MCX l δ b yX11_strengthOfHighest cX11_strengthOfHighest 3 (some .int) 3 [.ref (b + 0), .ref (b + o)] μ (pI fun r μ' => r = nI (topStr (S.1 6 1) V) ∧ μ' = μ) := by
  obtain ⟨B, Bd, tb, hnow, hdr, hT⟩ := hR.2.2.1
  have W := rx_w hR
  have ta := two_ta tb
  have hB := ta.1
  have hBd := ta.2.1
  have bn := ti_n hT.1
  have bn := hi_n hV.1
  refine MC.intro ([some (.ref (b + 0)), some (.ref (b + o)), none]) (by decide) rfl rfl fun κ Qc hl hQ X => ?_
  subst hl
  rcases Nat.eq_zero_or_pos (V 0 2) with z | z
  · refine AW.aload_n X dX11_strengthOfHighest_0 (i := 1) rfl rfl ?_
    refine AW.getI X dX11_strengthOfHighest_1 fX11_157 rfl (fa_ob hF) (v := (nI 0)) (by rw [hv_n hV, z]) ?_
    refine AW.iconstN X 1 dX11_strengthOfHighest_4 rfl ?_
    refine AW.isub X dX11_strengthOfHighest_5 ?_
    rw [dn_sub, dn_0]
    refine AW.istore_n X dX11_strengthOfHighest_6 (i := 2) rfl rfl ?_
    refine AW.iload_n X dX11_strengthOfHighest_7 (i := 2) rfl rfl ?_
    refine AW.if_ge X (tgt := 15) dX11_strengthOfHighest_8 (by decide) (fun h8 => ?_) (fun h8 => ?_)
    · replace h8 := Int32.not_lt.mpr h8
      exact absurd h8 (by decide)
    · replace h8 := Int32.not_le.mp h8
      refine AW.iconstN X 0 dX11_strengthOfHighest_11 rfl ?_
      refine AW.goto X (tgt := 35) dX11_strengthOfHighest_12 (by decide) ?_
      refine AW.iret X hQ dX11_strengthOfHighest_35 ⟨_, rfl, ?_⟩
      exact ⟨congrArg nI (by simp [topStr, z]), rfl⟩
  · have c1 := hi_col hV.1 (c := V 0 2 - 1) (by omega)
    have c2 := (hi_th hV.1 (c := V 0 2 - 1) (by omega)).2
    refine AW.aload_n X dX11_strengthOfHighest_0 (i := 1) rfl rfl ?_
    refine AW.getI X dX11_strengthOfHighest_1 fX11_157 rfl (fa_ob hF) (hv_n hV) ?_
    refine AW.iconstN X 1 dX11_strengthOfHighest_4 rfl ?_
    refine AW.isubN X dX11_strengthOfHighest_5 (by omega) ?_
    refine AW.istore_n X dX11_strengthOfHighest_6 (i := 2) rfl rfl ?_
    refine AW.iload_n X dX11_strengthOfHighest_7 (i := 2) rfl rfl ?_
    refine AW.if_geN X (tgt := 15) dX11_strengthOfHighest_8 (by decide) (by omega) (fun h8 => ?_) (fun h8 => ?_)
    · refine AW.aload_n X dX11_strengthOfHighest_15 (i := 0) rfl rfl ?_
      refine AW.getR X dX11_strengthOfHighest_16 fX11_81 rfl ox0 hnow ?_
      refine AW.aload_n X dX11_strengthOfHighest_19 (i := 1) rfl rfl ?_
      refine AW.aload_n X dX11_strengthOfHighest_20 (i := 1) rfl rfl ?_
      refine AW.getR X dX11_strengthOfHighest_21 fX11_192 rfl (fa_ob hF) (wx_colour W hF) ?_
      refine AW.iload_n X dX11_strengthOfHighest_24 (i := 2) rfl rfl ?_
      refine AW.iaload X dX11_strengthOfHighest_25 (fa_2 hF) (n2_in (by omega) (by decide)) (v := (nI (V 2 ((V 0 2) - 1)))) (by rw [n2_clamp (by omega)]; exact hv_2 hV (by omega)) ?_
      refine AW.aload_n X dX11_strengthOfHighest_26 (i := 1) rfl rfl ?_
      refine AW.getR X dX11_strengthOfHighest_27 fX11_195 rfl (fa_ob hF) (wx_thick W hF) ?_
      refine AW.iload_n X dX11_strengthOfHighest_30 (i := 2) rfl rfl ?_
      refine AW.iaload X dX11_strengthOfHighest_31 (fa_3 hF) (n2_in (by omega) (by decide)) (v := (nI (V 3 ((V 0 2) - 1)))) (by rw [n2_clamp (by omega)]; exact hv_3 hV (by omega)) ?_
      refine AW.callV X dX11_strengthOfHighest_32 lX11_203 cfX9 (c_X9_strength W hB hT hF hV (by omega) (by omega)) (ta_ob hB) rfl rfl rfl rfl ⟨rfl, rfl⟩ (pR_k ?_)
      refine AW.iret X hQ dX11_strengthOfHighest_35 ⟨_, rfl, ?_⟩
      exact ⟨congrArg nI (by rw [topStr, if_neg (by omega)]; rfl), rfl⟩
    · exact h8.elim
set_option maxRecDepth 100000 in
set_option maxHeartbeats 4000000 in
theorem c_X11_saidBy {l : Launch} {δ : Dl} {b : Nat} {μ : Mm} {S : St} (hR : RX μ S) {o : Nat} (hF : FA o) {V : Vt} (hV : HV μ o V) {k : Nat} (hk : k < 7) : MCX l δ b yX11_saidBy cX11_saidBy 3 (some .int) 5 [.ref (b + 0), .ref (b + o), .int (nI k)] μ (pI fun r μ' => r = nI (saidBy S.1 V k) ∧ μ' = μ) := by
  obtain ⟨B, Bd, tb, hnow, hdr, hT⟩ := hR.2.2.1
  have W := rx_w hR
  have ta := two_ta tb
  have hB := ta.1
  have hBd := ta.2.1
  have bn := ti_n hT.1
  have bn := hi_n hV.1
  refine MC.intro ([some (.ref (b + 0)), some (.ref (b + o)), some (.int (nI k))]) (by decide) rfl rfl fun κ Qc hl hQ X => ?_
  subst hl
  refine AW.iload_n X dX11_saidBy_0 (i := 2) rfl rfl ?_
  have hsw : k = 0 ∨ k = 1 ∨ k = 2 ∨ k = 3 ∨ k = 4 ∨ k = 5 ∨ k = 6 := by omega
  rcases hsw with rfl | rfl | rfl | rfl | rfl | rfl | rfl
  · refine AW.tableOut X (tgt := 84) dX11_saidBy_1 (by decide) (by decide) ?_
    refine AW.aload_n X dX11_saidBy_84 (i := 1) rfl rfl ?_
    refine AW.callV X dX11_saidBy_85 lX11_160 cfX3 (c_X3_wholeSkin W hF hV) (fa_ob hF) rfl rfl rfl rfl ⟨rfl, rfl⟩ (pR_k ?_)
    refine AW.iret X hQ dX11_saidBy_88 ⟨_, rfl, ?_⟩
    exact ⟨rfl, rfl⟩
  · refine AW.tableIn X (tgt := 40) dX11_saidBy_1 (by decide) (by decide) rfl (by decide) ?_
    refine AW.aload_n X dX11_saidBy_40 (i := 1) rfl rfl ?_
    refine AW.iconstN X 0 dX11_saidBy_41 rfl ?_
    refine AW.bipushN X 10 dX11_saidBy_42 rfl ?_
    refine AW.callV X dX11_saidBy_44 lX11_231 cfX3 (c_X3_wetness W hF hV (by omega) (by omega)) (fa_ob hF) rfl rfl rfl rfl ⟨rfl, rfl⟩ (pR_k ?_)
    refine AW.iret X hQ dX11_saidBy_47 ⟨_, rfl, ?_⟩
    exact ⟨rfl, rfl⟩
  · refine AW.tableIn X (tgt := 48) dX11_saidBy_1 (by decide) (by decide) rfl (by decide) ?_
    refine AW.aload_n X dX11_saidBy_48 (i := 1) rfl rfl ?_
    refine AW.iconstN X 0 dX11_saidBy_49 rfl ?_
    refine AW.bipushN X 10 dX11_saidBy_50 rfl ?_
    refine AW.callV X dX11_saidBy_52 lX11_330 cfX3 (c_X3_hardness W hF hV (by omega) (by omega)) (fa_ob hF) rfl rfl rfl rfl ⟨rfl, rfl⟩ (pR_k ?_)
    refine AW.iret X hQ dX11_saidBy_55 ⟨_, rfl, ?_⟩
    exact ⟨rfl, rfl⟩
  · refine AW.tableIn X (tgt := 56) dX11_saidBy_1 (by decide) (by decide) rfl (by decide) ?_
    refine AW.aload_n X dX11_saidBy_56 (i := 1) rfl rfl ?_
    refine AW.bipushN X 8 dX11_saidBy_57 rfl ?_
    refine AW.bipushN X 10 dX11_saidBy_59 rfl ?_
    refine AW.callV X dX11_saidBy_61 lX11_231 cfX3 (c_X3_wetness W hF hV (by omega) (by omega)) (fa_ob hF) rfl rfl rfl rfl ⟨rfl, rfl⟩ (pR_k ?_)
    refine AW.iret X hQ dX11_saidBy_64 ⟨_, rfl, ?_⟩
    exact ⟨rfl, rfl⟩
  · refine AW.tableIn X (tgt := 65) dX11_saidBy_1 (by decide) (by decide) rfl (by decide) ?_
    refine AW.aload_n X dX11_saidBy_65 (i := 0) rfl rfl ?_
    refine AW.aload_n X dX11_saidBy_66 (i := 1) rfl rfl ?_
    refine AW.callV X dX11_saidBy_67 lX11_333 cfX11 (c_X11_strengthOfHighest hR hF hV) ox0 rfl rfl rfl rfl ⟨rfl, rfl⟩ (pR_k ?_)
    refine AW.iret X hQ dX11_saidBy_70 ⟨_, rfl, ?_⟩
    exact ⟨rfl, rfl⟩
  · refine AW.tableIn X (tgt := 71) dX11_saidBy_1 (by decide) (by decide) rfl (by decide) ?_
    refine AW.aload_n X dX11_saidBy_71 (i := 1) rfl rfl ?_
    refine AW.iconstN X 4 dX11_saidBy_72 rfl ?_
    refine AW.bipushN X 10 dX11_saidBy_73 rfl ?_
    refine AW.callV X dX11_saidBy_75 lX11_330 cfX3 (c_X3_hardness W hF hV (by omega) (by omega)) (fa_ob hF) rfl rfl rfl rfl ⟨rfl, rfl⟩ (pR_k ?_)
    refine AW.iret X hQ dX11_saidBy_78 ⟨_, rfl, ?_⟩
    exact ⟨rfl, rfl⟩
  · refine AW.tableIn X (tgt := 79) dX11_saidBy_1 (by decide) (by decide) rfl (by decide) ?_
    refine AW.aload_n X dX11_saidBy_79 (i := 1) rfl rfl ?_
    refine AW.getI X dX11_saidBy_80 fX11_154 rfl (fa_ob hF) (hv_a hV) ?_
    refine AW.iret X hQ dX11_saidBy_83 ⟨_, rfl, ?_⟩
    exact ⟨rfl, rfl⟩
end
section
theorem rx_of {p q : Int32 × St} {r : Int32} {μ : Mm} (e : q = p) (h : r = p.1 ∧ RX μ p.2) : r = q.1 ∧ RX μ q.2 := by rw [e]; exact h
theorem rx_val {p : Int32 × St} {r : Int32} {S' : St} {μ : Mm} (e : p = (r, S')) (h : RX μ S') : r = p.1 ∧ RX μ p.2 := by rw [e]; exact ⟨rfl, h⟩
theorem pos_n {j : Nat} (h : j < 2147483648) : ¬ nI j < 0 := nI_pos (by omega)
theorem i3_n {a c : Nat} (ha : a < 2147483648) (hc : c < 2147483648) : (nI a < nI c) = (a < c) := propext (n2_lt ha hc)
set_option maxRecDepth 100000 in
set_option maxHeartbeats 4000000 in
theorem c_X11_row {l : Launch} {δ : Dl} {b : Nat} {μ : Mm} {S : St} (hR : RX μ S) {x y z : Int32} : MCX l δ b yX11_row cX11_row 5 (some .int) 3 [.ref (b + 0), .int x, .int y, .int z] μ (pI fun r μ' => r = (S_row S x y z).1 ∧ RX μ' (S_row S x y z).2) := by
  obtain ⟨B, Bd, tb, hnow, hdr, hT⟩ := hR.2.2.1
  have W := rx_w hR
  have ta := two_ta tb
  have hB := ta.1
  have hBd := ta.2.1
  have bn := ti_n hT.1
  refine MC.intro ([some (.ref (b + 0)), some (.int x), some (.int y), some (.int z), none]) (by decide) rfl rfl fun κ Qc hl hQ X => ?_
  subst hl
  refine AW.iload_n X dX11_row_0 (i := 1) rfl rfl ?_
  refine AW.bipushN X 8 dX11_row_1 rfl ?_
  refine AW.callS X dX11_row_3 lX11_91 (c_X11_outside) rfl rfl rfl rfl ⟨rfl, rfl⟩ (pR_k ?_)
  refine AW.if_eqB X (tgt := 15) dX11_row_6 (by decide) (fun h6 => ?_) (fun h6 => ?_)
  · simp only [Bool.not_eq_true', Bool.not_eq_false'] at h6
    obtain ⟨s, hs, es⟩ := inr_of (x := x) (m := 8) (by omega) h6
    subst es
    refine AW.iload_n X dX11_row_15 (i := 3) rfl rfl ?_
    refine AW.if_ge X (tgt := 25) dX11_row_16 (by decide) (fun h16 => ?_) (fun h16 => ?_)
    · replace h16 := Int32.not_lt.mpr h16
      obtain ⟨mm, hmm, emm⟩ := nI_of h16
      subst emm
      refine AW.iload_n X dX11_row_25 (i := 2) rfl rfl ?_
      refine AW.iconstN X 4 dX11_row_26 rfl ?_
      refine AW.callS X dX11_row_27 lX11_91 (c_X11_outside) rfl rfl rfl rfl ⟨rfl, rfl⟩ (pR_k ?_)
      refine AW.if_eqB X (tgt := 40) dX11_row_30 (by decide) (fun h30 => ?_) (fun h30 => ?_)
      · simp only [Bool.not_eq_true', Bool.not_eq_false'] at h30
        obtain ⟨q, hq, eq⟩ := inr_of (x := y) (m := 4) (by omega) h30
        subst eq
        refine AW.iload_n X dX11_row_40 (i := 3) rfl rfl ?_
        refine AW.sipushN X 160 dX11_row_41 rfl ?_
        refine AW.icmp_leN X (tgt := 54) dX11_row_44 (by decide) (by omega) (by omega) (fun h44 => ?_) (fun h44 => ?_)
        · refine AW.aload_n X dX11_row_54 (i := 0) rfl rfl ?_
          refine AW.getR X dX11_row_55 fX11_9 rfl ox0 (wx_held W) ?_
          refine AW.iload_n X dX11_row_58 (i := 1) rfl rfl ?_
          refine AW.bipushN X 100 dX11_row_59 rfl ?_
          refine AW.iload_n X dX11_row_61 (i := 2) rfl rfl ?_
          refine AW.iaddN X dX11_row_62 ?_
          refine AW.iastore X dX11_row_63 (by decide) ax1 (n2_in (by omega) (by decide)) ?_
          rw [n2_clamp (by omega)]
          refine AW.aload_n X dX11_row_64 (i := 0) rfl rfl ?_
          refine AW.getR X dX11_row_65 fX11_13 rfl ox0 (wx_sizes W) ?_
          refine AW.iload_n X dX11_row_68 (i := 1) rfl rfl ?_
          refine AW.iload_n X dX11_row_69 (i := 3) rfl rfl ?_
          refine AW.iastore X dX11_row_70 (by decide) ax2 (n2_in (by omega) (by decide)) ?_
          rw [n2_clamp (by omega)]
          refine AW.iconstN X 0 dX11_row_71 rfl ?_
          refine AW.istore X dX11_row_72 rfl ?_
          have L74 : ∀ (m9 i : Nat), mm - i < m9 → i ≤ mm → AW κ (δ, b, NX, 5, shX, False, Qc, 0, 0) NX 0 0 74 [some (.ref (b + 0)), some (.int (nI s)), some (.int (nI q)), some (.int (nI mm)), some (.int (nI i))] [] (zlM (wI (wI μ 1 s (nI (100 + q))) 2 s (nI mm)) (4 + s) i) := by
            intro m9
            induction m9 with
            | zero => intro i hm9; exact absurd hm9 (Nat.not_lt_zero _)
            | succ m9 ih =>
              intro i hm9 hi
              refine AW.iload X dX11_row_74 rfl ?_
              refine AW.iload_n X dX11_row_76 (i := 3) rfl rfl ?_
              refine AW.icmp_geN X (tgt := 96) dX11_row_77 (by decide) (by omega) (by omega) (fun h77 => ?_) (fun h77 => ?_)
              · have ei : i = mm := by omega
                rw [ei]
                refine AW.iconstN X 1 dX11_row_96 rfl ?_
                refine AW.iret X hQ dX11_row_97 ⟨_, rfl, ?_⟩
                refine rx_val ?_ (rx_row hR hs hq (by omega : mm ≤ 160))
                simp [S_row, *, pos_n, cl_n (show s < 2147483648 by omega), cl_n (show q < 2147483648 by omega), cl_n (show mm < 2147483648 by omega), i3_n]
                omega
              · refine AW.aload_n X dX11_row_80 (i := 0) rfl rfl ?_
                refine AW.getR X dX11_row_81 fX11_18 rfl ox0 (wx_elements W) ?_
                refine AW.iload_n X dX11_row_84 (i := 1) rfl rfl ?_
                refine AW.aaload X (r := (4 + s)) dX11_row_85 rfl rfl ax3 (n2_in (by omega) (by decide)) (by rw [n2_clamp (by omega)]; exact wx_el W (by omega)) ?_
                refine AW.iload X dX11_row_86 rfl ?_
                refine AW.lconst X (v := 0) dX11_row_88 rfl ?_
                refine AW.lastore X dX11_row_89 (by decide) (ax_el (by omega)) (n2_in (by omega) (by decide)) ?_
                rw [n2_clamp (by omega)]
                refine AW.iincN X (c := (i + 1)) dX11_row_90 rfl (inc_1 _) rfl ?_
                refine AW.goto X (tgt := 74) dX11_row_93 (by decide) ?_
                exact AW.cgm (zl_s _ _ i) (ih (i + 1) (by omega) (by omega))
          exact AW.cgm (zl_0 _ (4 + s)) (L74 _ 0 (Nat.lt_succ_self _) (by omega))
        · refine AW.aload_n X dX11_row_47 (i := 0) rfl rfl ?_
          refine AW.bipushN X 7 dX11_row_48 rfl ?_
          refine AW.callV X dX11_row_50 lX11_95 cfX11 (c_X11_refuse (k := 7) hR (by decide)) ox0 rfl rfl rfl rfl ⟨rfl, rfl⟩ (pI_k fun r μ1 hr => ?_)
          refine AW.iret X hQ dX11_row_53 ⟨_, rfl, ?_⟩
          refine rx_of ?_ hr
          have e := (n2_lt (by decide : 160 < 2147483648) hmm).mpr h44
          simp [S_row, *]
      · simp only [Bool.not_eq_true', Bool.not_eq_false'] at h30
        refine AW.aload_n X dX11_row_33 (i := 0) rfl rfl ?_
        refine AW.bipushN X 6 dX11_row_34 rfl ?_
        refine AW.callV X dX11_row_36 lX11_95 cfX11 (c_X11_refuse (k := 6) hR (by decide)) ox0 rfl rfl rfl rfl ⟨rfl, rfl⟩ (pI_k fun r μ1 hr => ?_)
        refine AW.iret X hQ dX11_row_39 ⟨_, rfl, ?_⟩
        refine rx_of ?_ hr
        simp [S_row, *]
    · replace h16 := Int32.not_le.mp h16
      refine AW.aload_n X dX11_row_19 (i := 0) rfl rfl ?_
      refine AW.iconstN X 4 dX11_row_20 rfl ?_
      refine AW.callV X dX11_row_21 lX11_95 cfX11 (c_X11_refuse (k := 4) hR (by decide)) ox0 rfl rfl rfl rfl ⟨rfl, rfl⟩ (pI_k fun r μ1 hr => ?_)
      refine AW.iret X hQ dX11_row_24 ⟨_, rfl, ?_⟩
      refine rx_of ?_ hr
      simp [S_row, *]
  · simp only [Bool.not_eq_true', Bool.not_eq_false'] at h6
    refine AW.aload_n X dX11_row_9 (i := 0) rfl rfl ?_
    refine AW.iconstN X 1 dX11_row_10 rfl ?_
    refine AW.callV X dX11_row_11 lX11_95 cfX11 (c_X11_refuse (k := 1) hR (by decide)) ox0 rfl rfl rfl rfl ⟨rfl, rfl⟩ (pI_k fun r μ1 hr => ?_)
    refine AW.iret X hQ dX11_row_14 ⟨_, rfl, ?_⟩
    refine rx_of ?_ hr
    simp [S_row, *]
set_option maxRecDepth 100000 in
set_option maxHeartbeats 4000000 in
theorem c_X11_element {l : Launch} {δ : Dl} {b : Nat} {μ : Mm} {S : St} (hR : RX μ S) {x i : Int32} : MCX l δ b yX11_element cX11_element 3 (some .long) 3 [.ref (b + 0), .int x, .int i] μ (pL fun r μ' => r = S_element S x i ∧ μ' = μ) := by
  obtain ⟨B, Bd, tb, hnow, hdr, hT⟩ := hR.2.2.1
  have W := rx_w hR
  have ta := two_ta tb
  have hB := ta.1
  have hBd := ta.2.1
  have bn := ti_n hT.1
  have bt := rowT_le S x
  refine MC.intro ([some (.ref (b + 0)), some (.int x), some (.int i)]) (by decide) rfl rfl fun κ Qc hl hQ X => ?_
  subst hl
  refine AW.aload_n X dX11_element_0 (i := 0) rfl rfl ?_
  refine AW.iload_n X dX11_element_1 (i := 1) rfl rfl ?_
  refine AW.callV X dX11_element_2 lX11_99 cfX11 (c_X11_rowTrouble hR) ox0 rfl rfl rfl rfl ⟨rfl, rfl⟩ (pR_k ?_)
  refine AW.if_neN X (tgt := 21) dX11_element_5 (by decide) (by omega) (fun h5 => ?_) (fun h5 => ?_)
  · refine AW.lconst X (v := 0) dX11_element_21 rfl ?_
    refine AW.lret X hQ dX11_element_22 ⟨_, rfl, ?_⟩
    exact ⟨by simp [S_element, *], rfl⟩
  · obtain ⟨s, hs, es, hrow⟩ := rowT_0 h5
    subst es
    have hz := hR.1.2.2.2.1 s hs
    have hk9 := hR.1.2.2.1 s hs
    refine AW.iload_n X dX11_element_8 (i := 2) rfl rfl ?_
    refine AW.aload_n X dX11_element_9 (i := 0) rfl rfl ?_
    refine AW.getR X dX11_element_10 fX11_13 rfl ox0 (wx_sizes W) ?_
    refine AW.iload_n X dX11_element_13 (i := 1) rfl rfl ?_
    refine AW.iaload X dX11_element_14 ax2 (n2_in (by omega) (by decide)) (v := (nI (kk S 1 s))) (by rw [n2_clamp (by omega)]; exact rx_size hR (by omega)) ?_
    refine AW.callS X dX11_element_15 lX11_91 (c_X11_outside) rfl rfl rfl rfl ⟨rfl, rfl⟩ (pR_k ?_)
    refine AW.if_eqB X (tgt := 23) dX11_element_18 (by decide) (fun h18 => ?_) (fun h18 => ?_)
    · simp only [Bool.not_eq_true', Bool.not_eq_false'] at h18
      obtain ⟨j, hj, ej⟩ := inr_of (x := i) (m := (kk S 1 s)) (by omega) h18
      subst ej
      refine AW.aload_n X dX11_element_23 (i := 0) rfl rfl ?_
      refine AW.getR X dX11_element_24 fX11_18 rfl ox0 (wx_elements W) ?_
      refine AW.iload_n X dX11_element_27 (i := 1) rfl rfl ?_
      refine AW.aaload X (r := (4 + s)) dX11_element_28 rfl rfl ax3 (n2_in (by omega) (by decide)) (by rw [n2_clamp (by omega)]; exact wx_el W (by omega)) ?_
      refine AW.iload_n X dX11_element_29 (i := 2) rfl rfl ?_
      refine AW.laload X dX11_element_30 (ax_el (by omega)) (n2_in (by omega) (by decide)) (v := (S.2.2.2 s j)) (by rw [n2_clamp (by omega)]; exact rx_elem hR hs hj) ?_
      refine AW.lret X hQ dX11_element_31 ⟨_, rfl, ?_⟩
      exact ⟨by simp [S_element, cl_n (show s < 2147483648 by omega), cl_n (show j < 2147483648 by omega), *], rfl⟩
    · simp only [Bool.not_eq_true', Bool.not_eq_false'] at h18
      refine AW.lconst X (v := 0) dX11_element_21 rfl ?_
      refine AW.lret X hQ dX11_element_22 ⟨_, rfl, ?_⟩
      exact ⟨by simp [S_element, cl_n (show s < 2147483648 by omega), *], rfl⟩
set_option maxRecDepth 100000 in
set_option maxHeartbeats 4000000 in
theorem c_X11_set {l : Launch} {δ : Dl} {b : Nat} {μ : Mm} {S : St} (hR : RX μ S) {x i : Int32} {v : Int64} : MCX l δ b yX11_set cX11_set 6 (some .int) 3 [.ref (b + 0), .int x, .int i, .long v] μ (pI fun r μ' => r = (S_set S x i v).1 ∧ RX μ' (S_set S x i v).2) := by
  obtain ⟨B, Bd, tb, hnow, hdr, hT⟩ := hR.2.2.1
  have W := rx_w hR
  have ta := two_ta tb
  have hB := ta.1
  have hBd := ta.2.1
  have bn := ti_n hT.1
  have bt := rowT_le S x
  refine MC.intro ([some (.ref (b + 0)), some (.int x), some (.int i), some (.long v), none, none]) (by decide) rfl rfl fun κ Qc hl hQ X => ?_
  subst hl
  refine AW.aload_n X dX11_set_0 (i := 0) rfl rfl ?_
  refine AW.iload_n X dX11_set_1 (i := 1) rfl rfl ?_
  refine AW.callV X dX11_set_2 lX11_99 cfX11 (c_X11_rowTrouble hR) ox0 rfl rfl rfl rfl ⟨rfl, rfl⟩ (pR_k ?_)
  refine AW.istore X dX11_set_5 rfl ?_
  refine AW.iload X dX11_set_7 rfl ?_
  refine AW.if_eqN X (tgt := 19) dX11_set_9 (by decide) (by omega) (fun h9 => ?_) (fun h9 => ?_)
  · obtain ⟨s, hs, es, hrow⟩ := rowT_0 h9
    subst es
    have hz := hR.1.2.2.2.1 s hs
    have hk9 := hR.1.2.2.1 s hs
    refine AW.iload_n X dX11_set_19 (i := 2) rfl rfl ?_
    refine AW.aload_n X dX11_set_20 (i := 0) rfl rfl ?_
    refine AW.getR X dX11_set_21 fX11_13 rfl ox0 (wx_sizes W) ?_
    refine AW.iload_n X dX11_set_24 (i := 1) rfl rfl ?_
    refine AW.iaload X dX11_set_25 ax2 (n2_in (by omega) (by decide)) (v := (nI (kk S 1 s))) (by rw [n2_clamp (by omega)]; exact rx_size hR (by omega)) ?_
    refine AW.callS X dX11_set_26 lX11_91 (c_X11_outside) rfl rfl rfl rfl ⟨rfl, rfl⟩ (pR_k ?_)
    refine AW.if_eqB X (tgt := 38) dX11_set_29 (by decide) (fun h29 => ?_) (fun h29 => ?_)
    · simp only [Bool.not_eq_true', Bool.not_eq_false'] at h29
      obtain ⟨j, hj, ej⟩ := inr_of (x := i) (m := (kk S 1 s)) (by omega) h29
      subst ej
      refine AW.aload_n X dX11_set_38 (i := 0) rfl rfl ?_
      refine AW.getR X dX11_set_39 fX11_18 rfl ox0 (wx_elements W) ?_
      refine AW.iload_n X dX11_set_42 (i := 1) rfl rfl ?_
      refine AW.aaload X (r := (4 + s)) dX11_set_43 rfl rfl ax3 (n2_in (by omega) (by decide)) (by rw [n2_clamp (by omega)]; exact wx_el W (by omega)) ?_
      refine AW.iload_n X dX11_set_44 (i := 2) rfl rfl ?_
      refine AW.aload_n X dX11_set_45 (i := 0) rfl rfl ?_
      refine AW.getR X dX11_set_46 fX11_9 rfl ox0 (wx_held W) ?_
      refine AW.iload_n X dX11_set_49 (i := 1) rfl rfl ?_
      refine AW.iaload X dX11_set_50 ax1 (n2_in (by omega) (by decide)) (v := (nI (kk S 0 s - 1))) (by rw [n2_clamp (by omega), rx_held hR hs, show kk S 0 s = (kk S 0 s - 1) + 1 by omega, dn_s]; rfl) ?_
      refine AW.bipushN X 100 dX11_set_51 rfl ?_
      refine AW.isubN X dX11_set_53 (by omega) ?_
      refine AW.lload_n X dX11_set_54 (i := 3) rfl rfl ?_
      refine AW.callS X dX11_set_55 lX11_102 (c_X11_lowestBits (v := v) (q := kk S 0 s - 1 - 100) (by omega)) rfl rfl rfl rfl ⟨rfl, rfl⟩ (pLR_k ?_)
      refine AW.lastore X dX11_set_58 (by decide) (ax_el (by omega)) (n2_in (by omega) (by decide)) ?_
      rw [n2_clamp (by omega)]
      refine AW.iconstN X 1 dX11_set_59 rfl ?_
      refine AW.iret X hQ dX11_set_60 ⟨_, rfl, ?_⟩
      refine rx_val (S' := eU S s (fun j9 => if j9 = j then lowB (kk S 0 s - 101) v else S.2.2.2 s j9)) ?_ (rx_elems hR hs rfl rfl (fun q hq => ?_) (fun i9 hi9 => ?_))
      · simp [S_set, cl_n (show s < 2147483648 by omega), cl_n (show j < 2147483648 by omega), *]
      · funext k9
        simp [wL, hq]
      · by_cases z : i9 = j
        · simp [wL, z, show kk S 0 s - 1 - 100 = kk S 0 s - 101 by omega]
        · simp [wL, z]
          exact rx_elem hR hs hi9
    · simp only [Bool.not_eq_true', Bool.not_eq_false'] at h29
      refine AW.aload_n X dX11_set_32 (i := 0) rfl rfl ?_
      refine AW.iconstN X 5 dX11_set_33 rfl ?_
      refine AW.callV X dX11_set_34 lX11_95 cfX11 (c_X11_refuse (k := 5) hR (by decide)) ox0 rfl rfl rfl rfl ⟨rfl, rfl⟩ (pI_k fun r μ1 hr => ?_)
      refine AW.iret X hQ dX11_set_37 ⟨_, rfl, ?_⟩
      refine rx_of ?_ hr
      simp [S_set, cl_n (show s < 2147483648 by omega), *]
  · refine AW.aload_n X dX11_set_12 (i := 0) rfl rfl ?_
    refine AW.iload X dX11_set_13 rfl ?_
    refine AW.callV X dX11_set_15 lX11_95 cfX11 (c_X11_refuse (k := rowT S x) hR (by omega)) ox0 rfl rfl rfl rfl ⟨rfl, rfl⟩ (pI_k fun r μ1 hr => ?_)
    refine AW.iret X hQ dX11_set_18 ⟨_, rfl, ?_⟩
    refine rx_of ?_ hr
    simp [S_set, *]
end
section
set_option maxRecDepth 100000 in
set_option maxHeartbeats 4000000 in
theorem c_X11_noSuchPart {l : Launch} {δ : Dl} {b : Nat} {μ : Mm} {S : St} (hR : RX μ S) {s m : Nat} {x : Int32} (hs : s < 8) (hm : m < 2147483648) : MCX l δ b yX11_noSuchPart cX11_noSuchPart 4 (some .boolean) 1 [.ref (b + 0), .int (nI s), .int x, .int (nI m)] μ (pI fun r μ' => r = bI (nsp S s x m) ∧ μ' = μ) := by
  obtain ⟨B, Bd, tb, hnow, hdr, hT⟩ := hR.2.2.1
  have W := rx_w hR
  have ta := two_ta tb
  have hB := ta.1
  have hBd := ta.2.1
  have bn := ti_n hT.1
  have hz := hR.1.2.2.2.1 s hs
  refine MC.intro ([some (.ref (b + 0)), some (.int (nI s)), some (.int x), some (.int (nI m))]) (by decide) rfl rfl fun κ Qc hl hQ X => ?_
  subst hl
  refine AW.iload_n X dX11_noSuchPart_0 (i := 2) rfl rfl ?_
  refine AW.if_lt X (tgt := 26) dX11_noSuchPart_1 (by decide) (fun h1 => ?_) (fun h1 => ?_)
  · refine AW.iconstN X 1 dX11_noSuchPart_26 rfl ?_
    refine AW.goto X (tgt := 31) dX11_noSuchPart_27 (by decide) ?_
    refine AW.zret X rfl hQ dX11_noSuchPart_31 ⟨_, rfl, ?_⟩
    have e : nsp S s x m = true := by simp [nsp, *]
    exact ⟨by rw [e]; rfl, rfl⟩
  · refine AW.iload_n X dX11_noSuchPart_4 (i := 3) rfl rfl ?_
    refine AW.aload_n X dX11_noSuchPart_5 (i := 0) rfl rfl ?_
    refine AW.getR X dX11_noSuchPart_6 fX11_13 rfl ox0 (wx_sizes W) ?_
    refine AW.iload_n X dX11_noSuchPart_9 (i := 1) rfl rfl ?_
    refine AW.iaload X dX11_noSuchPart_10 ax2 (n2_in (by omega) (by decide)) (v := (nI (kk S 1 s))) (by rw [n2_clamp (by omega)]; exact rx_size hR (by omega)) ?_
    refine AW.icmp_gtN X (tgt := 26) dX11_noSuchPart_11 (by decide) (by omega) (by omega) (fun h11 => ?_) (fun h11 => ?_)
    · refine AW.iconstN X 1 dX11_noSuchPart_26 rfl ?_
      refine AW.goto X (tgt := 31) dX11_noSuchPart_27 (by decide) ?_
      refine AW.zret X rfl hQ dX11_noSuchPart_31 ⟨_, rfl, ?_⟩
      have e : nsp S s x m = true := by simp [nsp, *]
      exact ⟨by rw [e]; rfl, rfl⟩
    · refine AW.iload_n X dX11_noSuchPart_14 (i := 2) rfl rfl ?_
      refine AW.aload_n X dX11_noSuchPart_15 (i := 0) rfl rfl ?_
      refine AW.getR X dX11_noSuchPart_16 fX11_13 rfl ox0 (wx_sizes W) ?_
      refine AW.iload_n X dX11_noSuchPart_19 (i := 1) rfl rfl ?_
      refine AW.iaload X dX11_noSuchPart_20 ax2 (n2_in (by omega) (by decide)) (v := (nI (kk S 1 s))) (by rw [n2_clamp (by omega)]; exact rx_size hR (by omega)) ?_
      refine AW.iload_n X dX11_noSuchPart_21 (i := 3) rfl rfl ?_
      refine AW.isubN X dX11_noSuchPart_22 (by omega) ?_
      refine AW.icmp_le X (tgt := 30) dX11_noSuchPart_23 (by decide) (fun h23 => ?_) (fun h23 => ?_)
      · replace h23 := Int32.not_lt.mpr h23
        refine AW.iconstN X 0 dX11_noSuchPart_30 rfl ?_
        refine AW.zret X rfl hQ dX11_noSuchPart_31 ⟨_, rfl, ?_⟩
        have e : nsp S s x m = false := by simp [nsp, *]
        exact ⟨by rw [e]; rfl, rfl⟩
      · replace h23 := Int32.not_le.mp h23
        refine AW.iconstN X 1 dX11_noSuchPart_26 rfl ?_
        refine AW.goto X (tgt := 31) dX11_noSuchPart_27 (by decide) ?_
        refine AW.zret X rfl hQ dX11_noSuchPart_31 ⟨_, rfl, ?_⟩
        have e : nsp S s x m = true := by simp [nsp, *]
        exact ⟨by rw [e]; rfl, rfl⟩
theorem c_isH {l : Launch} {δ : Dl} {b : Nat} {μ : Mm} {S : St} (hR : RX μ S) {s : Nat} (hs : s < 8) : MCX l δ b yX11_holdsHouse cX11_holdsHouse 2 (some .boolean) 1 [.ref (b + 0), .int (nI s)] μ (pI fun r μ' => r = bI (isH S s) ∧ μ' = μ) := c_X11_holdsHouse hR hs
theorem c_isRw {l : Launch} {δ : Dl} {b : Nat} {μ : Mm} {S : St} (hR : RX μ S) {s : Nat} (hs : s < 8) : MCX l δ b yX11_holdsRow cX11_holdsRow 2 (some .boolean) 1 [.ref (b + 0), .int (nI s)] μ (pI fun r μ' => r = bI (isRw S s) ∧ μ' = μ) := c_X11_holdsRow hR hs
theorem isH_t {S : St} {s : Nat} (h : isH S s = true) : 1 ≤ kk S 0 s ∧ kk S 0 s ≤ 100 := of_decide_eq_true h
theorem isRw_t {S : St} {s : Nat} (h : isRw S s = true) : 101 ≤ kk S 0 s := of_decide_eq_true h
theorem nsp_of {S : St} {s m : Nat} {x : Int32} (hz : kk S 1 s ≤ 160) (h : nsp S s x m = false) : ∃ i : Nat, i + m ≤ kk S 1 s ∧ x = nI i := by
  simp only [nsp, decide_eq_false_iff_not, not_or] at h
  obtain ⟨i, hi, rfl⟩ := nI_of (x := x) h.1
  refine ⟨i, ?_, rfl⟩
  have h3 := Int32.not_lt.mp h.2.2
  rw [n2_le hi (by omega)] at h3
  omega
set_option maxRecDepth 100000 in
set_option maxHeartbeats 4000000 in
theorem c_X11_copy {l : Launch} {δ : Dl} {b : Nat} {μ : Mm} {S : St} (hR : RX μ S) {x : Int32} {y : Int32} {u : Int32} {v : Int32} {w : Int32} : MCX l δ b yX11_copy cX11_copy 6 (some .int) 3 [.ref (b + 0), .int x, .int y, .int u, .int v, .int w] μ (pI fun r μ' => r = (S_copy S x y u v w).1 ∧ RX μ' (S_copy S x y u v w).2) := by
  obtain ⟨B, Bd, tb, hnow, hdr, hT⟩ := hR.2.2.1
  have W := rx_w hR
  have ta := two_ta tb
  have hB := ta.1
  have hBd := ta.2.1
  have bn := ti_n hT.1
  refine MC.intro ([some (.ref (b + 0)), some (.int x), some (.int y), some (.int u), some (.int v), some (.int w)]) (by decide) rfl rfl fun κ Qc hl hQ X => ?_
  subst hl
  refine AW.iload_n X dX11_copy_0 (i := 1) rfl rfl ?_
  refine AW.bipushN X 8 dX11_copy_1 rfl ?_
  refine AW.callS X dX11_copy_3 lX11_91 (c_X11_outside) rfl rfl rfl rfl ⟨rfl, rfl⟩ (pR_k ?_)
  refine AW.if_neB X (tgt := 18) dX11_copy_6 (by decide) (fun h6 => ?_) (fun h6 => ?_)
  · simp only [Bool.not_eq_true', Bool.not_eq_false'] at h6
    refine AW.aload_n X dX11_copy_18 (i := 0) rfl rfl ?_
    refine AW.iconstN X 1 dX11_copy_19 rfl ?_
    refine AW.callV X dX11_copy_20 lX11_95 cfX11 (c_X11_refuse (k := 1) hR (by first | decide | omega)) ox0 rfl rfl rfl rfl ⟨rfl, rfl⟩ (pI_k fun r μ1 hr => ?_)
    refine AW.iret X hQ dX11_copy_23 ⟨_, rfl, ?_⟩
    refine rx_of ?_ hr
    simp [S_copy, *]
  · simp only [Bool.not_eq_true', Bool.not_eq_false'] at h6
    obtain ⟨p, hp, ep⟩ := inr_of (x := x) (m := 8) (by omega) h6
    subst ep
    have hzp := hR.1.2.2.2.1 p hp
    have hkp := hR.1.2.2.1 p hp
    have cp := cl_n (show p < 2147483648 by omega)
    refine AW.iload_n X dX11_copy_9 (i := 2) rfl rfl ?_
    refine AW.bipushN X 8 dX11_copy_10 rfl ?_
    refine AW.callS X dX11_copy_12 lX11_91 (c_X11_outside) rfl rfl rfl rfl ⟨rfl, rfl⟩ (pR_k ?_)
    refine AW.if_eqB X (tgt := 24) dX11_copy_15 (by decide) (fun h15 => ?_) (fun h15 => ?_)
    · simp only [Bool.not_eq_true', Bool.not_eq_false'] at h15
      obtain ⟨q, hq, eq⟩ := inr_of (x := y) (m := 8) (by omega) h15
      subst eq
      have hzq := hR.1.2.2.2.1 q hq
      have hkq := hR.1.2.2.1 q hq
      have cq := cl_n (show q < 2147483648 by omega)
      refine AW.aload_n X dX11_copy_24 (i := 0) rfl rfl ?_
      refine AW.iload_n X dX11_copy_25 (i := 1) rfl rfl ?_
      refine AW.callV X dX11_copy_26 lX11_106 cfX11 (c_isH hR (by omega)) ox0 rfl rfl rfl rfl ⟨rfl, rfl⟩ (pR_k ?_)
      refine AW.if_neB X (tgt := 71) dX11_copy_29 (by decide) (fun h29 => ?_) (fun h29 => ?_)
      · refine AW.aload_n X dX11_copy_71 (i := 0) rfl rfl ?_
        refine AW.iconstN X 2 dX11_copy_72 rfl ?_
        refine AW.callV X dX11_copy_73 lX11_95 cfX11 (c_X11_refuse (k := 2) hR (by first | decide | omega)) ox0 rfl rfl rfl rfl ⟨rfl, rfl⟩ (pI_k fun r μ1 hr => ?_)
        refine AW.iret X hQ dX11_copy_76 ⟨_, rfl, ?_⟩
        refine rx_of ?_ hr
        simp [S_copy, *]
      · refine AW.aload_n X dX11_copy_32 (i := 0) rfl rfl ?_
        refine AW.iload_n X dX11_copy_33 (i := 2) rfl rfl ?_
        refine AW.callV X dX11_copy_34 lX11_106 cfX11 (c_isH hR (by omega)) ox0 rfl rfl rfl rfl ⟨rfl, rfl⟩ (pR_k ?_)
        refine AW.if_neB X (tgt := 71) dX11_copy_37 (by decide) (fun h37 => ?_) (fun h37 => ?_)
        · refine AW.aload_n X dX11_copy_71 (i := 0) rfl rfl ?_
          refine AW.iconstN X 2 dX11_copy_72 rfl ?_
          refine AW.callV X dX11_copy_73 lX11_95 cfX11 (c_X11_refuse (k := 2) hR (by first | decide | omega)) ox0 rfl rfl rfl rfl ⟨rfl, rfl⟩ (pI_k fun r μ1 hr => ?_)
          refine AW.iret X hQ dX11_copy_76 ⟨_, rfl, ?_⟩
          refine rx_of ?_ hr
          simp [S_copy, *]
        · refine AW.aload_n X dX11_copy_40 (i := 0) rfl rfl ?_
          refine AW.iload_n X dX11_copy_41 (i := 1) rfl rfl ?_
          refine AW.callV X dX11_copy_42 lX11_110 cfX11 (c_isRw hR (by omega)) ox0 rfl rfl rfl rfl ⟨rfl, rfl⟩ (pR_k ?_)
          refine AW.if_eqB X (tgt := 77) dX11_copy_45 (by decide) (fun h45 => ?_) (fun h45 => ?_)
          · refine AW.aload_n X dX11_copy_77 (i := 0) rfl rfl ?_
            refine AW.iload_n X dX11_copy_78 (i := 1) rfl rfl ?_
            refine AW.callV X dX11_copy_79 lX11_110 cfX11 (c_isRw hR (by omega)) ox0 rfl rfl rfl rfl ⟨rfl, rfl⟩ (pR_k ?_)
            refine AW.if_eqB X (tgt := 93) dX11_copy_82 (by decide) (fun h82 => ?_) (fun h82 => ?_)
            · refine AW.aload_n X dX11_copy_93 (i := 0) rfl rfl ?_
              refine AW.iconstN X 3 dX11_copy_94 rfl ?_
              refine AW.callV X dX11_copy_95 lX11_95 cfX11 (c_X11_refuse (k := 3) hR (by first | decide | omega)) ox0 rfl rfl rfl rfl ⟨rfl, rfl⟩ (pI_k fun r μ1 hr => ?_)
              refine AW.iret X hQ dX11_copy_98 ⟨_, rfl, ?_⟩
              refine rx_of ?_ hr
              simp [S_copy, *]
            · exact absurd (h45.symm.trans h82) (by decide)
          · refine AW.aload_n X dX11_copy_48 (i := 0) rfl rfl ?_
            refine AW.iload_n X dX11_copy_49 (i := 2) rfl rfl ?_
            refine AW.callV X dX11_copy_50 lX11_110 cfX11 (c_isRw hR (by omega)) ox0 rfl rfl rfl rfl ⟨rfl, rfl⟩ (pR_k ?_)
            refine AW.if_eqB X (tgt := 77) dX11_copy_53 (by decide) (fun h53 => ?_) (fun h53 => ?_)
            · refine AW.aload_n X dX11_copy_77 (i := 0) rfl rfl ?_
              refine AW.iload_n X dX11_copy_78 (i := 1) rfl rfl ?_
              refine AW.callV X dX11_copy_79 lX11_110 cfX11 (c_isRw hR (by omega)) ox0 rfl rfl rfl rfl ⟨rfl, rfl⟩ (pR_k ?_)
              refine AW.if_eqB X (tgt := 93) dX11_copy_82 (by decide) (fun h82 => ?_) (fun h82 => ?_)
              · exact absurd (h45.symm.trans h82) (by decide)
              · refine AW.aload_n X dX11_copy_85 (i := 0) rfl rfl ?_
                refine AW.iload_n X dX11_copy_86 (i := 2) rfl rfl ?_
                refine AW.callV X dX11_copy_87 lX11_110 cfX11 (c_isRw hR (by omega)) ox0 rfl rfl rfl rfl ⟨rfl, rfl⟩ (pR_k ?_)
                refine AW.if_neB X (tgt := 99) dX11_copy_90 (by decide) (fun h90 => ?_) (fun h90 => ?_)
                · exact absurd (h53.symm.trans h90) (by decide)
                · refine AW.aload_n X dX11_copy_93 (i := 0) rfl rfl ?_
                  refine AW.iconstN X 3 dX11_copy_94 rfl ?_
                  refine AW.callV X dX11_copy_95 lX11_95 cfX11 (c_X11_refuse (k := 3) hR (by first | decide | omega)) ox0 rfl rfl rfl rfl ⟨rfl, rfl⟩ (pI_k fun r μ1 hr => ?_)
                  refine AW.iret X hQ dX11_copy_98 ⟨_, rfl, ?_⟩
                  refine rx_of ?_ hr
                  simp [S_copy, *]
            · refine AW.aload_n X dX11_copy_56 (i := 0) rfl rfl ?_
              refine AW.getR X dX11_copy_57 fX11_9 rfl ox0 (wx_held W) ?_
              refine AW.iload_n X dX11_copy_60 (i := 1) rfl rfl ?_
              refine AW.iaload X dX11_copy_61 ax1 (n2_in (by omega) (by decide)) (v := (dn (kk S 0 p))) (by rw [n2_clamp (by omega)]; exact rx_held hR hp) ?_
              refine AW.aload_n X dX11_copy_62 (i := 0) rfl rfl ?_
              refine AW.getR X dX11_copy_63 fX11_9 rfl ox0 (wx_held W) ?_
              refine AW.iload_n X dX11_copy_66 (i := 2) rfl rfl ?_
              refine AW.iaload X dX11_copy_67 ax1 (n2_in (by omega) (by decide)) (v := (dn (kk S 0 q))) (by rw [n2_clamp (by omega)]; exact rx_held hR hq) ?_
              refine AW.icmp_eq X (tgt := 77) dX11_copy_68 (by decide) (fun h68 => ?_) (fun h68 => ?_)
              · rw [dn_eq (by omega) (by omega)] at h68
                refine AW.aload_n X dX11_copy_77 (i := 0) rfl rfl ?_
                refine AW.iload_n X dX11_copy_78 (i := 1) rfl rfl ?_
                refine AW.callV X dX11_copy_79 lX11_110 cfX11 (c_isRw hR (by omega)) ox0 rfl rfl rfl rfl ⟨rfl, rfl⟩ (pR_k ?_)
                refine AW.if_eqB X (tgt := 93) dX11_copy_82 (by decide) (fun h82 => ?_) (fun h82 => ?_)
                · exact absurd (h45.symm.trans h82) (by decide)
                · refine AW.aload_n X dX11_copy_85 (i := 0) rfl rfl ?_
                  refine AW.iload_n X dX11_copy_86 (i := 2) rfl rfl ?_
                  refine AW.callV X dX11_copy_87 lX11_110 cfX11 (c_isRw hR (by omega)) ox0 rfl rfl rfl rfl ⟨rfl, rfl⟩ (pR_k ?_)
                  refine AW.if_neB X (tgt := 99) dX11_copy_90 (by decide) (fun h90 => ?_) (fun h90 => ?_)
                  · refine AW.iload X dX11_copy_99 rfl ?_
                    refine AW.if_ge X (tgt := 110) dX11_copy_101 (by decide) (fun h101 => ?_) (fun h101 => ?_)
                    · replace h101 := Int32.not_lt.mpr h101
                      obtain ⟨m, hm, em⟩ := nI_of h101
                      subst em
                      have cm := cl_n hm
                      refine AW.aload_n X dX11_copy_110 (i := 0) rfl rfl ?_
                      refine AW.iload_n X dX11_copy_111 (i := 1) rfl rfl ?_
                      refine AW.iload_n X dX11_copy_112 (i := 3) rfl rfl ?_
                      refine AW.iload X dX11_copy_113 rfl ?_
                      refine AW.callV X dX11_copy_115 lX11_113 cfX11 (c_X11_noSuchPart hR (by omega) (by omega)) ox0 rfl rfl rfl rfl ⟨rfl, rfl⟩ (pR_k ?_)
                      refine AW.if_neB X (tgt := 133) dX11_copy_118 (by decide) (fun h118 => ?_) (fun h118 => ?_)
                      · refine AW.aload_n X dX11_copy_133 (i := 0) rfl rfl ?_
                        refine AW.iconstN X 5 dX11_copy_134 rfl ?_
                        refine AW.callV X dX11_copy_135 lX11_95 cfX11 (c_X11_refuse (k := 5) hR (by first | decide | omega)) ox0 rfl rfl rfl rfl ⟨rfl, rfl⟩ (pI_k fun r μ1 hr => ?_)
                        refine AW.iret X hQ dX11_copy_138 ⟨_, rfl, ?_⟩
                        refine rx_of ?_ hr
                        simp [S_copy, *]
                      · obtain ⟨i, hi, ei⟩ := nsp_of hzp h118
                        subst ei
                        have ci := cl_n (show i < 2147483648 by omega)
                        refine AW.aload_n X dX11_copy_121 (i := 0) rfl rfl ?_
                        refine AW.iload_n X dX11_copy_122 (i := 2) rfl rfl ?_
                        refine AW.iload X dX11_copy_123 rfl ?_
                        refine AW.iload X dX11_copy_125 rfl ?_
                        refine AW.callV X dX11_copy_127 lX11_113 cfX11 (c_X11_noSuchPart hR (by omega) (by omega)) ox0 rfl rfl rfl rfl ⟨rfl, rfl⟩ (pR_k ?_)
                        refine AW.if_eqB X (tgt := 139) dX11_copy_130 (by decide) (fun h130 => ?_) (fun h130 => ?_)
                        · obtain ⟨j, hj, ej⟩ := nsp_of hzq h130
                          subst ej
                          have cj := cl_n (show j < 2147483648 by omega)
                          refine AW.aload_n X dX11_copy_139 (i := 0) rfl rfl ?_
                          refine AW.getR X dX11_copy_140 fX11_18 rfl ox0 (wx_elements W) ?_
                          refine AW.iload_n X dX11_copy_143 (i := 1) rfl rfl ?_
                          refine AW.aaload X (r := (4 + p)) dX11_copy_144 rfl rfl ax3 (n2_in (by omega) (by decide)) (by rw [n2_clamp (by omega)]; exact wx_el W (by omega)) ?_
                          refine AW.iload_n X dX11_copy_145 (i := 3) rfl rfl ?_
                          refine AW.aload_n X dX11_copy_146 (i := 0) rfl rfl ?_
                          refine AW.getR X dX11_copy_147 fX11_18 rfl ox0 (wx_elements W) ?_
                          refine AW.iload_n X dX11_copy_150 (i := 2) rfl rfl ?_
                          refine AW.aaload X (r := (4 + q)) dX11_copy_151 rfl rfl ax3 (n2_in (by omega) (by decide)) (by rw [n2_clamp (by omega)]; exact wx_el W (by omega)) ?_
                          refine AW.iload X dX11_copy_152 rfl ?_
                          refine AW.iload X dX11_copy_154 rfl ?_
                          refine AW.acopyL X dX11_copy_156 lX11_copy (ax_el (by omega)) (ax_el (by omega)) (by omega) (by omega) (by decide) (by decide) ⟨rfl, rfl⟩ ?_
                          refine AW.iconstN X 1 dX11_copy_159 rfl ?_
                          refine AW.iret X hQ dX11_copy_160 ⟨_, rfl, ?_⟩
                          refine rx_val (S' := eU S q (va_cpy (S.2.2.2 p) (S.2.2.2 q) i j m)) ?_ (rx_elems hR hq rfl rfl (fun z hz => ?_) (fun i9 hi9 => ?_))
                          · simp [S_copy, *]
                          · funext k9
                            simp [cpL, hz]
                          · simp only [cpL, if_true, va_cpy]
                            split
                            · exact rx_elem hR hp (by omega)
                            · exact rx_elem hR hq hi9
                        · refine AW.aload_n X dX11_copy_133 (i := 0) rfl rfl ?_
                          refine AW.iconstN X 5 dX11_copy_134 rfl ?_
                          refine AW.callV X dX11_copy_135 lX11_95 cfX11 (c_X11_refuse (k := 5) hR (by first | decide | omega)) ox0 rfl rfl rfl rfl ⟨rfl, rfl⟩ (pI_k fun r μ1 hr => ?_)
                          refine AW.iret X hQ dX11_copy_138 ⟨_, rfl, ?_⟩
                          refine rx_of ?_ hr
                          simp [S_copy, *]
                    · replace h101 := Int32.not_le.mp h101
                      refine AW.aload_n X dX11_copy_104 (i := 0) rfl rfl ?_
                      refine AW.iconstN X 4 dX11_copy_105 rfl ?_
                      refine AW.callV X dX11_copy_106 lX11_95 cfX11 (c_X11_refuse (k := 4) hR (by first | decide | omega)) ox0 rfl rfl rfl rfl ⟨rfl, rfl⟩ (pI_k fun r μ1 hr => ?_)
                      refine AW.iret X hQ dX11_copy_109 ⟨_, rfl, ?_⟩
                      refine rx_of ?_ hr
                      simp [S_copy, *]
                  · exact absurd (h53.symm.trans h90) (by decide)
              · rw [dn_eq (by omega) (by omega)] at h68
                refine AW.aload_n X dX11_copy_71 (i := 0) rfl rfl ?_
                refine AW.iconstN X 2 dX11_copy_72 rfl ?_
                refine AW.callV X dX11_copy_73 lX11_95 cfX11 (c_X11_refuse (k := 2) hR (by first | decide | omega)) ox0 rfl rfl rfl rfl ⟨rfl, rfl⟩ (pI_k fun r μ1 hr => ?_)
                refine AW.iret X hQ dX11_copy_76 ⟨_, rfl, ?_⟩
                refine rx_of ?_ hr
                simp [S_copy, *]
    · simp only [Bool.not_eq_true', Bool.not_eq_false'] at h15
      refine AW.aload_n X dX11_copy_18 (i := 0) rfl rfl ?_
      refine AW.iconstN X 1 dX11_copy_19 rfl ?_
      refine AW.callV X dX11_copy_20 lX11_95 cfX11 (c_X11_refuse (k := 1) hR (by first | decide | omega)) ox0 rfl rfl rfl rfl ⟨rfl, rfl⟩ (pI_k fun r μ1 hr => ?_)
      refine AW.iret X hQ dX11_copy_23 ⟨_, rfl, ?_⟩
      refine rx_of ?_ hr
      simp [S_copy, *]
end
