section
-- ===== PART A: goes FIRST, ahead of the names: the tables' words, and 'selects' of the private methods out of them =====
/-- a private method of a class that the tables say can be made, by its rows of tables_1 -/
def lw_okq (q : MethodName × Nat) : Prop := (q.1.cls ≠ "java/lang/invoke/MethodHandle" ∧ q.1.cls ≠ "java/lang/invoke/VarHandle") ∧ Cond.instantiable q.1.cls q.2 ∈ tables_1 ∧ Cond.privateMethod q.1 ∈ tables_1 ∧ Cond.instanceMethod q.1 ∈ tables_1
theorem lw_p0 : lw_okq (⟨"PaintedOver", "refuse", "(I)I"⟩, 14) := ⟨⟨by decide +kernel, by decide +kernel⟩, List.mem_of_getElem? (i := 22) (by decide +kernel), List.mem_of_getElem? (i := 293) (by decide +kernel), List.mem_of_getElem? (i := 294) (by decide +kernel)⟩
theorem lw_p1 : lw_okq (⟨"PaintedOver", "refuseDown", "(II)I"⟩, 14) := ⟨⟨by decide +kernel, by decide +kernel⟩, List.mem_of_getElem? (i := 22) (by decide +kernel), List.mem_of_getElem? (i := 297) (by decide +kernel), List.mem_of_getElem? (i := 298) (by decide +kernel)⟩
theorem lw_p2 : lw_okq (⟨"PaintedOver", "rowTrouble", "(I)I"⟩, 14) := ⟨⟨by decide +kernel, by decide +kernel⟩, List.mem_of_getElem? (i := 22) (by decide +kernel), List.mem_of_getElem? (i := 305) (by decide +kernel), List.mem_of_getElem? (i := 306) (by decide +kernel)⟩
theorem lw_p3 : lw_okq (⟨"PaintedOver", "holdsHouse", "(I)Z"⟩, 14) := ⟨⟨by decide +kernel, by decide +kernel⟩, List.mem_of_getElem? (i := 22) (by decide +kernel), List.mem_of_getElem? (i := 309) (by decide +kernel), List.mem_of_getElem? (i := 310) (by decide +kernel)⟩
theorem lw_p4 : lw_okq (⟨"PaintedOver", "holdsRow", "(I)Z"⟩, 14) := ⟨⟨by decide +kernel, by decide +kernel⟩, List.mem_of_getElem? (i := 22) (by decide +kernel), List.mem_of_getElem? (i := 313) (by decide +kernel), List.mem_of_getElem? (i := 314) (by decide +kernel)⟩
theorem lw_p5 : lw_okq (⟨"PaintedOver", "noSuchPart", "(III)Z"⟩, 14) := ⟨⟨by decide +kernel, by decide +kernel⟩, List.mem_of_getElem? (i := 22) (by decide +kernel), List.mem_of_getElem? (i := 324) (by decide +kernel), List.mem_of_getElem? (i := 325) (by decide +kernel)⟩
theorem lw_p6 : lw_okq (⟨"PaintedOver", "noHouse", "(I)Z"⟩, 14) := ⟨⟨by decide +kernel, by decide +kernel⟩, List.mem_of_getElem? (i := 22) (by decide +kernel), List.mem_of_getElem? (i := 339) (by decide +kernel), List.mem_of_getElem? (i := 340) (by decide +kernel)⟩
theorem lw_p7 : lw_okq (⟨"PaintedOver", "saidBy", "(LPaintedOver$Front;I)I"⟩, 14) := ⟨⟨by decide +kernel, by decide +kernel⟩, List.mem_of_getElem? (i := 22) (by decide +kernel), List.mem_of_getElem? (i := 354) (by decide +kernel), List.mem_of_getElem? (i := 355) (by decide +kernel)⟩
theorem lw_p8 : lw_okq (⟨"PaintedOver", "strengthOfHighest", "(LPaintedOver$Front;)I"⟩, 14) := ⟨⟨by decide +kernel, by decide +kernel⟩, List.mem_of_getElem? (i := 22) (by decide +kernel), List.mem_of_getElem? (i := 401) (by decide +kernel), List.mem_of_getElem? (i := 402) (by decide +kernel)⟩
theorem lw_p9 : lw_okq (⟨"PaintedOver", "noCoat", "(II)Z"⟩, 14) := ⟨⟨by decide +kernel, by decide +kernel⟩, List.mem_of_getElem? (i := 22) (by decide +kernel), List.mem_of_getElem? (i := 479) (by decide +kernel), List.mem_of_getElem? (i := 480) (by decide +kernel)⟩
theorem lw_p10 : lw_okq (⟨"PaintedOver$Reader", "readItem", "()V"⟩, 6) := ⟨⟨by decide +kernel, by decide +kernel⟩, List.mem_of_getElem? (i := 32) (by decide +kernel), List.mem_of_getElem? (i := 505) (by decide +kernel), List.mem_of_getElem? (i := 506) (by decide +kernel)⟩
theorem lw_p11 : lw_okq (⟨"PaintedOver$Reader", "readWord", "()I"⟩, 6) := ⟨⟨by decide +kernel, by decide +kernel⟩, List.mem_of_getElem? (i := 32) (by decide +kernel), List.mem_of_getElem? (i := 509) (by decide +kernel), List.mem_of_getElem? (i := 510) (by decide +kernel)⟩
theorem lw_p12 : lw_okq (⟨"PaintedOver$Reader", "sameLetters", "(Ljava/lang/String;)I"⟩, 6) := ⟨⟨by decide +kernel, by decide +kernel⟩, List.mem_of_getElem? (i := 32) (by decide +kernel), List.mem_of_getElem? (i := 522) (by decide +kernel), List.mem_of_getElem? (i := 523) (by decide +kernel)⟩
theorem lw_p13 : lw_okq (⟨"PaintedOver$Reader", "elementAt", "(I)I"⟩, 6) := ⟨⟨by decide +kernel, by decide +kernel⟩, List.mem_of_getElem? (i := 32) (by decide +kernel), List.mem_of_getElem? (i := 536) (by decide +kernel), List.mem_of_getElem? (i := 537) (by decide +kernel)⟩
theorem lw_p14 : lw_okq (⟨"PaintedOver$Reader", "readHouse", "(I)V"⟩, 6) := ⟨⟨by decide +kernel, by decide +kernel⟩, List.mem_of_getElem? (i := 32) (by decide +kernel), List.mem_of_getElem? (i := 581) (by decide +kernel), List.mem_of_getElem? (i := 582) (by decide +kernel)⟩
theorem lw_p15 : lw_okq (⟨"PaintedOver$Reader", "readNumber", "(II)I"⟩, 6) := ⟨⟨by decide +kernel, by decide +kernel⟩, List.mem_of_getElem? (i := 32) (by decide +kernel), List.mem_of_getElem? (i := 585) (by decide +kernel), List.mem_of_getElem? (i := 586) (by decide +kernel)⟩
def lw_privs_1 : List (MethodName × Nat) := [(⟨"PaintedOver", "refuse", "(I)I"⟩, 14), (⟨"PaintedOver", "refuseDown", "(II)I"⟩, 14), (⟨"PaintedOver", "rowTrouble", "(I)I"⟩, 14), (⟨"PaintedOver", "holdsHouse", "(I)Z"⟩, 14), (⟨"PaintedOver", "holdsRow", "(I)Z"⟩, 14), (⟨"PaintedOver", "noSuchPart", "(III)Z"⟩, 14), (⟨"PaintedOver", "noHouse", "(I)Z"⟩, 14), (⟨"PaintedOver", "saidBy", "(LPaintedOver$Front;I)I"⟩, 14), (⟨"PaintedOver", "strengthOfHighest", "(LPaintedOver$Front;)I"⟩, 14), (⟨"PaintedOver", "noCoat", "(II)Z"⟩, 14), (⟨"PaintedOver$Reader", "readItem", "()V"⟩, 6), (⟨"PaintedOver$Reader", "readWord", "()I"⟩, 6), (⟨"PaintedOver$Reader", "sameLetters", "(Ljava/lang/String;)I"⟩, 6), (⟨"PaintedOver$Reader", "elementAt", "(I)I"⟩, 6), (⟨"PaintedOver$Reader", "readHouse", "(I)V"⟩, 6), (⟨"PaintedOver$Reader", "readNumber", "(II)I"⟩, 6)]
theorem lw_r1 : ∀ q ∈ lw_privs_1, lw_okq q := List.forall_mem_cons.mpr ⟨lw_p0, List.forall_mem_cons.mpr ⟨lw_p1, List.forall_mem_cons.mpr ⟨lw_p2, List.forall_mem_cons.mpr ⟨lw_p3, List.forall_mem_cons.mpr ⟨lw_p4, List.forall_mem_cons.mpr ⟨lw_p5, List.forall_mem_cons.mpr ⟨lw_p6, List.forall_mem_cons.mpr ⟨lw_p7, List.forall_mem_cons.mpr ⟨lw_p8, List.forall_mem_cons.mpr ⟨lw_p9, List.forall_mem_cons.mpr ⟨lw_p10, List.forall_mem_cons.mpr ⟨lw_p11, List.forall_mem_cons.mpr ⟨lw_p12, List.forall_mem_cons.mpr ⟨lw_p13, List.forall_mem_cons.mpr ⟨lw_p14, List.forall_mem_cons.mpr ⟨lw_p15, fun _ h => absurd h List.not_mem_nil⟩⟩⟩⟩⟩⟩⟩⟩⟩⟩⟩⟩⟩⟩⟩⟩
theorem lw_p16 : lw_okq (⟨"PaintedOver$Reader", "stands", "(I)Z"⟩, 6) := ⟨⟨by decide +kernel, by decide +kernel⟩, List.mem_of_getElem? (i := 32) (by decide +kernel), List.mem_of_getElem? (i := 589) (by decide +kernel), List.mem_of_getElem? (i := 590) (by decide +kernel)⟩
theorem lw_p17 : lw_okq (⟨"PaintedOver$Reader", "isDigit", "(I)Z"⟩, 6) := ⟨⟨by decide +kernel, by decide +kernel⟩, List.mem_of_getElem? (i := 32) (by decide +kernel), List.mem_of_getElem? (i := 593) (by decide +kernel), List.mem_of_getElem? (i := 594) (by decide +kernel)⟩
theorem lw_p18 : lw_okq (⟨"PaintedOver$Reader", "readCoat", "()V"⟩, 6) := ⟨⟨by decide +kernel, by decide +kernel⟩, List.mem_of_getElem? (i := 32) (by decide +kernel), List.mem_of_getElem? (i := 598) (by decide +kernel), List.mem_of_getElem? (i := 599) (by decide +kernel)⟩
theorem lw_p19 : lw_okq (⟨"PaintedOver$Reader", "readColour", "([II)V"⟩, 6) := ⟨⟨by decide +kernel, by decide +kernel⟩, List.mem_of_getElem? (i := 32) (by decide +kernel), List.mem_of_getElem? (i := 603) (by decide +kernel), List.mem_of_getElem? (i := 604) (by decide +kernel)⟩
theorem lw_p20 : lw_okq (⟨"PaintedOver$Reader", "readScratch", "()V"⟩, 6) := ⟨⟨by decide +kernel, by decide +kernel⟩, List.mem_of_getElem? (i := 32) (by decide +kernel), List.mem_of_getElem? (i := 629) (by decide +kernel), List.mem_of_getElem? (i := 630) (by decide +kernel)⟩
theorem lw_p21 : lw_okq (⟨"PaintedOver", "cheapest", "(LPaintedOver$Front;I)I"⟩, 14) := ⟨⟨by decide +kernel, by decide +kernel⟩, List.mem_of_getElem? (i := 22) (by decide +kernel), List.mem_of_getElem? (i := 705) (by decide +kernel), List.mem_of_getElem? (i := 706) (by decide +kernel)⟩
theorem lw_p22 : lw_okq (⟨"PaintedOver", "pairsTrouble", "(IIZ)I"⟩, 14) := ⟨⟨by decide +kernel, by decide +kernel⟩, List.mem_of_getElem? (i := 22) (by decide +kernel), List.mem_of_getElem? (i := 725) (by decide +kernel), List.mem_of_getElem? (i := 726) (by decide +kernel)⟩
theorem lw_p23 : lw_okq (⟨"PaintedOver", "forgetPairs", "()V"⟩, 14) := ⟨⟨by decide +kernel, by decide +kernel⟩, List.mem_of_getElem? (i := 22) (by decide +kernel), List.mem_of_getElem? (i := 732) (by decide +kernel), List.mem_of_getElem? (i := 733) (by decide +kernel)⟩
theorem lw_p24 : lw_okq (⟨"PaintedOver", "addPair", "(I)V"⟩, 14) := ⟨⟨by decide +kernel, by decide +kernel⟩, List.mem_of_getElem? (i := 22) (by decide +kernel), List.mem_of_getElem? (i := 736) (by decide +kernel), List.mem_of_getElem? (i := 737) (by decide +kernel)⟩
theorem lw_p25 : lw_okq (⟨"PaintedOver", "countOrders", "()I"⟩, 14) := ⟨⟨by decide +kernel, by decide +kernel⟩, List.mem_of_getElem? (i := 22) (by decide +kernel), List.mem_of_getElem? (i := 740) (by decide +kernel), List.mem_of_getElem? (i := 741) (by decide +kernel)⟩
theorem lw_p26 : lw_okq (⟨"PaintedOver", "mayComeOn", "(II)Z"⟩, 14) := ⟨⟨by decide +kernel, by decide +kernel⟩, List.mem_of_getElem? (i := 22) (by decide +kernel), List.mem_of_getElem? (i := 744) (by decide +kernel), List.mem_of_getElem? (i := 745) (by decide +kernel)⟩
theorem lw_p27 : lw_okq (⟨"PaintedOver", "orderFits", "()Z"⟩, 14) := ⟨⟨by decide +kernel, by decide +kernel⟩, List.mem_of_getElem? (i := 22) (by decide +kernel), List.mem_of_getElem? (i := 749) (by decide +kernel), List.mem_of_getElem? (i := 750) (by decide +kernel)⟩
theorem lw_p28 : lw_okq (⟨"PaintedOver", "lowestOn", "(I)I"⟩, 14) := ⟨⟨by decide +kernel, by decide +kernel⟩, List.mem_of_getElem? (i := 22) (by decide +kernel), List.mem_of_getElem? (i := 753) (by decide +kernel), List.mem_of_getElem? (i := 754) (by decide +kernel)⟩
theorem lw_p29 : lw_okq (⟨"PaintedOver", "inFirstOrder", "(I)I"⟩, 14) := ⟨⟨by decide +kernel, by decide +kernel⟩, List.mem_of_getElem? (i := 22) (by decide +kernel), List.mem_of_getElem? (i := 757) (by decide +kernel), List.mem_of_getElem? (i := 758) (by decide +kernel)⟩
theorem lw_p30 : lw_okq (⟨"PaintedOver$Town", "draw", "(I)I"⟩, 10) := ⟨⟨by decide +kernel, by decide +kernel⟩, List.mem_of_getElem? (i := 138) (by decide +kernel), List.mem_of_getElem? (i := 804) (by decide +kernel), List.mem_of_getElem? (i := 805) (by decide +kernel)⟩
theorem lw_p31 : lw_okq (⟨"PaintedOverModel", "no", "(I)I"⟩, 33) := ⟨⟨by decide +kernel, by decide +kernel⟩, List.mem_of_getElem? (i := 915) (by decide +kernel), List.mem_of_getElem? (i := 1028) (by decide +kernel), List.mem_of_getElem? (i := 1029) (by decide +kernel)⟩
def lw_privs_2 : List (MethodName × Nat) := [(⟨"PaintedOver$Reader", "stands", "(I)Z"⟩, 6), (⟨"PaintedOver$Reader", "isDigit", "(I)Z"⟩, 6), (⟨"PaintedOver$Reader", "readCoat", "()V"⟩, 6), (⟨"PaintedOver$Reader", "readColour", "([II)V"⟩, 6), (⟨"PaintedOver$Reader", "readScratch", "()V"⟩, 6), (⟨"PaintedOver", "cheapest", "(LPaintedOver$Front;I)I"⟩, 14), (⟨"PaintedOver", "pairsTrouble", "(IIZ)I"⟩, 14), (⟨"PaintedOver", "forgetPairs", "()V"⟩, 14), (⟨"PaintedOver", "addPair", "(I)V"⟩, 14), (⟨"PaintedOver", "countOrders", "()I"⟩, 14), (⟨"PaintedOver", "mayComeOn", "(II)Z"⟩, 14), (⟨"PaintedOver", "orderFits", "()Z"⟩, 14), (⟨"PaintedOver", "lowestOn", "(I)I"⟩, 14), (⟨"PaintedOver", "inFirstOrder", "(I)I"⟩, 14), (⟨"PaintedOver$Town", "draw", "(I)I"⟩, 10), (⟨"PaintedOverModel", "no", "(I)I"⟩, 33)]
theorem lw_r2 : ∀ q ∈ lw_privs_2, lw_okq q := List.forall_mem_cons.mpr ⟨lw_p16, List.forall_mem_cons.mpr ⟨lw_p17, List.forall_mem_cons.mpr ⟨lw_p18, List.forall_mem_cons.mpr ⟨lw_p19, List.forall_mem_cons.mpr ⟨lw_p20, List.forall_mem_cons.mpr ⟨lw_p21, List.forall_mem_cons.mpr ⟨lw_p22, List.forall_mem_cons.mpr ⟨lw_p23, List.forall_mem_cons.mpr ⟨lw_p24, List.forall_mem_cons.mpr ⟨lw_p25, List.forall_mem_cons.mpr ⟨lw_p26, List.forall_mem_cons.mpr ⟨lw_p27, List.forall_mem_cons.mpr ⟨lw_p28, List.forall_mem_cons.mpr ⟨lw_p29, List.forall_mem_cons.mpr ⟨lw_p30, List.forall_mem_cons.mpr ⟨lw_p31, fun _ h => absurd h List.not_mem_nil⟩⟩⟩⟩⟩⟩⟩⟩⟩⟩⟩⟩⟩⟩⟩⟩
theorem lw_p32 : lw_okq (⟨"PaintedOverModel", "noRow", "(I)I"⟩, 33) := ⟨⟨by decide +kernel, by decide +kernel⟩, List.mem_of_getElem? (i := 915) (by decide +kernel), List.mem_of_getElem? (i := 1036) (by decide +kernel), List.mem_of_getElem? (i := 1037) (by decide +kernel)⟩
theorem lw_p33 : lw_okq (⟨"PaintedOverModel", "isRow", "(I)Z"⟩, 33) := ⟨⟨by decide +kernel, by decide +kernel⟩, List.mem_of_getElem? (i := 915) (by decide +kernel), List.mem_of_getElem? (i := 1040) (by decide +kernel), List.mem_of_getElem? (i := 1041) (by decide +kernel)⟩
theorem lw_p34 : lw_okq (⟨"PaintedOverModel", "isHouse", "(I)Z"⟩, 33) := ⟨⟨by decide +kernel, by decide +kernel⟩, List.mem_of_getElem? (i := 915) (by decide +kernel), List.mem_of_getElem? (i := 1056) (by decide +kernel), List.mem_of_getElem? (i := 1057) (by decide +kernel)⟩
theorem lw_p35 : lw_okq (⟨"PaintedOverModel", "skinOf", "(I)I"⟩, 33) := ⟨⟨by decide +kernel, by decide +kernel⟩, List.mem_of_getElem? (i := 915) (by decide +kernel), List.mem_of_getElem? (i := 1074) (by decide +kernel), List.mem_of_getElem? (i := 1075) (by decide +kernel)⟩
theorem lw_p36 : lw_okq (⟨"PaintedOverModel", "deepOf", "(II)I"⟩, 33) := ⟨⟨by decide +kernel, by decide +kernel⟩, List.mem_of_getElem? (i := 915) (by decide +kernel), List.mem_of_getElem? (i := 1078) (by decide +kernel), List.mem_of_getElem? (i := 1079) (by decide +kernel)⟩
theorem lw_p37 : lw_okq (⟨"PaintedOverModel", "lies", "(II)I"⟩, 33) := ⟨⟨by decide +kernel, by decide +kernel⟩, List.mem_of_getElem? (i := 915) (by decide +kernel), List.mem_of_getElem? (i := 1082) (by decide +kernel), List.mem_of_getElem? (i := 1083) (by decide +kernel)⟩
theorem lw_p38 : lw_okq (⟨"PaintedOverModel", "sum", "(II)I"⟩, 33) := ⟨⟨by decide +kernel, by decide +kernel⟩, List.mem_of_getElem? (i := 915) (by decide +kernel), List.mem_of_getElem? (i := 1089) (by decide +kernel), List.mem_of_getElem? (i := 1090) (by decide +kernel)⟩
theorem lw_p39 : lw_okq (⟨"PaintedOverModel", "wetOf", "(III)I"⟩, 33) := ⟨⟨by decide +kernel, by decide +kernel⟩, List.mem_of_getElem? (i := 915) (by decide +kernel), List.mem_of_getElem? (i := 1093) (by decide +kernel), List.mem_of_getElem? (i := 1094) (by decide +kernel)⟩
theorem lw_p40 : lw_okq (⟨"PaintedOverModel", "hard", "(III)I"⟩, 33) := ⟨⟨by decide +kernel, by decide +kernel⟩, List.mem_of_getElem? (i := 915) (by decide +kernel), List.mem_of_getElem? (i := 1097) (by decide +kernel), List.mem_of_getElem? (i := 1098) (by decide +kernel)⟩
theorem lw_p41 : lw_okq (⟨"PaintedOverModel", "strength", "(II)I"⟩, 33) := ⟨⟨by decide +kernel, by decide +kernel⟩, List.mem_of_getElem? (i := 915) (by decide +kernel), List.mem_of_getElem? (i := 1102) (by decide +kernel), List.mem_of_getElem? (i := 1103) (by decide +kernel)⟩
theorem lw_p42 : lw_okq (⟨"PaintedOverModel", "newHouse", "(II)I"⟩, 33) := ⟨⟨by decide +kernel, by decide +kernel⟩, List.mem_of_getElem? (i := 915) (by decide +kernel), List.mem_of_getElem? (i := 1110) (by decide +kernel), List.mem_of_getElem? (i := 1111) (by decide +kernel)⟩
theorem lw_p43 : lw_okq (⟨"PaintedOverModel", "bare", "(I)V"⟩, 33) := ⟨⟨by decide +kernel, by decide +kernel⟩, List.mem_of_getElem? (i := 915) (by decide +kernel), List.mem_of_getElem? (i := 1114) (by decide +kernel), List.mem_of_getElem? (i := 1115) (by decide +kernel)⟩
theorem lw_p44 : lw_okq (⟨"PaintedOverModel", "lived", "(I)I"⟩, 33) := ⟨⟨by decide +kernel, by decide +kernel⟩, List.mem_of_getElem? (i := 915) (by decide +kernel), List.mem_of_getElem? (i := 1122) (by decide +kernel), List.mem_of_getElem? (i := 1123) (by decide +kernel)⟩
theorem lw_p45 : lw_okq (⟨"PaintedOverModel", "paints", "(IIIII)I"⟩, 33) := ⟨⟨by decide +kernel, by decide +kernel⟩, List.mem_of_getElem? (i := 915) (by decide +kernel), List.mem_of_getElem? (i := 1141) (by decide +kernel), List.mem_of_getElem? (i := 1142) (by decide +kernel)⟩
theorem lw_p46 : lw_okq (⟨"PaintedOverModel", "isCoat", "(II)Z"⟩, 33) := ⟨⟨by decide +kernel, by decide +kernel⟩, List.mem_of_getElem? (i := 915) (by decide +kernel), List.mem_of_getElem? (i := 1149) (by decide +kernel), List.mem_of_getElem? (i := 1150) (by decide +kernel)⟩
theorem lw_p47 : lw_okq (⟨"PaintedOverModel", "keep", "([I)V"⟩, 33) := ⟨⟨by decide +kernel, by decide +kernel⟩, List.mem_of_getElem? (i := 915) (by decide +kernel), List.mem_of_getElem? (i := 1157) (by decide +kernel), List.mem_of_getElem? (i := 1158) (by decide +kernel)⟩
def lw_privs_3 : List (MethodName × Nat) := [(⟨"PaintedOverModel", "noRow", "(I)I"⟩, 33), (⟨"PaintedOverModel", "isRow", "(I)Z"⟩, 33), (⟨"PaintedOverModel", "isHouse", "(I)Z"⟩, 33), (⟨"PaintedOverModel", "skinOf", "(I)I"⟩, 33), (⟨"PaintedOverModel", "deepOf", "(II)I"⟩, 33), (⟨"PaintedOverModel", "lies", "(II)I"⟩, 33), (⟨"PaintedOverModel", "sum", "(II)I"⟩, 33), (⟨"PaintedOverModel", "wetOf", "(III)I"⟩, 33), (⟨"PaintedOverModel", "hard", "(III)I"⟩, 33), (⟨"PaintedOverModel", "strength", "(II)I"⟩, 33), (⟨"PaintedOverModel", "newHouse", "(II)I"⟩, 33), (⟨"PaintedOverModel", "bare", "(I)V"⟩, 33), (⟨"PaintedOverModel", "lived", "(I)I"⟩, 33), (⟨"PaintedOverModel", "paints", "(IIIII)I"⟩, 33), (⟨"PaintedOverModel", "isCoat", "(II)Z"⟩, 33), (⟨"PaintedOverModel", "keep", "([I)V"⟩, 33)]
theorem lw_r3 : ∀ q ∈ lw_privs_3, lw_okq q := List.forall_mem_cons.mpr ⟨lw_p32, List.forall_mem_cons.mpr ⟨lw_p33, List.forall_mem_cons.mpr ⟨lw_p34, List.forall_mem_cons.mpr ⟨lw_p35, List.forall_mem_cons.mpr ⟨lw_p36, List.forall_mem_cons.mpr ⟨lw_p37, List.forall_mem_cons.mpr ⟨lw_p38, List.forall_mem_cons.mpr ⟨lw_p39, List.forall_mem_cons.mpr ⟨lw_p40, List.forall_mem_cons.mpr ⟨lw_p41, List.forall_mem_cons.mpr ⟨lw_p42, List.forall_mem_cons.mpr ⟨lw_p43, List.forall_mem_cons.mpr ⟨lw_p44, List.forall_mem_cons.mpr ⟨lw_p45, List.forall_mem_cons.mpr ⟨lw_p46, List.forall_mem_cons.mpr ⟨lw_p47, fun _ h => absurd h List.not_mem_nil⟩⟩⟩⟩⟩⟩⟩⟩⟩⟩⟩⟩⟩⟩⟩⟩
theorem lw_p48 : lw_okq (⟨"PaintedOverModel", "item", "()Z"⟩, 33) := ⟨⟨by decide +kernel, by decide +kernel⟩, List.mem_of_getElem? (i := 915) (by decide +kernel), List.mem_of_getElem? (i := 1161) (by decide +kernel), List.mem_of_getElem? (i := 1162) (by decide +kernel)⟩
theorem lw_p49 : lw_okq (⟨"PaintedOverModel", "is", "(C)Z"⟩, 33) := ⟨⟨by decide +kernel, by decide +kernel⟩, List.mem_of_getElem? (i := 915) (by decide +kernel), List.mem_of_getElem? (i := 1165) (by decide +kernel), List.mem_of_getElem? (i := 1166) (by decide +kernel)⟩
theorem lw_p50 : lw_okq (⟨"PaintedOverModel", "sign", "()I"⟩, 33) := ⟨⟨by decide +kernel, by decide +kernel⟩, List.mem_of_getElem? (i := 915) (by decide +kernel), List.mem_of_getElem? (i := 1169) (by decide +kernel), List.mem_of_getElem? (i := 1170) (by decide +kernel)⟩
theorem lw_p51 : lw_okq (⟨"PaintedOverModel", "word", "(Ljava/lang/String;)Z"⟩, 33) := ⟨⟨by decide +kernel, by decide +kernel⟩, List.mem_of_getElem? (i := 915) (by decide +kernel), List.mem_of_getElem? (i := 1174) (by decide +kernel), List.mem_of_getElem? (i := 1175) (by decide +kernel)⟩
theorem lw_p52 : lw_okq (⟨"PaintedOverModel", "number", "(III)Z"⟩, 33) := ⟨⟨by decide +kernel, by decide +kernel⟩, List.mem_of_getElem? (i := 915) (by decide +kernel), List.mem_of_getElem? (i := 1180) (by decide +kernel), List.mem_of_getElem? (i := 1181) (by decide +kernel)⟩
theorem lw_p53 : lw_okq (⟨"PaintedOverModel", "sign", "(I)I"⟩, 33) := ⟨⟨by decide +kernel, by decide +kernel⟩, List.mem_of_getElem? (i := 915) (by decide +kernel), List.mem_of_getElem? (i := 1184) (by decide +kernel), List.mem_of_getElem? (i := 1185) (by decide +kernel)⟩
theorem lw_p54 : lw_okq (⟨"PaintedOverModel", "hailAll", "(I)I"⟩, 33) := ⟨⟨by decide +kernel, by decide +kernel⟩, List.mem_of_getElem? (i := 915) (by decide +kernel), List.mem_of_getElem? (i := 1200) (by decide +kernel), List.mem_of_getElem? (i := 1201) (by decide +kernel)⟩
theorem lw_p55 : lw_okq (⟨"PaintedOverModel", "behind", "(III)I"⟩, 33) := ⟨⟨by decide +kernel, by decide +kernel⟩, List.mem_of_getElem? (i := 915) (by decide +kernel), List.mem_of_getElem? (i := 1204) (by decide +kernel), List.mem_of_getElem? (i := 1205) (by decide +kernel)⟩
theorem lw_p56 : lw_okq (⟨"PaintedOverModel", "again", "([I)V"⟩, 33) := ⟨⟨by decide +kernel, by decide +kernel⟩, List.mem_of_getElem? (i := 915) (by decide +kernel), List.mem_of_getElem? (i := 1211) (by decide +kernel), List.mem_of_getElem? (i := 1212) (by decide +kernel)⟩
theorem lw_p57 : lw_okq (⟨"PaintedOverModel", "no10", "(I)I"⟩, 33) := ⟨⟨by decide +kernel, by decide +kernel⟩, List.mem_of_getElem? (i := 915) (by decide +kernel), List.mem_of_getElem? (i := 1223) (by decide +kernel), List.mem_of_getElem? (i := 1224) (by decide +kernel)⟩
theorem lw_p58 : lw_okq (⟨"PaintedOverModel", "seenAt", "(III)I"⟩, 33) := ⟨⟨by decide +kernel, by decide +kernel⟩, List.mem_of_getElem? (i := 915) (by decide +kernel), List.mem_of_getElem? (i := 1230) (by decide +kernel), List.mem_of_getElem? (i := 1231) (by decide +kernel)⟩
theorem lw_p59 : lw_okq (⟨"PaintedOverModel", "seenIn", "(III)I"⟩, 33) := ⟨⟨by decide +kernel, by decide +kernel⟩, List.mem_of_getElem? (i := 915) (by decide +kernel), List.mem_of_getElem? (i := 1234) (by decide +kernel), List.mem_of_getElem? (i := 1235) (by decide +kernel)⟩
theorem lw_p60 : lw_okq (⟨"PaintedOverModel", "seenAll", "(II)I"⟩, 33) := ⟨⟨by decide +kernel, by decide +kernel⟩, List.mem_of_getElem? (i := 915) (by decide +kernel), List.mem_of_getElem? (i := 1262) (by decide +kernel), List.mem_of_getElem? (i := 1263) (by decide +kernel)⟩
theorem lw_p61 : lw_okq (⟨"PaintedOverModel", "noPairs", "(IIZ)I"⟩, 33) := ⟨⟨by decide +kernel, by decide +kernel⟩, List.mem_of_getElem? (i := 915) (by decide +kernel), List.mem_of_getElem? (i := 1290) (by decide +kernel), List.mem_of_getElem? (i := 1291) (by decide +kernel)⟩
theorem lw_p62 : lw_okq (⟨"PaintedOverModel", "pairs", "(II)V"⟩, 33) := ⟨⟨by decide +kernel, by decide +kernel⟩, List.mem_of_getElem? (i := 915) (by decide +kernel), List.mem_of_getElem? (i := 1294) (by decide +kernel), List.mem_of_getElem? (i := 1295) (by decide +kernel)⟩
theorem lw_p63 : lw_okq (⟨"PaintedOverModel", "ordersFrom", "(I)I"⟩, 33) := ⟨⟨by decide +kernel, by decide +kernel⟩, List.mem_of_getElem? (i := 915) (by decide +kernel), List.mem_of_getElem? (i := 1298) (by decide +kernel), List.mem_of_getElem? (i := 1299) (by decide +kernel)⟩
def lw_privs_4 : List (MethodName × Nat) := [(⟨"PaintedOverModel", "item", "()Z"⟩, 33), (⟨"PaintedOverModel", "is", "(C)Z"⟩, 33), (⟨"PaintedOverModel", "sign", "()I"⟩, 33), (⟨"PaintedOverModel", "word", "(Ljava/lang/String;)Z"⟩, 33), (⟨"PaintedOverModel", "number", "(III)Z"⟩, 33), (⟨"PaintedOverModel", "sign", "(I)I"⟩, 33), (⟨"PaintedOverModel", "hailAll", "(I)I"⟩, 33), (⟨"PaintedOverModel", "behind", "(III)I"⟩, 33), (⟨"PaintedOverModel", "again", "([I)V"⟩, 33), (⟨"PaintedOverModel", "no10", "(I)I"⟩, 33), (⟨"PaintedOverModel", "seenAt", "(III)I"⟩, 33), (⟨"PaintedOverModel", "seenIn", "(III)I"⟩, 33), (⟨"PaintedOverModel", "seenAll", "(II)I"⟩, 33), (⟨"PaintedOverModel", "noPairs", "(IIZ)I"⟩, 33), (⟨"PaintedOverModel", "pairs", "(II)V"⟩, 33), (⟨"PaintedOverModel", "ordersFrom", "(I)I"⟩, 33)]
theorem lw_r4 : ∀ q ∈ lw_privs_4, lw_okq q := List.forall_mem_cons.mpr ⟨lw_p48, List.forall_mem_cons.mpr ⟨lw_p49, List.forall_mem_cons.mpr ⟨lw_p50, List.forall_mem_cons.mpr ⟨lw_p51, List.forall_mem_cons.mpr ⟨lw_p52, List.forall_mem_cons.mpr ⟨lw_p53, List.forall_mem_cons.mpr ⟨lw_p54, List.forall_mem_cons.mpr ⟨lw_p55, List.forall_mem_cons.mpr ⟨lw_p56, List.forall_mem_cons.mpr ⟨lw_p57, List.forall_mem_cons.mpr ⟨lw_p58, List.forall_mem_cons.mpr ⟨lw_p59, List.forall_mem_cons.mpr ⟨lw_p60, List.forall_mem_cons.mpr ⟨lw_p61, List.forall_mem_cons.mpr ⟨lw_p62, List.forall_mem_cons.mpr ⟨lw_p63, fun _ h => absurd h List.not_mem_nil⟩⟩⟩⟩⟩⟩⟩⟩⟩⟩⟩⟩⟩⟩⟩⟩
theorem lw_p64 : lw_okq (⟨"PaintedOverModel", "deepest", "(I)I"⟩, 33) := ⟨⟨by decide +kernel, by decide +kernel⟩, List.mem_of_getElem? (i := 915) (by decide +kernel), List.mem_of_getElem? (i := 1310) (by decide +kernel), List.mem_of_getElem? (i := 1311) (by decide +kernel)⟩
theorem lw_p65 : lw_okq (⟨"PaintedOverModel", "fall", "()I"⟩, 33) := ⟨⟨by decide +kernel, by decide +kernel⟩, List.mem_of_getElem? (i := 915) (by decide +kernel), List.mem_of_getElem? (i := 1330) (by decide +kernel), List.mem_of_getElem? (i := 1331) (by decide +kernel)⟩
theorem lw_p66 : lw_okq (⟨"PaintedOverModel", "draw", "(I)I"⟩, 33) := ⟨⟨by decide +kernel, by decide +kernel⟩, List.mem_of_getElem? (i := 915) (by decide +kernel), List.mem_of_getElem? (i := 1338) (by decide +kernel), List.mem_of_getElem? (i := 1339) (by decide +kernel)⟩
theorem lw_p67 : lw_okq (⟨"PaintedOverModel", "paintsAct", "(II)I"⟩, 33) := ⟨⟨by decide +kernel, by decide +kernel⟩, List.mem_of_getElem? (i := 915) (by decide +kernel), List.mem_of_getElem? (i := 1351) (by decide +kernel), List.mem_of_getElem? (i := 1352) (by decide +kernel)⟩
theorem lw_p68 : lw_okq (⟨"PaintedOverModel", "ran", "(I)V"⟩, 33) := ⟨⟨by decide +kernel, by decide +kernel⟩, List.mem_of_getElem? (i := 915) (by decide +kernel), List.mem_of_getElem? (i := 1355) (by decide +kernel), List.mem_of_getElem? (i := 1356) (by decide +kernel)⟩
theorem lw_p69 : lw_okq (⟨"PaintedOverModel", "peels", "(II)I"⟩, 33) := ⟨⟨by decide +kernel, by decide +kernel⟩, List.mem_of_getElem? (i := 915) (by decide +kernel), List.mem_of_getElem? (i := 1359) (by decide +kernel), List.mem_of_getElem? (i := 1360) (by decide +kernel)⟩
theorem lw_p70 : lw_okq (⟨"PaintedOverModel", "fallsAct", "(II)I"⟩, 33) := ⟨⟨by decide +kernel, by decide +kernel⟩, List.mem_of_getElem? (i := 915) (by decide +kernel), List.mem_of_getElem? (i := 1363) (by decide +kernel), List.mem_of_getElem? (i := 1364) (by decide +kernel)⟩
def lw_privs_5 : List (MethodName × Nat) := [(⟨"PaintedOverModel", "deepest", "(I)I"⟩, 33), (⟨"PaintedOverModel", "fall", "()I"⟩, 33), (⟨"PaintedOverModel", "draw", "(I)I"⟩, 33), (⟨"PaintedOverModel", "paintsAct", "(II)I"⟩, 33), (⟨"PaintedOverModel", "ran", "(I)V"⟩, 33), (⟨"PaintedOverModel", "peels", "(II)I"⟩, 33), (⟨"PaintedOverModel", "fallsAct", "(II)I"⟩, 33)]
theorem lw_r5 : ∀ q ∈ lw_privs_5, lw_okq q := List.forall_mem_cons.mpr ⟨lw_p64, List.forall_mem_cons.mpr ⟨lw_p65, List.forall_mem_cons.mpr ⟨lw_p66, List.forall_mem_cons.mpr ⟨lw_p67, List.forall_mem_cons.mpr ⟨lw_p68, List.forall_mem_cons.mpr ⟨lw_p69, List.forall_mem_cons.mpr ⟨lw_p70, fun _ h => absurd h List.not_mem_nil⟩⟩⟩⟩⟩⟩⟩
def lw_privs : List (MethodName × Nat) := lw_privs_1 ++ (lw_privs_2 ++ (lw_privs_3 ++ (lw_privs_4 ++ (lw_privs_5))))
def lw_tbl : List Cond := k2_sels lw_privs ++ tables_1
theorem lw_privs_ok : ∀ q ∈ lw_privs, lw_okq q := by
  show ∀ q ∈ lw_privs_1 ++ (lw_privs_2 ++ (lw_privs_3 ++ (lw_privs_4 ++ (lw_privs_5)))), lw_okq q
  exact List.forall_mem_append.mpr ⟨lw_r1, List.forall_mem_append.mpr ⟨lw_r2, List.forall_mem_append.mpr ⟨lw_r3, List.forall_mem_append.mpr ⟨lw_r4, lw_r5⟩⟩⟩⟩
-- ===== end of PART A; then your names; then what follows =====
def RX0 : String := "PaintedOver$Bare"
def TX0 : u_T := fun k => match k with
  | _ => ("", "", "", false)
def tyX0 : Nat → FieldType := fun k => match k with
  | _ => .int
theorem nmX0 : ∀ a, a < 0 → ∀ b, b < 0 → a ≠ b → (TX0 a).2.1 ≠ (TX0 b).2.1 := by decide +kernel
theorem tyX0_ok : ∀ k, k < 0 → parseFieldDescriptor (TX0 k).2.2.1 = some (tyX0 k) := by decide +kernel
abbrev cX0_init : ByteArray := prog_2_method_1_code
def yX0_init : MethodName := ⟨RX0, "<init>", "()V"⟩
abbrev cX0_hardness : ByteArray := prog_2_method_2_code
def yX0_hardness : MethodName := ⟨RX0, "hardness", "(III)I"⟩
abbrev cX0_actPaints : ByteArray := prog_2_method_3_code
def yX0_actPaints : MethodName := ⟨RX0, "actPaints", "(LPaintedOver$Trace;I)I"⟩
abbrev cX0_actPeels : ByteArray := prog_2_method_4_code
def yX0_actPeels : MethodName := ⟨RX0, "actPeels", "(LPaintedOver$Trace;I)I"⟩
def RX1 : String := "PaintedOver$Cellar"
def TX1 : u_T := fun k => match k with
  | _ => ("", "", "", false)
def tyX1 : Nat → FieldType := fun k => match k with
  | _ => .int
theorem nmX1 : ∀ a, a < 0 → ∀ b, b < 0 → a ≠ b → (TX1 a).2.1 ≠ (TX1 b).2.1 := by decide +kernel
theorem tyX1_ok : ∀ k, k < 0 → parseFieldDescriptor (TX1 k).2.2.1 = some (tyX1 k) := by decide +kernel
abbrev cX1_init : ByteArray := prog_3_method_1_code
def yX1_init : MethodName := ⟨RX1, "<init>", "()V"⟩
abbrev cX1_wetness : ByteArray := prog_3_method_2_code
def yX1_wetness : MethodName := ⟨RX1, "wetness", "(III)I"⟩
abbrev cX1_actPeels : ByteArray := prog_3_method_3_code
def yX1_actPeels : MethodName := ⟨RX1, "actPeels", "(LPaintedOver$Trace;I)I"⟩
def RX2 : String := "PaintedOver$Damp"
def TX2 : u_T := fun k => match k with
  | _ => ("", "", "", false)
def tyX2 : Nat → FieldType := fun k => match k with
  | _ => .int
theorem nmX2 : ∀ a, a < 0 → ∀ b, b < 0 → a ≠ b → (TX2 a).2.1 ≠ (TX2 b).2.1 := by decide +kernel
theorem tyX2_ok : ∀ k, k < 0 → parseFieldDescriptor (TX2 k).2.2.1 = some (tyX2 k) := by decide +kernel
abbrev cX2_init : ByteArray := prog_4_method_1_code
def yX2_init : MethodName := ⟨RX2, "<init>", "()V"⟩
abbrev cX2_wetness : ByteArray := prog_4_method_2_code
def yX2_wetness : MethodName := ⟨RX2, "wetness", "(III)I"⟩
abbrev cX2_actPaints : ByteArray := prog_4_method_3_code
def yX2_actPaints : MethodName := ⟨RX2, "actPaints", "(LPaintedOver$Trace;I)I"⟩
def RX3 : String := "PaintedOver$Front"
def TX3 : u_T := fun k => match k with
  | 0 => ("PaintedOver$Front", "kind", "LPaintedOver$Kind;", false)
  | 1 => ("PaintedOver$Front", "kindNumber", "I", false)
  | 2 => ("PaintedOver$Front", "a", "I", false)
  | 3 => ("PaintedOver$Front", "coats", "I", false)
  | 4 => ("PaintedOver$Front", "tenant", "[I", true)
  | 5 => ("PaintedOver$Front", "colour", "[I", true)
  | 6 => ("PaintedOver$Front", "thick", "[I", true)
  | 7 => ("PaintedOver$Front", "gap", "[I", true)
  | 8 => ("PaintedOver$Front", "year", "[I", true)
  | _ => ("PaintedOver$Front", "gone", "[I", true)
def tyX3 : Nat → FieldType := fun k => match k with
  | 0 => .object "PaintedOver$Kind"
  | 1 => .int
  | 2 => .int
  | 3 => .int
  | 4 => .array .int
  | 5 => .array .int
  | 6 => .array .int
  | 7 => .array .int
  | 8 => .array .int
  | _ => .array .int
theorem nmX3 : ∀ a, a < 10 → ∀ b, b < 10 → a ≠ b → (TX3 a).2.1 ≠ (TX3 b).2.1 := by decide +kernel
theorem tyX3_ok : ∀ k, k < 10 → parseFieldDescriptor (TX3 k).2.2.1 = some (tyX3 k) := by decide +kernel
abbrev cX3_init : ByteArray := prog_5_method_1_code
def yX3_init : MethodName := ⟨RX3, "<init>", "(LPaintedOver$Kind;)V"⟩
abbrev cX3_become : ByteArray := prog_5_method_2_code
def yX3_become : MethodName := ⟨RX3, "become", "(LPaintedOver$Front;)V"⟩
abbrev cX3_clear : ByteArray := prog_5_method_3_code
def yX3_clear : MethodName := ⟨RX3, "clear", "()V"⟩
abbrev cX3_putOn : ByteArray := prog_5_method_4_code
def yX3_putOn : MethodName := ⟨RX3, "putOn", "(IIIII)I"⟩
abbrev cX3_lies : ByteArray := prog_5_method_5_code
def yX3_lies : MethodName := ⟨RX3, "lies", "(II)Z"⟩
abbrev cX3_lyingIn : ByteArray := prog_5_method_6_code
def yX3_lyingIn : MethodName := ⟨RX3, "lyingIn", "(I)I"⟩
abbrev cX3_cellsOf : ByteArray := prog_5_method_7_code
def yX3_cellsOf : MethodName := ⟨RX3, "cellsOf", "(I)I"⟩
abbrev cX3_depthFrom : ByteArray := prog_5_method_8_code
def yX3_depthFrom : MethodName := ⟨RX3, "depthFrom", "(II)I"⟩
abbrev cX3_depth : ByteArray := prog_5_method_9_code
def yX3_depth : MethodName := ⟨RX3, "depth", "(I)I"⟩
abbrev cX3_greatestDepth : ByteArray := prog_5_method_10_code
def yX3_greatestDepth : MethodName := ⟨RX3, "greatestDepth", "()I"⟩
abbrev cX3_wholeSkin : ByteArray := prog_5_method_11_code
def yX3_wholeSkin : MethodName := ⟨RX3, "wholeSkin", "()I"⟩
abbrev cX3_lived : ByteArray := prog_5_method_12_code
def yX3_lived : MethodName := ⟨RX3, "lived", "()I"⟩
abbrev cX3_coatsOf : ByteArray := prog_5_method_13_code
def yX3_coatsOf : MethodName := ⟨RX3, "coatsOf", "(I)I"⟩
abbrev cX3_wetness : ByteArray := prog_5_method_14_code
def yX3_wetness : MethodName := ⟨RX3, "wetness", "(II)I"⟩
abbrev cX3_hardness : ByteArray := prog_5_method_15_code
def yX3_hardness : MethodName := ⟨RX3, "hardness", "(II)I"⟩
abbrev cX3_wettestBut : ByteArray := prog_5_method_16_code
def yX3_wettestBut : MethodName := ⟨RX3, "wettestBut", "(II)I"⟩
abbrev cX3_behindHail : ByteArray := prog_5_method_17_code
def yX3_behindHail : MethodName := ⟨RX3, "behindHail", "(II)I"⟩
abbrev cX3_hailInTruth : ByteArray := prog_5_method_18_code
def yX3_hailInTruth : MethodName := ⟨RX3, "hailInTruth", "(II)I"⟩
abbrev cX3_takeUppermost : ByteArray := prog_5_method_19_code
def yX3_takeUppermost : MethodName := ⟨RX3, "takeUppermost", "(I)I"⟩
def RX4 : String := "PaintedOver$Kind"
def TX4 : u_T := fun k => match k with
  | _ => ("", "", "", false)
def tyX4 : Nat → FieldType := fun k => match k with
  | _ => .int
theorem nmX4 : ∀ a, a < 0 → ∀ b, b < 0 → a ≠ b → (TX4 a).2.1 ≠ (TX4 b).2.1 := by decide +kernel
theorem tyX4_ok : ∀ k, k < 0 → parseFieldDescriptor (TX4 k).2.2.1 = some (tyX4 k) := by decide +kernel
abbrev cX4_init : ByteArray := prog_6_method_1_code
def yX4_init : MethodName := ⟨RX4, "<init>", "()V"⟩
abbrev cX4_wetness : ByteArray := prog_6_method_2_code
def yX4_wetness : MethodName := ⟨RX4, "wetness", "(III)I"⟩
abbrev cX4_hardness : ByteArray := prog_6_method_3_code
def yX4_hardness : MethodName := ⟨RX4, "hardness", "(III)I"⟩
abbrev cX4_counted : ByteArray := prog_6_method_4_code
def yX4_counted : MethodName := ⟨RX4, "counted", "(I)I"⟩
abbrev cX4_actPaints : ByteArray := prog_6_method_5_code
def yX4_actPaints : MethodName := ⟨RX4, "actPaints", "(LPaintedOver$Trace;I)I"⟩
abbrev cX4_actPeels : ByteArray := prog_6_method_6_code
def yX4_actPeels : MethodName := ⟨RX4, "actPeels", "(LPaintedOver$Trace;I)I"⟩
abbrev cX4_actFalls : ByteArray := prog_6_method_7_code
def yX4_actFalls : MethodName := ⟨RX4, "actFalls", "(LPaintedOver$Trace;I)I"⟩
def RX5 : String := "PaintedOver$Limed"
def TX5 : u_T := fun k => match k with
  | _ => ("", "", "", false)
def tyX5 : Nat → FieldType := fun k => match k with
  | _ => .int
theorem nmX5 : ∀ a, a < 0 → ∀ b, b < 0 → a ≠ b → (TX5 a).2.1 ≠ (TX5 b).2.1 := by decide +kernel
theorem tyX5_ok : ∀ k, k < 0 → parseFieldDescriptor (TX5 k).2.2.1 = some (tyX5 k) := by decide +kernel
abbrev cX5_init : ByteArray := prog_7_method_1_code
def yX5_init : MethodName := ⟨RX5, "<init>", "()V"⟩
abbrev cX5_hardness : ByteArray := prog_7_method_2_code
def yX5_hardness : MethodName := ⟨RX5, "hardness", "(III)I"⟩
abbrev cX5_actPeels : ByteArray := prog_7_method_3_code
def yX5_actPeels : MethodName := ⟨RX5, "actPeels", "(LPaintedOver$Trace;I)I"⟩
def RX6 : String := "PaintedOver$Reader"
def TX6 : u_T := fun k => match k with
  | 0 => ("PaintedOver$Reader", "town", "LPaintedOver$Town;", false)
  | 1 => ("PaintedOver$Reader", "row", "[J", false)
  | 2 => ("PaintedOver$Reader", "size", "I", false)
  | 3 => ("PaintedOver$Reader", "at", "I", false)
  | 4 => ("PaintedOver$Reader", "numberAt", "I", false)
  | _ => ("PaintedOver$Reader", "fault", "I", false)
def tyX6 : Nat → FieldType := fun k => match k with
  | 0 => .object "PaintedOver$Town"
  | 1 => .array .long
  | 2 => .int
  | 3 => .int
  | 4 => .int
  | _ => .int
theorem nmX6 : ∀ a, a < 6 → ∀ b, b < 6 → a ≠ b → (TX6 a).2.1 ≠ (TX6 b).2.1 := by decide +kernel
theorem tyX6_ok : ∀ k, k < 6 → parseFieldDescriptor (TX6 k).2.2.1 = some (tyX6 k) := by decide +kernel
abbrev cX6_init : ByteArray := prog_8_method_1_code
def yX6_init : MethodName := ⟨RX6, "<init>", "()V"⟩
abbrev cX6_readAll : ByteArray := prog_8_method_2_code
def yX6_readAll : MethodName := ⟨RX6, "readAll", "(LPaintedOver$Town;[JI)I"⟩
abbrev cX6_readItem : ByteArray := prog_8_method_3_code
def yX6_readItem : MethodName := ⟨RX6, "readItem", "()V"⟩
abbrev cX6_word : ByteArray := prog_8_method_4_code
def yX6_word : MethodName := ⟨RX6, "word", "(I)Ljava/lang/String;"⟩
abbrev cX6_readWord : ByteArray := prog_8_method_5_code
def yX6_readWord : MethodName := ⟨RX6, "readWord", "()I"⟩
abbrev cX6_sameLetters : ByteArray := prog_8_method_6_code
def yX6_sameLetters : MethodName := ⟨RX6, "sameLetters", "(Ljava/lang/String;)I"⟩
abbrev cX6_readHouse : ByteArray := prog_8_method_7_code
def yX6_readHouse : MethodName := ⟨RX6, "readHouse", "(I)V"⟩
abbrev cX6_readCoat : ByteArray := prog_8_method_8_code
def yX6_readCoat : MethodName := ⟨RX6, "readCoat", "()V"⟩
abbrev cX6_readColour : ByteArray := prog_8_method_9_code
def yX6_readColour : MethodName := ⟨RX6, "readColour", "([II)V"⟩
abbrev cX6_readScratch : ByteArray := prog_8_method_10_code
def yX6_readScratch : MethodName := ⟨RX6, "readScratch", "()V"⟩
abbrev cX6_readNumber : ByteArray := prog_8_method_11_code
def yX6_readNumber : MethodName := ⟨RX6, "readNumber", "(II)I"⟩
abbrev cX6_stands : ByteArray := prog_8_method_12_code
def yX6_stands : MethodName := ⟨RX6, "stands", "(I)Z"⟩
abbrev cX6_isDigit : ByteArray := prog_8_method_13_code
def yX6_isDigit : MethodName := ⟨RX6, "isDigit", "(I)Z"⟩
abbrev cX6_elementAt : ByteArray := prog_8_method_14_code
def yX6_elementAt : MethodName := ⟨RX6, "elementAt", "(I)I"⟩
def RX7 : String := "PaintedOver$South"
def TX7 : u_T := fun k => match k with
  | _ => ("", "", "", false)
def tyX7 : Nat → FieldType := fun k => match k with
  | _ => .int
theorem nmX7 : ∀ a, a < 0 → ∀ b, b < 0 → a ≠ b → (TX7 a).2.1 ≠ (TX7 b).2.1 := by decide +kernel
theorem tyX7_ok : ∀ k, k < 0 → parseFieldDescriptor (TX7 k).2.2.1 = some (tyX7 k) := by decide +kernel
abbrev cX7_init : ByteArray := prog_9_method_1_code
def yX7_init : MethodName := ⟨RX7, "<init>", "()V"⟩
abbrev cX7_counted : ByteArray := prog_9_method_2_code
def yX7_counted : MethodName := ⟨RX7, "counted", "(I)I"⟩
abbrev cX7_actFalls : ByteArray := prog_9_method_3_code
def yX7_actFalls : MethodName := ⟨RX7, "actFalls", "(LPaintedOver$Trace;I)I"⟩
abbrev cX7_actPaints : ByteArray := prog_9_method_4_code
def yX7_actPaints : MethodName := ⟨RX7, "actPaints", "(LPaintedOver$Trace;I)I"⟩
def RX8 : String := "PaintedOver$Tiled"
def TX8 : u_T := fun k => match k with
  | _ => ("", "", "", false)
def tyX8 : Nat → FieldType := fun k => match k with
  | _ => .int
theorem nmX8 : ∀ a, a < 0 → ∀ b, b < 0 → a ≠ b → (TX8 a).2.1 ≠ (TX8 b).2.1 := by decide +kernel
theorem tyX8_ok : ∀ k, k < 0 → parseFieldDescriptor (TX8 k).2.2.1 = some (tyX8 k) := by decide +kernel
abbrev cX8_init : ByteArray := prog_10_method_1_code
def yX8_init : MethodName := ⟨RX8, "<init>", "()V"⟩
abbrev cX8_hardness : ByteArray := prog_10_method_2_code
def yX8_hardness : MethodName := ⟨RX8, "hardness", "(III)I"⟩
abbrev cX8_actFalls : ByteArray := prog_10_method_3_code
def yX8_actFalls : MethodName := ⟨RX8, "actFalls", "(LPaintedOver$Trace;I)I"⟩
def RX9 : String := "PaintedOver$Town"
def TX9 : u_T := fun k => match k with
  | 0 => ("PaintedOver$Town", "kinds", "[LPaintedOver$Kind;", true)
  | 1 => ("PaintedOver$Town", "fronts", "[LPaintedOver$Front;", true)
  | 2 => ("PaintedOver$Town", "houses", "I", false)
  | 3 => ("PaintedOver$Town", "hides", "[I", true)
  | 4 => ("PaintedOver$Town", "costs", "[I", true)
  | 5 => ("PaintedOver$Town", "limit", "I", false)
  | 6 => ("PaintedOver$Town", "wide", "I", false)
  | 7 => ("PaintedOver$Town", "year", "I", false)
  | 8 => ("PaintedOver$Town", "fallen", "I", false)
  | _ => ("PaintedOver$Town", "seed", "I", false)
def tyX9 : Nat → FieldType := fun k => match k with
  | 0 => .array (.object "PaintedOver$Kind")
  | 1 => .array (.object "PaintedOver$Front")
  | 2 => .int
  | 3 => .array .int
  | 4 => .array .int
  | 5 => .int
  | 6 => .int
  | 7 => .int
  | 8 => .int
  | _ => .int
theorem nmX9 : ∀ a, a < 10 → ∀ b, b < 10 → a ≠ b → (TX9 a).2.1 ≠ (TX9 b).2.1 := by decide +kernel
theorem tyX9_ok : ∀ k, k < 10 → parseFieldDescriptor (TX9 k).2.2.1 = some (tyX9 k) := by decide +kernel
abbrev cX9_init : ByteArray := prog_11_method_1_code
def yX9_init : MethodName := ⟨RX9, "<init>", "([LPaintedOver$Kind;)V"⟩
abbrev cX9_become : ByteArray := prog_11_method_2_code
def yX9_become : MethodName := ⟨RX9, "become", "(LPaintedOver$Town;)V"⟩
abbrev cX9_build : ByteArray := prog_11_method_3_code
def yX9_build : MethodName := ⟨RX9, "build", "(II)I"⟩
abbrev cX9_coatsInAll : ByteArray := prog_11_method_4_code
def yX9_coatsInAll : MethodName := ⟨RX9, "coatsInAll", "()I"⟩
abbrev cX9_strength : ByteArray := prog_11_method_5_code
def yX9_strength : MethodName := ⟨RX9, "strength", "(LPaintedOver$Front;II)I"⟩
abbrev cX9_seenAmong : ByteArray := prog_11_method_6_code
def yX9_seenAmong : MethodName := ⟨RX9, "seenAmong", "(LPaintedOver$Front;III)I"⟩
abbrev cX9_seenSomewhere : ByteArray := prog_11_method_7_code
def yX9_seenSomewhere : MethodName := ⟨RX9, "seenSomewhere", "(LPaintedOver$Front;I)I"⟩
abbrev cX9_hailOnAll : ByteArray := prog_11_method_8_code
def yX9_hailOnAll : MethodName := ⟨RX9, "hailOnAll", "(I)I"⟩
abbrev cX9_letFall : ByteArray := prog_11_method_9_code
def yX9_letFall : MethodName := ⟨RX9, "letFall", "()I"⟩
abbrev cX9_draw : ByteArray := prog_11_method_10_code
def yX9_draw : MethodName := ⟨RX9, "draw", "(I)I"⟩
abbrev cX9_passYear : ByteArray := prog_11_method_11_code
def yX9_passYear : MethodName := ⟨RX9, "passYear", "()V"⟩
def RX10 : String := "PaintedOver$Trace"
def TX10 : u_T := fun k => match k with
  | 0 => ("PaintedOver$Trace", "m", "I", false)
  | 1 => ("PaintedOver$Trace", "k", "I", false)
  | 2 => ("PaintedOver$Trace", "ran", "I", false)
  | _ => ("PaintedOver$Trace", "bodies", "[I", true)
def tyX10 : Nat → FieldType := fun k => match k with
  | 0 => .int
  | 1 => .int
  | 2 => .int
  | _ => .array .int
theorem nmX10 : ∀ a, a < 4 → ∀ b, b < 4 → a ≠ b → (TX10 a).2.1 ≠ (TX10 b).2.1 := by decide +kernel
theorem tyX10_ok : ∀ k, k < 4 → parseFieldDescriptor (TX10 k).2.2.1 = some (tyX10 k) := by decide +kernel
abbrev cX10_init : ByteArray := prog_12_method_1_code
def yX10_init : MethodName := ⟨RX10, "<init>", "()V"⟩
abbrev cX10_begin : ByteArray := prog_12_method_2_code
def yX10_begin : MethodName := ⟨RX10, "begin", "(I)V"⟩
def RX11 : String := "PaintedOver"
def TX11 : u_T := fun k => match k with
  | 0 => ("PaintedOver", "held", "[I", true)
  | 1 => ("PaintedOver", "sizes", "[I", true)
  | 2 => ("PaintedOver", "elements", "[[J", true)
  | 3 => ("PaintedOver", "refusals", "[I", true)
  | 4 => ("PaintedOver", "named", "I", false)
  | 5 => ("PaintedOver", "beneath", "[I", true)
  | 6 => ("PaintedOver", "ways", "[I", true)
  | 7 => ("PaintedOver", "now", "LPaintedOver$Town;", false)
  | 8 => ("PaintedOver", "draft", "LPaintedOver$Town;", false)
  | 9 => ("PaintedOver", "kept", "LPaintedOver$Town;", true)
  | 10 => ("PaintedOver", "isKept", "Z", false)
  | 11 => ("PaintedOver", "reader", "LPaintedOver$Reader;", true)
  | 12 => ("PaintedOver", "latestFault", "I", false)
  | _ => ("PaintedOver", "latest", "LPaintedOver$Trace;", true)
def tyX11 : Nat → FieldType := fun k => match k with
  | 0 => .array .int
  | 1 => .array .int
  | 2 => .array (.array .long)
  | 3 => .array .int
  | 4 => .int
  | 5 => .array .int
  | 6 => .array .int
  | 7 => .object "PaintedOver$Town"
  | 8 => .object "PaintedOver$Town"
  | 9 => .object "PaintedOver$Town"
  | 10 => .boolean
  | 11 => .object "PaintedOver$Reader"
  | 12 => .int
  | _ => .object "PaintedOver$Trace"
theorem nmX11 : ∀ a, a < 14 → ∀ b, b < 14 → a ≠ b → (TX11 a).2.1 ≠ (TX11 b).2.1 := by decide +kernel
theorem tyX11_ok : ∀ k, k < 14 → parseFieldDescriptor (TX11 k).2.2.1 = some (tyX11 k) := by decide +kernel
abbrev cX11_init : ByteArray := prog_1_method_1_code
def yX11_init : MethodName := ⟨RX11, "<init>", "()V"⟩
abbrev cX11_row : ByteArray := prog_1_method_2_code
def yX11_row : MethodName := ⟨RX11, "row", "(III)I"⟩
abbrev cX11_set : ByteArray := prog_1_method_3_code
def yX11_set : MethodName := ⟨RX11, "set", "(IIJ)I"⟩
abbrev cX11_copy : ByteArray := prog_1_method_4_code
def yX11_copy : MethodName := ⟨RX11, "copy", "(IIIII)I"⟩
abbrev cX11_element : ByteArray := prog_1_method_5_code
def yX11_element : MethodName := ⟨RX11, "element", "(II)J"⟩
abbrev cX11_show : ByteArray := prog_1_method_6_code
def yX11_show : MethodName := ⟨RX11, "show", "(II)I"⟩
abbrev cX11_holds : ByteArray := prog_1_method_7_code
def yX11_holds : MethodName := ⟨RX11, "holds", "(I)I"⟩
abbrev cX11_says : ByteArray := prog_1_method_8_code
def yX11_says : MethodName := ⟨RX11, "says", "(II)I"⟩
abbrev cX11_house : ByteArray := prog_1_method_9_code
def yX11_house : MethodName := ⟨RX11, "house", "(II)I"⟩
abbrev cX11_houseOf : ByteArray := prog_1_method_10_code
def yX11_houseOf : MethodName := ⟨RX11, "houseOf", "(II)I"⟩
abbrev cX11_colour : ByteArray := prog_1_method_11_code
def yX11_colour : MethodName := ⟨RX11, "colour", "(III)I"⟩
abbrev cX11_ask : ByteArray := prog_1_method_12_code
def yX11_ask : MethodName := ⟨RX11, "ask", "(II)I"⟩
abbrev cX11_coat : ByteArray := prog_1_method_13_code
def yX11_coat : MethodName := ⟨RX11, "coat", "(IIIII)I"⟩
abbrev cX11_coatOf : ByteArray := prog_1_method_14_code
def yX11_coatOf : MethodName := ⟨RX11, "coatOf", "(III)I"⟩
abbrev cX11_street : ByteArray := prog_1_method_15_code
def yX11_street : MethodName := ⟨RX11, "street", "(I)I"⟩
abbrev cX11_fault : ByteArray := prog_1_method_16_code
def yX11_fault : MethodName := ⟨RX11, "fault", "()I"⟩
abbrev cX11_seen : ByteArray := prog_1_method_17_code
def yX11_seen : MethodName := ⟨RX11, "seen", "(III)I"⟩
abbrev cX11_wet : ByteArray := prog_1_method_18_code
def yX11_wet : MethodName := ⟨RX11, "wet", "(III)I"⟩
abbrev cX11_deep : ByteArray := prog_1_method_19_code
def yX11_deep : MethodName := ⟨RX11, "deep", "(II)I"⟩
abbrev cX11_skin : ByteArray := prog_1_method_20_code
def yX11_skin : MethodName := ⟨RX11, "skin", "(I)I"⟩
abbrev cX11_hailed : ByteArray := prog_1_method_21_code
def yX11_hailed : MethodName := ⟨RX11, "hailed", "(III)I"⟩
abbrev cX11_razor : ByteArray := prog_1_method_22_code
def yX11_razor : MethodName := ⟨RX11, "razor", "(III)I"⟩
abbrev cX11_hidden : ByteArray := prog_1_method_23_code
def yX11_hidden : MethodName := ⟨RX11, "hidden", "(II)I"⟩
abbrev cX11_shown : ByteArray := prog_1_method_24_code
def yX11_shown : MethodName := ⟨RX11, "shown", "(II)I"⟩
abbrev cX11_firstWet : ByteArray := prog_1_method_25_code
def yX11_firstWet : MethodName := ⟨RX11, "firstWet", "(II)I"⟩
abbrev cX11_paint : ByteArray := prog_1_method_26_code
def yX11_paint : MethodName := ⟨RX11, "paint", "(III)I"⟩
abbrev cX11_gap : ByteArray := prog_1_method_27_code
def yX11_gap : MethodName := ⟨RX11, "gap", "(II)I"⟩
abbrev cX11_moves : ByteArray := prog_1_method_28_code
def yX11_moves : MethodName := ⟨RX11, "moves", "(II)I"⟩
abbrev cX11_orders : ByteArray := prog_1_method_29_code
def yX11_orders : MethodName := ⟨RX11, "orders", "(III)I"⟩
abbrev cX11_forged : ByteArray := prog_1_method_30_code
def yX11_forged : MethodName := ⟨RX11, "forged", "(II)I"⟩
abbrev cX11_lane : ByteArray := prog_1_method_31_code
def yX11_lane : MethodName := ⟨RX11, "lane", "(II)I"⟩
abbrev cX11_price : ByteArray := prog_1_method_32_code
def yX11_price : MethodName := ⟨RX11, "price", "(II)I"⟩
abbrev cX11_hail : ByteArray := prog_1_method_33_code
def yX11_hail : MethodName := ⟨RX11, "hail", "(I)I"⟩
abbrev cX11_scratch : ByteArray := prog_1_method_34_code
def yX11_scratch : MethodName := ⟨RX11, "scratch", "(II)I"⟩
abbrev cX11_falls : ByteArray := prog_1_method_35_code
def yX11_falls : MethodName := ⟨RX11, "falls", "()I"⟩
abbrev cX11_years : ByteArray := prog_1_method_36_code
def yX11_years : MethodName := ⟨RX11, "years", "(I)I"⟩
abbrev cX11_seed : ByteArray := prog_1_method_37_code
def yX11_seed : MethodName := ⟨RX11, "seed", "(I)I"⟩
abbrev cX11_act : ByteArray := prog_1_method_38_code
def yX11_act : MethodName := ⟨RX11, "act", "(III)I"⟩
abbrev cX11_trace : ByteArray := prog_1_method_39_code
def yX11_trace : MethodName := ⟨RX11, "trace", "(I)I"⟩
abbrev cX11_image : ByteArray := prog_1_method_40_code
def yX11_image : MethodName := ⟨RX11, "image", "()I"⟩
abbrev cX11_restore : ByteArray := prog_1_method_41_code
def yX11_restore : MethodName := ⟨RX11, "restore", "()I"⟩
abbrev cX11_status : ByteArray := prog_1_method_42_code
def yX11_status : MethodName := ⟨RX11, "status", "(I)I"⟩
abbrev cX11_refuse : ByteArray := prog_1_method_43_code
def yX11_refuse : MethodName := ⟨RX11, "refuse", "(I)I"⟩
abbrev cX11_refuseDown : ByteArray := prog_1_method_44_code
def yX11_refuseDown : MethodName := ⟨RX11, "refuseDown", "(II)I"⟩
abbrev cX11_outside : ByteArray := prog_1_method_45_code
def yX11_outside : MethodName := ⟨RX11, "outside", "(II)Z"⟩
abbrev cX11_noHouse : ByteArray := prog_1_method_46_code
def yX11_noHouse : MethodName := ⟨RX11, "noHouse", "(I)Z"⟩
abbrev cX11_noCoat : ByteArray := prog_1_method_47_code
def yX11_noCoat : MethodName := ⟨RX11, "noCoat", "(II)Z"⟩
abbrev cX11_holdsRow : ByteArray := prog_1_method_48_code
def yX11_holdsRow : MethodName := ⟨RX11, "holdsRow", "(I)Z"⟩
abbrev cX11_holdsHouse : ByteArray := prog_1_method_49_code
def yX11_holdsHouse : MethodName := ⟨RX11, "holdsHouse", "(I)Z"⟩
abbrev cX11_rowTrouble : ByteArray := prog_1_method_50_code
def yX11_rowTrouble : MethodName := ⟨RX11, "rowTrouble", "(I)I"⟩
abbrev cX11_noSuchPart : ByteArray := prog_1_method_51_code
def yX11_noSuchPart : MethodName := ⟨RX11, "noSuchPart", "(III)Z"⟩
abbrev cX11_lowestBits : ByteArray := prog_1_method_52_code
def yX11_lowestBits : MethodName := ⟨RX11, "lowestBits", "(IJ)J"⟩
abbrev cX11_isOf : ByteArray := prog_1_method_53_code
def yX11_isOf : MethodName := ⟨RX11, "isOf", "(LPaintedOver$Kind;I)Z"⟩
abbrev cX11_saidBy : ByteArray := prog_1_method_54_code
def yX11_saidBy : MethodName := ⟨RX11, "saidBy", "(LPaintedOver$Front;I)I"⟩
abbrev cX11_strengthOfHighest : ByteArray := prog_1_method_55_code
def yX11_strengthOfHighest : MethodName := ⟨RX11, "strengthOfHighest", "(LPaintedOver$Front;)I"⟩
abbrev cX11_cheapest : ByteArray := prog_1_method_56_code
def yX11_cheapest : MethodName := ⟨RX11, "cheapest", "(LPaintedOver$Front;I)I"⟩
abbrev cX11_pairsTrouble : ByteArray := prog_1_method_57_code
def yX11_pairsTrouble : MethodName := ⟨RX11, "pairsTrouble", "(IIZ)I"⟩
abbrev cX11_isPair : ByteArray := prog_1_method_58_code
def yX11_isPair : MethodName := ⟨RX11, "isPair", "(I)Z"⟩
abbrev cX11_forgetPairs : ByteArray := prog_1_method_59_code
def yX11_forgetPairs : MethodName := ⟨RX11, "forgetPairs", "()V"⟩
abbrev cX11_addPair : ByteArray := prog_1_method_60_code
def yX11_addPair : MethodName := ⟨RX11, "addPair", "(I)V"⟩
abbrev cX11_mayComeOn : ByteArray := prog_1_method_61_code
def yX11_mayComeOn : MethodName := ⟨RX11, "mayComeOn", "(II)Z"⟩
abbrev cX11_lowestOn : ByteArray := prog_1_method_62_code
def yX11_lowestOn : MethodName := ⟨RX11, "lowestOn", "(I)I"⟩
abbrev cX11_orderFits : ByteArray := prog_1_method_63_code
def yX11_orderFits : MethodName := ⟨RX11, "orderFits", "()Z"⟩
abbrev cX11_inFirstOrder : ByteArray := prog_1_method_64_code
def yX11_inFirstOrder : MethodName := ⟨RX11, "inFirstOrder", "(I)I"⟩
abbrev cX11_countOrders : ByteArray := prog_1_method_65_code
def yX11_countOrders : MethodName := ⟨RX11, "countOrders", "()I"⟩
def RX12 : String := "PaintedOverModel"
def TX12 : u_T := fun k => match k with
  | 0 => ("PaintedOverModel", "holding", "[I", true)
  | 1 => ("PaintedOverModel", "rowLength", "[I", true)
  | 2 => ("PaintedOverModel", "rowOf", "[J", true)
  | 3 => ("PaintedOverModel", "houses", "I", false)
  | 4 => ("PaintedOverModel", "kind", "[I", true)
  | 5 => ("PaintedOverModel", "own", "[I", true)
  | 6 => ("PaintedOverModel", "coats", "[I", true)
  | 7 => ("PaintedOverModel", "tenant", "[I", true)
  | 8 => ("PaintedOverModel", "colour", "[I", true)
  | 9 => ("PaintedOverModel", "thick", "[I", true)
  | 10 => ("PaintedOverModel", "gap", "[I", true)
  | 11 => ("PaintedOverModel", "painted", "[I", true)
  | 12 => ("PaintedOverModel", "gone", "[I", true)
  | 13 => ("PaintedOverModel", "hides", "[I", true)
  | 14 => ("PaintedOverModel", "costs", "[I", true)
  | 15 => ("PaintedOverModel", "limit", "I", false)
  | 16 => ("PaintedOverModel", "wide", "I", false)
  | 17 => ("PaintedOverModel", "year", "I", false)
  | 18 => ("PaintedOverModel", "fallen", "I", false)
  | 19 => ("PaintedOverModel", "seed", "I", false)
  | 20 => ("PaintedOverModel", "fault", "I", false)
  | 21 => ("PaintedOverModel", "refusals", "[I", true)
  | 22 => ("PaintedOverModel", "traced", "I", false)
  | 23 => ("PaintedOverModel", "traces", "[I", true)
  | 24 => ("PaintedOverModel", "imaged", "Z", false)
  | 25 => ("PaintedOverModel", "old", "[I", true)
  | 26 => ("PaintedOverModel", "ahead", "[I", true)
  | 27 => ("PaintedOverModel", "reading", "I", false)
  | 28 => ("PaintedOverModel", "at", "I", false)
  | 29 => ("PaintedOverModel", "numbers", "[I", true)
  | 30 => ("PaintedOverModel", "over", "[I", true)
  | 31 => ("PaintedOverModel", "named", "I", false)
  | _ => ("PaintedOverModel", "first", "[I", true)
def tyX12 : Nat → FieldType := fun k => match k with
  | 0 => .array .int
  | 1 => .array .int
  | 2 => .array .long
  | 3 => .int
  | 4 => .array .int
  | 5 => .array .int
  | 6 => .array .int
  | 7 => .array .int
  | 8 => .array .int
  | 9 => .array .int
  | 10 => .array .int
  | 11 => .array .int
  | 12 => .array .int
  | 13 => .array .int
  | 14 => .array .int
  | 15 => .int
  | 16 => .int
  | 17 => .int
  | 18 => .int
  | 19 => .int
  | 20 => .int
  | 21 => .array .int
  | 22 => .int
  | 23 => .array .int
  | 24 => .boolean
  | 25 => .array .int
  | 26 => .array .int
  | 27 => .int
  | 28 => .int
  | 29 => .array .int
  | 30 => .array .int
  | 31 => .int
  | _ => .array .int
theorem nmX12 : ∀ a, a < 33 → ∀ b, b < 33 → a ≠ b → (TX12 a).2.1 ≠ (TX12 b).2.1 := by decide +kernel
theorem tyX12_ok : ∀ k, k < 33 → parseFieldDescriptor (TX12 k).2.2.1 = some (tyX12 k) := by decide +kernel
abbrev cX12_init : ByteArray := prog_14_method_1_code
def yX12_init : MethodName := ⟨RX12, "<init>", "()V"⟩
abbrev cX12_no : ByteArray := prog_14_method_2_code
def yX12_no : MethodName := ⟨RX12, "no", "(I)I"⟩
abbrev cX12_no10 : ByteArray := prog_14_method_3_code
def yX12_no10 : MethodName := ⟨RX12, "no10", "(I)I"⟩
abbrev cX12_within : ByteArray := prog_14_method_4_code
def yX12_within : MethodName := ⟨RX12, "within", "(III)Z"⟩
abbrev cX12_has : ByteArray := prog_14_method_5_code
def yX12_has : MethodName := ⟨RX12, "has", "(II)Z"⟩
abbrev cX12_isHouse : ByteArray := prog_14_method_6_code
def yX12_isHouse : MethodName := ⟨RX12, "isHouse", "(I)Z"⟩
abbrev cX12_isCoat : ByteArray := prog_14_method_7_code
def yX12_isCoat : MethodName := ⟨RX12, "isCoat", "(II)Z"⟩
abbrev cX12_isCell : ByteArray := prog_14_method_8_code
def yX12_isCell : MethodName := ⟨RX12, "isCell", "(I)Z"⟩
abbrev cX12_isWeather : ByteArray := prog_14_method_9_code
def yX12_isWeather : MethodName := ⟨RX12, "isWeather", "(I)Z"⟩
abbrev cX12_isRow : ByteArray := prog_14_method_10_code
def yX12_isRow : MethodName := ⟨RX12, "isRow", "(I)Z"⟩
abbrev cX12_row : ByteArray := prog_14_method_11_code
def yX12_row : MethodName := ⟨RX12, "row", "(III)I"⟩
abbrev cX12_noRow : ByteArray := prog_14_method_12_code
def yX12_noRow : MethodName := ⟨RX12, "noRow", "(I)I"⟩
abbrev cX12_set : ByteArray := prog_14_method_13_code
def yX12_set : MethodName := ⟨RX12, "set", "(IIJ)I"⟩
abbrev cX12_copy : ByteArray := prog_14_method_14_code
def yX12_copy : MethodName := ⟨RX12, "copy", "(IIIII)I"⟩
abbrev cX12_element : ByteArray := prog_14_method_15_code
def yX12_element : MethodName := ⟨RX12, "element", "(II)J"⟩
abbrev cX12_show : ByteArray := prog_14_method_16_code
def yX12_show : MethodName := ⟨RX12, "show", "(II)I"⟩
abbrev cX12_holds : ByteArray := prog_14_method_17_code
def yX12_holds : MethodName := ⟨RX12, "holds", "(I)I"⟩
abbrev cX12_above : ByteArray := prog_14_method_18_code
def yX12_above : MethodName := ⟨RX12, "above", "(I)I"⟩
abbrev cX12_isUnder : ByteArray := prog_14_method_19_code
def yX12_isUnder : MethodName := ⟨RX12, "isUnder", "(II)Z"⟩
abbrev cX12_says : ByteArray := prog_14_method_20_code
def yX12_says : MethodName := ⟨RX12, "says", "(II)I"⟩
abbrev cX12_newHouse : ByteArray := prog_14_method_21_code
def yX12_newHouse : MethodName := ⟨RX12, "newHouse", "(II)I"⟩
abbrev cX12_bare : ByteArray := prog_14_method_22_code
def yX12_bare : MethodName := ⟨RX12, "bare", "(I)V"⟩
abbrev cX12_house : ByteArray := prog_14_method_23_code
def yX12_house : MethodName := ⟨RX12, "house", "(II)I"⟩
abbrev cX12_lived : ByteArray := prog_14_method_24_code
def yX12_lived : MethodName := ⟨RX12, "lived", "(I)I"⟩
abbrev cX12_houseOf : ByteArray := prog_14_method_25_code
def yX12_houseOf : MethodName := ⟨RX12, "houseOf", "(II)I"⟩
abbrev cX12_colour : ByteArray := prog_14_method_26_code
def yX12_colour : MethodName := ⟨RX12, "colour", "(III)I"⟩
abbrev cX12_ask : ByteArray := prog_14_method_27_code
def yX12_ask : MethodName := ⟨RX12, "ask", "(II)I"⟩
abbrev cX12_paints : ByteArray := prog_14_method_28_code
def yX12_paints : MethodName := ⟨RX12, "paints", "(IIIII)I"⟩
abbrev cX12_coat : ByteArray := prog_14_method_29_code
def yX12_coat : MethodName := ⟨RX12, "coat", "(IIIII)I"⟩
abbrev cX12_coatOf : ByteArray := prog_14_method_30_code
def yX12_coatOf : MethodName := ⟨RX12, "coatOf", "(III)I"⟩
abbrev cX12_sign : ByteArray := prog_14_method_31_code
def yX12_sign : MethodName := ⟨RX12, "sign", "()I"⟩
abbrev cX12_is : ByteArray := prog_14_method_32_code
def yX12_is : MethodName := ⟨RX12, "is", "(C)Z"⟩
abbrev cX12_word : ByteArray := prog_14_method_33_code
def yX12_word : MethodName := ⟨RX12, "word", "(Ljava/lang/String;)Z"⟩
abbrev cX12_number : ByteArray := prog_14_method_34_code
def yX12_number : MethodName := ⟨RX12, "number", "(III)Z"⟩
abbrev cX12_item : ByteArray := prog_14_method_35_code
def yX12_item : MethodName := ⟨RX12, "item", "()Z"⟩
abbrev cX12_sign_ : ByteArray := prog_14_method_36_code
def yX12_sign_ : MethodName := ⟨RX12, "sign", "(I)I"⟩
abbrev cX12_street : ByteArray := prog_14_method_37_code
def yX12_street : MethodName := ⟨RX12, "street", "(I)I"⟩
abbrev cX12_fault : ByteArray := prog_14_method_38_code
def yX12_fault : MethodName := ⟨RX12, "fault", "()I"⟩
abbrev cX12_strength : ByteArray := prog_14_method_39_code
def yX12_strength : MethodName := ⟨RX12, "strength", "(II)I"⟩
abbrev cX12_wetOf : ByteArray := prog_14_method_40_code
def yX12_wetOf : MethodName := ⟨RX12, "wetOf", "(III)I"⟩
abbrev cX12_lies : ByteArray := prog_14_method_41_code
def yX12_lies : MethodName := ⟨RX12, "lies", "(II)I"⟩
abbrev cX12_seenIn : ByteArray := prog_14_method_42_code
def yX12_seenIn : MethodName := ⟨RX12, "seenIn", "(III)I"⟩
abbrev cX12_seenAt : ByteArray := prog_14_method_43_code
def yX12_seenAt : MethodName := ⟨RX12, "seenAt", "(III)I"⟩
abbrev cX12_hard : ByteArray := prog_14_method_44_code
def yX12_hard : MethodName := ⟨RX12, "hard", "(III)I"⟩
abbrev cX12_behind : ByteArray := prog_14_method_45_code
def yX12_behind : MethodName := ⟨RX12, "behind", "(III)I"⟩
abbrev cX12_sum : ByteArray := prog_14_method_46_code
def yX12_sum : MethodName := ⟨RX12, "sum", "(II)I"⟩
abbrev cX12_deepOf : ByteArray := prog_14_method_47_code
def yX12_deepOf : MethodName := ⟨RX12, "deepOf", "(II)I"⟩
abbrev cX12_skinOf : ByteArray := prog_14_method_48_code
def yX12_skinOf : MethodName := ⟨RX12, "skinOf", "(I)I"⟩
abbrev cX12_seen : ByteArray := prog_14_method_49_code
def yX12_seen : MethodName := ⟨RX12, "seen", "(III)I"⟩
abbrev cX12_wet : ByteArray := prog_14_method_50_code
def yX12_wet : MethodName := ⟨RX12, "wet", "(III)I"⟩
abbrev cX12_deep : ByteArray := prog_14_method_51_code
def yX12_deep : MethodName := ⟨RX12, "deep", "(II)I"⟩
abbrev cX12_skin : ByteArray := prog_14_method_52_code
def yX12_skin : MethodName := ⟨RX12, "skin", "(I)I"⟩
abbrev cX12_hailed : ByteArray := prog_14_method_53_code
def yX12_hailed : MethodName := ⟨RX12, "hailed", "(III)I"⟩
abbrev cX12_razor : ByteArray := prog_14_method_54_code
def yX12_razor : MethodName := ⟨RX12, "razor", "(III)I"⟩
abbrev cX12_seenAll : ByteArray := prog_14_method_55_code
def yX12_seenAll : MethodName := ⟨RX12, "seenAll", "(II)I"⟩
abbrev cX12_hidden : ByteArray := prog_14_method_56_code
def yX12_hidden : MethodName := ⟨RX12, "hidden", "(II)I"⟩
abbrev cX12_shown : ByteArray := prog_14_method_57_code
def yX12_shown : MethodName := ⟨RX12, "shown", "(II)I"⟩
abbrev cX12_firstWet : ByteArray := prog_14_method_58_code
def yX12_firstWet : MethodName := ⟨RX12, "firstWet", "(II)I"⟩
abbrev cX12_paint : ByteArray := prog_14_method_59_code
def yX12_paint : MethodName := ⟨RX12, "paint", "(III)I"⟩
abbrev cX12_gap : ByteArray := prog_14_method_60_code
def yX12_gap : MethodName := ⟨RX12, "gap", "(II)I"⟩
abbrev cX12_moves : ByteArray := prog_14_method_61_code
def yX12_moves : MethodName := ⟨RX12, "moves", "(II)I"⟩
abbrev cX12_noPairs : ByteArray := prog_14_method_62_code
def yX12_noPairs : MethodName := ⟨RX12, "noPairs", "(IIZ)I"⟩
abbrev cX12_pairs : ByteArray := prog_14_method_63_code
def yX12_pairs : MethodName := ⟨RX12, "pairs", "(II)V"⟩
abbrev cX12_ordersFrom : ByteArray := prog_14_method_64_code
def yX12_ordersFrom : MethodName := ⟨RX12, "ordersFrom", "(I)I"⟩
abbrev cX12_orders : ByteArray := prog_14_method_65_code
def yX12_orders : MethodName := ⟨RX12, "orders", "(III)I"⟩
abbrev cX12_forged : ByteArray := prog_14_method_66_code
def yX12_forged : MethodName := ⟨RX12, "forged", "(II)I"⟩
abbrev cX12_deepest : ByteArray := prog_14_method_67_code
def yX12_deepest : MethodName := ⟨RX12, "deepest", "(I)I"⟩
abbrev cX12_lane : ByteArray := prog_14_method_68_code
def yX12_lane : MethodName := ⟨RX12, "lane", "(II)I"⟩
abbrev cX12_price : ByteArray := prog_14_method_69_code
def yX12_price : MethodName := ⟨RX12, "price", "(II)I"⟩
abbrev cX12_hailAll : ByteArray := prog_14_method_70_code
def yX12_hailAll : MethodName := ⟨RX12, "hailAll", "(I)I"⟩
abbrev cX12_hail : ByteArray := prog_14_method_71_code
def yX12_hail : MethodName := ⟨RX12, "hail", "(I)I"⟩
abbrev cX12_scratch : ByteArray := prog_14_method_72_code
def yX12_scratch : MethodName := ⟨RX12, "scratch", "(II)I"⟩
abbrev cX12_fall : ByteArray := prog_14_method_73_code
def yX12_fall : MethodName := ⟨RX12, "fall", "()I"⟩
abbrev cX12_falls : ByteArray := prog_14_method_74_code
def yX12_falls : MethodName := ⟨RX12, "falls", "()I"⟩
abbrev cX12_draw : ByteArray := prog_14_method_75_code
def yX12_draw : MethodName := ⟨RX12, "draw", "(I)I"⟩
abbrev cX12_years : ByteArray := prog_14_method_76_code
def yX12_years : MethodName := ⟨RX12, "years", "(I)I"⟩
abbrev cX12_seed : ByteArray := prog_14_method_77_code
def yX12_seed : MethodName := ⟨RX12, "seed", "(I)I"⟩
abbrev cX12_ran : ByteArray := prog_14_method_78_code
def yX12_ran : MethodName := ⟨RX12, "ran", "(I)V"⟩
abbrev cX12_paintsAct : ByteArray := prog_14_method_79_code
def yX12_paintsAct : MethodName := ⟨RX12, "paintsAct", "(II)I"⟩
abbrev cX12_peels : ByteArray := prog_14_method_80_code
def yX12_peels : MethodName := ⟨RX12, "peels", "(II)I"⟩
abbrev cX12_fallsAct : ByteArray := prog_14_method_81_code
def yX12_fallsAct : MethodName := ⟨RX12, "fallsAct", "(II)I"⟩
abbrev cX12_act : ByteArray := prog_14_method_82_code
def yX12_act : MethodName := ⟨RX12, "act", "(III)I"⟩
abbrev cX12_trace : ByteArray := prog_14_method_83_code
def yX12_trace : MethodName := ⟨RX12, "trace", "(I)I"⟩
abbrev cX12_keep : ByteArray := prog_14_method_84_code
def yX12_keep : MethodName := ⟨RX12, "keep", "([I)V"⟩
abbrev cX12_again : ByteArray := prog_14_method_85_code
def yX12_again : MethodName := ⟨RX12, "again", "([I)V"⟩
abbrev cX12_image : ByteArray := prog_14_method_86_code
def yX12_image : MethodName := ⟨RX12, "image", "()I"⟩
abbrev cX12_restore : ByteArray := prog_14_method_87_code
def yX12_restore : MethodName := ⟨RX12, "restore", "()I"⟩
abbrev cX12_status : ByteArray := prog_14_method_88_code
def yX12_status : MethodName := ⟨RX12, "status", "(I)I"⟩
def RJ6 : String := "java/lang/Integer"
def TJ6 : u_T := fun k => match k with
  | _ => ("", "", "", false)
def tyJ6 : Nat → FieldType := fun k => match k with
  | _ => .int
theorem nmJ6 : ∀ a, a < 0 → ∀ b, b < 0 → a ≠ b → (TJ6 a).2.1 ≠ (TJ6 b).2.1 := by decide +kernel
theorem tyJ6_ok : ∀ k, k < 0 → parseFieldDescriptor (TJ6 k).2.2.1 = some (tyJ6 k) := by decide +kernel
abbrev cJ6_highestOneBit_0f7a4 : ByteArray := prog_15_method_45_code
def yJ6_highestOneBit_0f7a4 : MethodName := ⟨RJ6, "highestOneBit", "(I)I"⟩
abbrev cJ6_numberOfLeadingZeros_0f7a4 : ByteArray := prog_15_method_47_code
def yJ6_numberOfLeadingZeros_0f7a4 : MethodName := ⟨RJ6, "numberOfLeadingZeros", "(I)I"⟩
abbrev cJ6_bitCount_0f7a4 : ByteArray := prog_15_method_49_code
def yJ6_bitCount_0f7a4 : MethodName := ⟨RJ6, "bitCount", "(I)I"⟩
def RJ9 : String := "java/lang/Math"
def TJ9 : u_T := fun k => match k with
  | _ => ("", "", "", false)
def tyJ9 : Nat → FieldType := fun k => match k with
  | _ => .int
theorem nmJ9 : ∀ a, a < 0 → ∀ b, b < 0 → a ≠ b → (TJ9 a).2.1 ≠ (TJ9 b).2.1 := by decide +kernel
theorem tyJ9_ok : ∀ k, k < 0 → parseFieldDescriptor (TJ9 k).2.2.1 = some (tyJ9 k) := by decide +kernel
abbrev cJ9_max_7cf53 : ByteArray := prog_16_method_65_code
def yJ9_max_7cf53 : MethodName := ⟨RJ9, "max", "(II)I"⟩
def RJ0 : String := "java/lang/String"
def TJ0 : u_T := fun k => match k with
  | _ => ("", "", "", false)
def tyJ0 : Nat → FieldType := fun k => match k with
  | _ => .int
theorem nmJ0 : ∀ a, a < 0 → ∀ b, b < 0 → a ≠ b → (TJ0 a).2.1 ≠ (TJ0 b).2.1 := by decide +kernel
theorem tyJ0_ok : ∀ k, k < 0 → parseFieldDescriptor (TJ0 k).2.2.1 = some (tyJ0 k) := by decide +kernel
abbrev cJ0_length_8abf5 : ByteArray := prog_17_method_54_code
def yJ0_length_8abf5 : MethodName := ⟨RJ0, "length", "()I"⟩
abbrev cJ0_charAt_5068e : ByteArray := prog_17_method_56_code
def yJ0_charAt_5068e : MethodName := ⟨RJ0, "charAt", "(I)C"⟩
abbrev cJ0_coder_7d493 : ByteArray := prog_17_method_152_code
def yJ0_coder_7d493 : MethodName := ⟨RJ0, "coder", "()B"⟩
abbrev cJ0_isLatin1_aae02 : ByteArray := prog_17_method_154_code
def yJ0_isLatin1_aae02 : MethodName := ⟨RJ0, "isLatin1", "()Z"⟩
abbrev cJ0_checkIndex_df160 : ByteArray := prog_17_method_155_code
def yJ0_checkIndex_df160 : MethodName := ⟨RJ0, "checkIndex", "(II)V"⟩
def RJ1 : String := "java/lang/StringLatin1"
def TJ1 : u_T := fun k => match k with
  | _ => ("", "", "", false)
def tyJ1 : Nat → FieldType := fun k => match k with
  | _ => .int
theorem nmJ1 : ∀ a, a < 0 → ∀ b, b < 0 → a ≠ b → (TJ1 a).2.1 ≠ (TJ1 b).2.1 := by decide +kernel
theorem tyJ1_ok : ∀ k, k < 0 → parseFieldDescriptor (TJ1 k).2.2.1 = some (tyJ1 k) := by decide +kernel
abbrev cJ1_charAt_3b067 : ByteArray := prog_18_method_2_code
def yJ1_charAt_3b067 : MethodName := ⟨RJ1, "charAt", "([BI)C"⟩
def RJ2 : String := "java/lang/StringUTF16"
def TJ2 : u_T := fun k => match k with
  | _ => ("", "", "", false)
def tyJ2 : Nat → FieldType := fun k => match k with
  | _ => .int
theorem nmJ2 : ∀ a, a < 0 → ∀ b, b < 0 → a ≠ b → (TJ2 a).2.1 ≠ (TJ2 b).2.1 := by decide +kernel
theorem tyJ2_ok : ∀ k, k < 0 → parseFieldDescriptor (TJ2 k).2.2.1 = some (tyJ2 k) := by decide +kernel
abbrev cJ2_getChar_3b067 : ByteArray := prog_19_method_5_code
def yJ2_getChar_3b067 : MethodName := ⟨RJ2, "getChar", "([BI)C"⟩
abbrev cJ2_length_9d52b : ByteArray := prog_19_method_6_code
def yJ2_length_9d52b : MethodName := ⟨RJ2, "length", "([B)I"⟩
abbrev cJ2_charAt_3b067 : ByteArray := prog_19_method_83_code
def yJ2_charAt_3b067 : MethodName := ⟨RJ2, "charAt", "([BI)C"⟩
abbrev cJ2_checkIndex_2214a : ByteArray := prog_19_method_91_code
def yJ2_checkIndex_2214a : MethodName := ⟨RJ2, "checkIndex", "(I[B)V"⟩
def RJ10 : String := "java/lang/System"
def TJ10 : u_T := fun k => match k with
  | _ => ("", "", "", false)
def tyJ10 : Nat → FieldType := fun k => match k with
  | _ => .int
theorem nmJ10 : ∀ a, a < 0 → ∀ b, b < 0 → a ≠ b → (TJ10 a).2.1 ≠ (TJ10 b).2.1 := by decide +kernel
theorem tyJ10_ok : ∀ k, k < 0 → parseFieldDescriptor (TJ10 k).2.2.1 = some (tyJ10 k) := by decide +kernel
def RJ3 : String := "jdk/internal/util/Preconditions"
def TJ3 : u_T := fun k => match k with
  | _ => ("", "", "", false)
def tyJ3 : Nat → FieldType := fun k => match k with
  | _ => .int
theorem nmJ3 : ∀ a, a < 0 → ∀ b, b < 0 → a ≠ b → (TJ3 a).2.1 ≠ (TJ3 b).2.1 := by decide +kernel
theorem tyJ3_ok : ∀ k, k < 0 → parseFieldDescriptor (TJ3 k).2.2.1 = some (tyJ3 k) := by decide +kernel
abbrev cJ3_checkIndex_8e157 : ByteArray := prog_21_method_11_code
def yJ3_checkIndex_8e157 : MethodName := ⟨RJ3, "checkIndex", "(IILjava/util/function/BiFunction;)I"⟩
def RL : String := "PaintedOverLaw"
abbrev cL_law : ByteArray := code
def yL_law : MethodName := ⟨RL, "law", "([I)Z"⟩
abbrev vwCl : List vw_C := [(RX0, TX0, 0), (RX1, TX1, 0), (RX2, TX2, 0), (RX3, TX3, 10), (RX4, TX4, 0), (RX5, TX5, 0), (RX6, TX6, 6), (RX7, TX7, 0), (RX8, TX8, 0), (RX9, TX9, 10), (RX10, TX10, 4), (RX11, TX11, 14), (RX12, TX12, 33)]
end
section
/-! a layer of my own over the kit's rows: the world as one list of objects at b, b + 1, .., its memory as three functions -/
-- the words that hold on, as one list
def TT : List Cond := lw_tbl.filter goodWord
theorem tt_in {w : Cond} (i : Nat) (h : lw_tbl[i]? = some w) (hg : goodWord w = true) : w ∈ TT := List.mem_filter.mpr ⟨List.mem_of_getElem? h, hg⟩
theorem tt_mem {w : Cond} (h : w ∈ lw_tbl) (hg : goodWord w = true) : w ∈ TT := List.mem_filter.mpr ⟨h, hg⟩
theorem tt_lw {w : Cond} (h : w ∈ TT) : w ∈ lw_tbl := (List.mem_filter.mp h).1
theorem tt_good {w : Cond} (h : w ∈ TT) : (w.onTables && w.keeps) = true ∨ ∃ ty, w = .arrayClass ty := good_of_word (List.mem_filter.mp h).2
theorem tt_goodIn {w : Cond} (h : w ∈ TT) : GoodIn TT (w :: TT) := fun u hu => by
  rcases List.mem_cons.mp hu with rfl | hu
  · exact ⟨h, tt_good h⟩
  · exact ⟨hu, tt_good hu⟩
-- memory: ints, longs, references (by place in the world)
abbrev Mm : Type := (Nat → Nat → Int32) × (Nat → Nat → Int64) × (Nat → Nat → Option Nat)
abbrev Sh : Type := Nat → Nat ⊕ (Nat × Nat)
-- classes and their fields' places, classes of arrays, addresses of the String constants and of their bytes
abbrev Dl : Type := va_G × (Nat → ClassId) × (Nat → Nat) × (Nat → Nat)
def wI (μ : Mm) (o k : Nat) (v : Int32) : Mm := (fun o' k' => if o' = o ∧ k' = k then v else μ.1 o' k', μ.2)
def wL (μ : Mm) (o k : Nat) (v : Int64) : Mm := (μ.1, fun o' k' => if o' = o ∧ k' = k then v else μ.2.1 o' k', μ.2.2)
def wR (μ : Mm) (o k : Nat) (v : Option Nat) : Mm := (μ.1, μ.2.1, fun o' k' => if o' = o ∧ k' = k then v else μ.2.2 o' k')
def w0 (μ : Mm) (o : Nat) : Mm := (fun o' k' => if o' = o then 0 else μ.1 o' k', fun o' k' => if o' = o then 0 else μ.2.1 o' k', fun o' k' => if o' = o then none else μ.2.2 o' k')
def ncf (c : Nat) : Nat := match vwCl[c]? with
  | some q => q.2.2
  | none => 0
def cft (c k : Nat) : FieldType := match c with
  | 3 => tyX3 k
  | 6 => tyX6 k
  | 9 => tyX9 k
  | 10 => tyX10 k
  | 11 => tyX11 k
  | 12 => tyX12 k
  | _ => .int
def fval (b : Nat) (μ : Mm) (o k : Nat) : FieldType → Value
  | .int => .int (μ.1 o k)
  | .boolean => .int (μ.1 o k)
  | .long => .long (μ.2.1 o k)
  | _ => va_rf ((μ.2.2 o k).map (fun j => b + j))
def ent (δ : Dl) (b : Nat) (sh : Sh) (μ : Mm) (o : Nat) : va_E := match sh o with
  | .inl c => .inr (c, (List.range (ncf c)).map (fun k => fval b μ o k (cft c k)))
  | .inr (0, n) => .inl (δ.2.1 0, n, .inl (μ.1 o))
  | .inr (1, n) => .inl (δ.2.1 1, n, .inr (.inl (μ.2.1 o)))
  | .inr (t, n) => .inl (δ.2.1 t, n, .inr (.inr (.inr (.inr (fun j => (μ.2.2 o j).map (fun i => b + i))))))
def wl (δ : Dl) (b : Nat) (sh : Sh) (N : Nat) (μ : Mm) : va_W := (List.range N).map (fun o => (b + o, ent δ b sh μ o))
def tys (δ : Dl) : List (ClassId × FieldType) := [(δ.2.1 0, .int), (δ.2.1 1, .long), (δ.2.1 2, .object "PaintedOver$Front"), (δ.2.1 3, .object "PaintedOver$Kind"), (δ.2.1 4, .array .long)]
def RG (b n : Nat) : Nat → Prop := fun q => b ≤ q ∧ q < b + n
theorem wl_get {δ : Dl} {b : Nat} {sh : Sh} {N : Nat} {μ : Mm} {o : Nat} (h : o < N) : (wl δ b sh N μ)[o]? = some (b + o, ent δ b sh μ o) := by
  unfold wl
  rw [List.getElem?_map, List.getElem?_range h]
  rfl
theorem wl_inv {δ : Dl} {b : Nat} {sh : Sh} {N : Nat} {μ : Mm} {o : Nat} {q : Nat × va_E} (h : (wl δ b sh N μ)[o]? = some q) : o < N ∧ q = (b + o, ent δ b sh μ o) := by
  by_cases ho : o < N
  · rw [wl_get ho] at h
    exact ⟨ho, (Option.some.inj h).symm⟩
  · unfold wl at h
    rw [List.getElem?_map, List.getElem?_eq_none (by rw [List.length_range]; omega)] at h
    cases h
theorem wl_D {δ : Dl} {b n : Nat} {sh : Sh} {N : Nat} {μ : Mm} (h : N ≤ n) : va_D (RG b n) (wl δ b sh N μ) := by
  refine ⟨fun i j p q hi hj hpq => ?_, fun k q hk => ?_⟩
  · obtain ⟨h1, rfl⟩ := wl_inv hi
    obtain ⟨h2, rfl⟩ := wl_inv hj
    have : b + i = b + j := hpq
    omega
  · obtain ⟨h1, rfl⟩ := wl_inv hk
    exact ⟨Nat.le_add_right _ _, by show b + k < b + n; omega⟩
theorem wl_set {δ : Dl} {b : Nat} {sh : Sh} {N : Nat} {μ μ' : Mm} {o : Nat} {e : va_E} (h : o < N) (he : ent δ b sh μ' o = e) (hn : ∀ j, j ≠ o → ent δ b sh μ' j = ent δ b sh μ j) : (wl δ b sh N μ).set o (b + o, e) = wl δ b sh N μ' := by
  apply List.ext_getElem?
  intro j
  rw [List.getElem?_set]
  by_cases hj : o = j
  · subst hj
    rw [if_pos rfl, if_pos (by unfold wl; rw [List.length_map, List.length_range]; exact h), wl_get h, he]
  · rw [if_neg hj]
    by_cases hl : j < N
    · rw [wl_get hl, wl_get hl, hn j (Ne.symm hj)]
    · unfold wl
      rw [List.getElem?_map, List.getElem?_map, List.getElem?_eq_none (by rw [List.length_range]; omega)]
      rfl
theorem ent_wI {δ : Dl} {b : Nat} {sh : Sh} {μ : Mm} {o k j : Nat} {v : Int32} (h : j ≠ o) : ent δ b sh (wI μ o k v) j = ent δ b sh μ j := by
  have e : (wI μ o k v).1 j = μ.1 j := funext fun k' => by simp [wI, h]
  have ef : ∀ (k' : Nat) (ty : FieldType), fval b (wI μ o k v) j k' ty = fval b μ j k' ty := fun k' ty => by
    cases ty <;> simp [fval, wI, h]
  unfold ent
  simp only [e, ef]
  rfl
theorem ent_wL {δ : Dl} {b : Nat} {sh : Sh} {μ : Mm} {o k j : Nat} {v : Int64} (h : j ≠ o) : ent δ b sh (wL μ o k v) j = ent δ b sh μ j := by
  have e : (wL μ o k v).2.1 j = μ.2.1 j := funext fun k' => by simp [wL, h]
  have ef : ∀ (k' : Nat) (ty : FieldType), fval b (wL μ o k v) j k' ty = fval b μ j k' ty := fun k' ty => by
    cases ty <;> simp [fval, wL, h]
  unfold ent
  simp only [e, ef]
  rfl
theorem ent_wR {δ : Dl} {b : Nat} {sh : Sh} {μ : Mm} {o k j : Nat} {v : Option Nat} (h : j ≠ o) : ent δ b sh (wR μ o k v) j = ent δ b sh μ j := by
  have e : (wR μ o k v).2.2 j = μ.2.2 j := funext fun k' => by simp [wR, h]
  have ef : ∀ (k' : Nat) (ty : FieldType), fval b (wR μ o k v) j k' ty = fval b μ j k' ty := fun k' ty => by
    cases ty <;> simp [fval, wR, h]
  unfold ent
  simp only [e, ef]
  rfl
theorem ent_w0 {δ : Dl} {b : Nat} {sh : Sh} {μ : Mm} {o j : Nat} (h : j ≠ o) : ent δ b sh (w0 μ o) j = ent δ b sh μ j := by
  have e1 : (w0 μ o).1 j = μ.1 j := funext fun k' => by simp [w0, h]
  have e2 : (w0 μ o).2.1 j = μ.2.1 j := funext fun k' => by simp [w0, h]
  have e3 : (w0 μ o).2.2 j = μ.2.2 j := funext fun k' => by simp [w0, h]
  have ef : ∀ (k' : Nat) (ty : FieldType), fval b (w0 μ o) j k' ty = fval b μ j k' ty := fun k' ty => by
    cases ty <;> simp [fval, w0, h]
  unfold ent
  simp only [e1, e2, e3, ef]
theorem map_range_set {α : Type} {n k : Nat} {f g : Nat → α} {v : α} (hk : k < n) (hv : g k = v) (h : ∀ j, j ≠ k → g j = f j) : ((List.range n).map f).set k v = (List.range n).map g := by
  apply List.ext_getElem?
  intro j
  rw [List.getElem?_set]
  by_cases hj : k = j
  · subst hj
    rw [if_pos rfl, if_pos (by rw [List.length_map, List.length_range]; exact hk), List.getElem?_map, List.getElem?_range hk, ← hv]
    rfl
  · rw [if_neg hj, List.getElem?_map, List.getElem?_map]
    by_cases hl : j < n
    · rw [List.getElem?_range hl]
      exact congrArg some (h j (Ne.symm hj)).symm
    · rw [List.getElem?_eq_none (by rw [List.length_range]; omega)]
      rfl
-- what stands at a place of the world
def OB (sh : Sh) (N o c : Nat) : Prop := o < N ∧ sh o = .inl c
def AR (sh : Sh) (N o t n : Nat) : Prop := o < N ∧ sh o = .inr (t, n)
theorem ob_get {δ : Dl} {b : Nat} {sh : Sh} {N : Nat} {μ : Mm} {o c : Nat} (h : OB sh N o c) : (wl δ b sh N μ)[o]? = some (b + o, .inr (c, (List.range (ncf c)).map (fun k => fval b μ o k (cft c k)))) := by
  rw [wl_get h.1]
  unfold ent
  rw [h.2]
theorem ar_getI {δ : Dl} {b : Nat} {sh : Sh} {N : Nat} {μ : Mm} {o n : Nat} (h : AR sh N o 0 n) : (wl δ b sh N μ)[o]? = some (b + o, .inl (δ.2.1 0, n, .inl (μ.1 o))) := by
  rw [wl_get h.1]
  unfold ent
  rw [h.2]
  rfl
theorem ar_getL {δ : Dl} {b : Nat} {sh : Sh} {N : Nat} {μ : Mm} {o n : Nat} (h : AR sh N o 1 n) : (wl δ b sh N μ)[o]? = some (b + o, .inl (δ.2.1 1, n, .inr (.inl (μ.2.1 o)))) := by
  rw [wl_get h.1]
  unfold ent
  rw [h.2]
  rfl
theorem ar_getR {δ : Dl} {b : Nat} {sh : Sh} {N : Nat} {μ : Mm} {o t n : Nat} (h : AR sh N o (t + 2) n) : (wl δ b sh N μ)[o]? = some (b + o, .inl (δ.2.1 (t + 2), n, .inr (.inr (.inr (.inr (fun j => (μ.2.2 o j).map (fun i => b + i))))))) := by
  rw [wl_get h.1]
  unfold ent
  rw [h.2]
  rfl
theorem ob_setI {δ : Dl} {b : Nat} {sh : Sh} {N : Nat} {μ : Mm} {o c k : Nat} {v : Int32} (h : OB sh N o c) (hk : k < ncf c) (ht : cft c k = .int ∨ cft c k = .boolean) : (wl δ b sh N μ).set o (b + o, .inr (c, ((List.range (ncf c)).map (fun k => fval b μ o k (cft c k))).set k (.int v))) = wl δ b sh N (wI μ o k v) := by
  refine wl_set h.1 ?_ (fun j hj => ent_wI hj)
  unfold ent
  rw [h.2]
  dsimp only
  rw [map_range_set hk (g := fun k' => fval b (wI μ o k v) o k' (cft c k'))]
  · rcases ht with ht | ht <;> simp [fval, ht, wI]
  · intro j hj
    cases cft c j <;> simp [fval, wI, hj]
theorem ob_setR {δ : Dl} {b : Nat} {sh : Sh} {N : Nat} {μ : Mm} {o c k : Nat} {v : Option Nat} (h : OB sh N o c) (hk : k < ncf c) (ht : ∀ (b : Nat) (μ : Mm) (o : Nat), fval b μ o k (cft c k) = va_rf ((μ.2.2 o k).map (fun j => b + j))) : (wl δ b sh N μ).set o (b + o, .inr (c, ((List.range (ncf c)).map (fun k => fval b μ o k (cft c k))).set k (va_rf (v.map (fun j => b + j))))) = wl δ b sh N (wR μ o k v) := by
  refine wl_set h.1 ?_ (fun j hj => ent_wR hj)
  unfold ent
  rw [h.2]
  dsimp only
  rw [map_range_set hk (g := fun k' => fval b (wR μ o k v) o k' (cft c k'))]
  · rw [ht]
    simp [wR]
  · intro j hj
    cases cft c j <;> simp [fval, wR, hj]
theorem ar_setI {δ : Dl} {b : Nat} {sh : Sh} {N : Nat} {μ : Mm} {o n k : Nat} {v : Int32} (h : AR sh N o 0 n) : (wl δ b sh N μ).set o (b + o, .inl (δ.2.1 0, n, .inl (upd (μ.1 o) k v))) = wl δ b sh N (wI μ o k v) := by
  refine wl_set h.1 ?_ (fun j hj => ent_wI hj)
  unfold ent
  rw [h.2]
  refine congrArg (fun f => Sum.inl (δ.2.1 0, n, Sum.inl f)) (funext fun j => ?_)
  simp [wI, upd]
theorem ar_setL {δ : Dl} {b : Nat} {sh : Sh} {N : Nat} {μ : Mm} {o n k : Nat} {v : Int64} (h : AR sh N o 1 n) : (wl δ b sh N μ).set o (b + o, .inl (δ.2.1 1, n, .inr (.inl (vp_updL (μ.2.1 o) k v)))) = wl δ b sh N (wL μ o k v) := by
  refine wl_set h.1 ?_ (fun j hj => ent_wL hj)
  unfold ent
  rw [h.2]
  refine congrArg (fun f => Sum.inl (δ.2.1 1, n, Sum.inr (Sum.inl f))) (funext fun j => ?_)
  simp [wL, vp_updL]
end
section
/-! locals by their places -/
def lp : Nat → List (Option Value) → List (Nat × Value)
  | _, [] => []
  | k, none :: t => lp (k + 1) t
  | k, some v :: t => (k, v) :: lp (k + 1) t
theorem lp_mem : ∀ (ls : List (Option Value)) (k i : Nat) (v : Value), (i, v) ∈ lp k ls ↔ ∃ j, i = k + j ∧ ls[j]? = some (some v)
  | [], k, i, v => by simp [lp]
  | none :: t, k, i, v => by
    rw [lp, lp_mem t (k + 1) i v]
    constructor
    · rintro ⟨j, rfl, h⟩
      exact ⟨j + 1, by omega, by simpa using h⟩
    · rintro ⟨j, rfl, h⟩
      cases j with
      | zero => simp at h
      | succ j => exact ⟨j, by omega, by simpa using h⟩
  | some w :: t, k, i, v => by
    rw [lp, List.mem_cons, lp_mem t (k + 1) i v]
    constructor
    · rintro (h | ⟨j, rfl, h⟩)
      · cases h
        exact ⟨0, by omega, by simp⟩
      · exact ⟨j + 1, by omega, by simpa using h⟩
    · rintro ⟨j, rfl, h⟩
      cases j with
      | zero => exact Or.inl (by simp at h; rw [h]; rfl)
      | succ j => exact Or.inr ⟨j, by omega, by simpa using h⟩
def lh (lsr : Array Slot) (nL : Nat) (ls : List (Option Value)) : Prop := lv_has lsr nL (lp 0 ls)
theorem lh_at {lsr : Array Slot} {nL : Nat} {ls : List (Option Value)} (h : lh lsr nL ls) {i : Nat} {v : Value} (hi : ls[i]? = some (some v)) : lsr[i]? = some (.val v) :=
  h.2.2 (i, v) ((lp_mem ls 0 i v).mpr ⟨i, by omega, hi⟩)
theorem lh_sub {lsr : Array Slot} {nL : Nat} {l : List (Nat × Value)} {ls : List (Option Value)} (h : lv_has lsr nL l) (hs : ∀ (i : Nat) (v : Value), ls[i]? = some (some v) → (i, v) ∈ l) : lh lsr nL ls :=
  ⟨h.1, h.2.1, fun q hq => by
    obtain ⟨j, hj, hv⟩ := (lp_mem ls 0 q.1 q.2).mp hq
    have e : q.1 = j := by omega
    exact h.2.2 q (hs q.1 q.2 (by rw [e]; exact hv))⟩
/-- forget what some places hold -/
theorem lh_weak {lsr : Array Slot} {nL : Nat} {ls ls' : List (Option Value)} (h : lh lsr nL ls) (hs : ∀ (i : Nat) (v : Value), ls'[i]? = some (some v) → ls[i]? = some (some v)) : lh lsr nL ls' :=
  lh_sub h fun i v hi => (lp_mem ls 0 i v).mpr ⟨i, by omega, hs i v hi⟩
/-- no long ends at place i -/
def okst (ls : List (Option Value)) : Nat → Bool
  | 0 => true
  | i + 1 => match ls[i]? with
    | some (some w) => w.category == 1
    | _ => true
theorem lh_set1 {lsr : Array Slot} {nL i : Nat} {v : Value} {ls : List (Option Value)} (hok : okst ls i = true) (h : lv_has lsr nL ((i, v) :: (lp 0 ls).filter (fun q => !(q.1 == i) && !(q.1 + 1 == i && q.2.category == 2)))) : lh lsr nL (ls.set i (some v)) := by
  refine lh_sub h fun j w hj => ?_
  by_cases e : i = j
  · subst e
    rw [List.getElem?_set] at hj
    simp only [if_true] at hj
    split at hj
    · cases hj
      exact List.mem_cons_self
    · cases hj
  · rw [List.getElem?_set_ne e] at hj
    refine List.mem_cons_of_mem _ (List.mem_filter.mpr ⟨(lp_mem ls 0 j w).mpr ⟨j, by omega, hj⟩, ?_⟩)
    have e' : ¬ j = i := fun z => e z.symm
    by_cases e2 : j + 1 = i
    · subst e2
      simp only [okst, hj] at hok
      have hw : w.category = 1 := by simpa using hok
      simp [hw]
    · simp [e', e2]
def la : List Value → List (Option Value)
  | [] => []
  | v :: r => if v.category = 2 then some v :: none :: la r else some v :: la r
theorem la_args : ∀ (vs : List Value) (k i n : Nat) (v : Value), (la vs ++ List.replicate n none)[i]? = some (some v) → (k + i, v) ∈ lv_args k vs
  | [], k, i, n, v, h => by
    simp only [la, List.nil_append] at h
    rw [List.getElem?_replicate] at h
    split at h <;> cases h
  | w :: r, k, i, n, v, h => by
    unfold la at h
    unfold lv_args
    split at h
    · rename_i hc
      rw [if_pos hc]
      match i, h with
      | 0, h => simp at h; rw [h]; exact List.mem_cons_self
      | 1, h => simp at h
      | j + 2, h =>
        have h2 : (la r ++ List.replicate n none)[j]? = some (some v) := by simpa using h
        have := la_args r (k + 2) j n v h2
        rw [show k + (j + 2) = k + 2 + j by omega]
        exact List.mem_cons_of_mem _ this
    · rename_i hc
      rw [if_neg hc]
      match i, h with
      | 0, h => simp at h; rw [h]; exact List.mem_cons_self
      | j + 1, h =>
        have h2 : (la r ++ List.replicate n none)[j]? = some (some v) := by simpa using h
        have := la_args r (k + 1) j n v h2
        rw [show k + (j + 1) = k + 1 + j by omega]
        exact List.mem_cons_of_mem _ this
/-! what the tables say beside TT: links in a nest, casts, String constants -/
def NW : List Cond := lw_tbl.filter (fun w => match w with
  | .methodLinkNest _ _ _ _ => true
  | .castable _ _ => true
  | _ => false)
def kinds7 : List String := [RX4, RX2, RX5, RX1, RX7, RX8, RX0]
def NC : List (String × String) := (kinds7.flatMap fun C => kinds7.map fun D => (C, D)).filter (fun q => !(q.1 == q.2) && !(q.2 == RX4) && !(q.1 == RX1 && q.2 == RX2) && !(q.1 == RX0 && q.2 == RX5) && !(q.1 == RX8 && q.2 == RX5))
def skey : List (String × Nat × String × List Int32) := [(RX6, 74, "house", [104, 111, 117, 115, 101]), (RX6, 76, "coat", [99, 111, 97, 116]), (RX6, 78, "hides", [104, 105, 100, 101, 115]), (RX6, 79, "costs", [99, 111, 115, 116, 115]), (RX6, 80, "hail", [104, 97, 105, 108]), (RX6, 82, "scratch", [115, 99, 114, 97, 116, 99, 104]), (RX12, 181, "cratch", [99, 114, 97, 116, 99, 104]), (RX12, 197, "ts", [116, 115]), (RX12, 199, "at", [97, 116]), (RX12, 200, "des", [100, 101, 115]), (RX12, 202, "il", [105, 108]), (RX12, 207, "ouse", [111, 117, 115, 101])]
def sbyt : List (List Int32) := skey.map fun q => q.2.2.2
def KX (δ : Dl) (U : State) : Prop := va_K δ.1 vwCl (tys δ) U ∧ (∀ w ∈ NW, va_Nw w U) ∧ (∀ q ∈ NC, va_Nc q.1 q.2 U) ∧ ∀ (i : Nat) (q : String × Nat × String × List Int32), skey[i]? = some q → vk_R q.1 q.2.1 q.2.2.1 (δ.2.2.1 i) U
def KS (δ : Dl) (A : Nat → Prop) (U : State) (H : Heap) : Prop := vk_S 12 (sbyt.map List.length) sbyt δ.2.2.1 δ.2.2.2 A U H
theorem KX.warm {δ : Dl} {s U : State} (hW : s.WarmedH U.vm) (h : KX δ s) : KX δ U := by
  refine ⟨va_K.moved hW.alike h.1, fun w hw => ?_, fun q hq => va_Nc.moved hW.alike (h.2.2.1 q hq), fun i q hq => vk_R.warm hW (h.2.2.2 i q hq)⟩
  have h1 := h.2.1 w hw
  have h2 := (List.mem_filter.mp hw).2
  cases w with
  | methodLinkNest a i x hh => exact va_Nw.warmM hW h1
  | castable a c => exact va_Nw.warmC hW h1
  | _ => cases h2
theorem KX.same {δ : Dl} {u U : State} (hv : u.vm = U.vm) (h : KX δ u) : KX δ U := by
  refine ⟨va_K.moved (by rw [hv]; exact Vm.Alike.refl _) h.1, fun w hw => ?_, fun q hq => va_Nc.moved (by rw [hv]; exact Vm.Alike.refl _) (h.2.2.1 q hq), fun i q hq => vk_R.same hv.symm (h.2.2.2 i q hq)⟩
  have h1 := h.2.1 w hw
  have h2 := (List.mem_filter.mp hw).2
  cases w with
  | methodLinkNest a i x hh => exact va_Nw.same rfl hv h1
  | castable a c => exact va_Nw.same rfl hv h1
  | _ => cases h2
end
section
/-! the judgement: from the frame at pc with these locals and this stack, over a heap that holds this memory, the method comes to its end as it should -/
abbrev Kt : Type := Program × Launch × Env × Room × State × MethodId × Array Value × List Frame × Method × Code
abbrev Wt : Type := Dl × Nat × Nat × Nat × Sh × Prop × (Array Value → State → Outcome → State → Prop) × Nat × Nat
def AW (κ : Kt) (K : Wt) (N cells slots pc : Nat) (ls : List (Option Value)) (st : List Value) (μ : Mm) : Prop :=
  match κ, K with
  | (p, l, e, R, s, m, args, below, meth, c), (δ, b, n, nL, sh, tp, Qc, mc, ms) =>
    ∀ (H : Heap) (locs : List Loc) (lsr : Array Slot), va_P δ.1 vwCl (wl δ b sh N μ) H → (tp → H.size = b + N) → va_S (RG b n) s.heap H locs → lh lsr nL ls →
      W p l e R s m args below meth c H locs cells slots (MQ below Qc args s mc ms (RG b n)) (F0 m pc lsr st)
def rmD (d mc ms : Nat) : Room := { frames := d, cells := mc, slots := ms, locals := 64 * d }
/-- what holds all through a method of class own, named nm, whose bytes are cc -/
def CX (κ : Kt) (K : Wt) (own nm : String) (cc : ByteArray) (ret : Option FieldType) (d : Nat) : Prop :=
  match κ, K with
  | (p, l, e, R, s, m, args, below, meth, c), (δ, b, n, nL, sh, tp, Qc, mc, ms) =>
    p.tables.exec = Jvm.exec ∧ c.code = cc ∧ c.maxLocals = nL ∧ s.vm.findClass own = some m.cls ∧ (∀ w ∈ TT, w.before args s = true) ∧ meth.locks = false ∧ meth.sig.returnType = ret ∧ meth.name = nm ∧ KX δ s ∧ KS δ (RG b n) s s.heap ∧ R = rmD d mc ms
def MQc (δ : Dl) (b n : Nat) (sh : Sh) (N : Nat) (tp : Prop) (post : Option Value → Mm → Prop) : Array Value → State → Outcome → State → Prop := fun _ st oc t =>
  (∃ (v : Option Value) (μ : Mm), oc = .returned v ∧ post v μ ∧ va_P δ.1 vwCl (wl δ b sh N μ) t.heap ∧ (tp → t.heap.size = b + N)) ∧ va_F (RG b n) st t
/-- a method's contract: from the world of N places and memory μ to one of N', with post -/
def MC (l : Launch) (δ : Dl) (b n : Nat) (sh : Sh) (tp : Prop) (y : MethodName) (bytes : ByteArray) (maxL : Nat) (ret : Option FieldType) (d mc ms N N' : Nat) (av : List Value) (μ : Mm) (post : Option Value → Mm → Prop) : Prop :=
  Met l y (Cond.code y bytes maxL ret :: TT) (rmD d mc ms) (va_Pc av (fun U => va_P δ.1 vwCl (wl δ b sh N μ) U.heap ∧ (tp → U.heap.size = b + N) ∧ KX δ U ∧ KS δ (RG b n) U U.heap)) (MQc δ b n sh N' tp post) mc ms (RG b n)
section ROWS
variable {κ : Kt} {δ : Dl} {b n nL : Nat} {sh : Sh} {tp : Prop} {Qc : Array Value → State → Outcome → State → Prop} {mc ms d : Nat} {own nm : String} {cc : ByteArray} {ret : Option FieldType} {N cells slots pc : Nat} {ls : List (Option Value)} {st : List Value} {μ : Mm}
theorem AW.iconst (X : CX κ (δ, b, n, nL, sh, tp, Qc, mc, ms) own nm cc ret d) {i : Int} {v : Int32} (hd : decode cc pc = .ok (.iconst i, 1)) (hv : Int32.ofInt i = v) (k : AW κ (δ, b, n, nL, sh, tp, Qc, mc, ms) N cells slots (pc + 1) ls (.int v :: st) μ) : AW κ (δ, b, n, nL, sh, tp, Qc, mc, ms) N cells slots pc ls st μ := by
  obtain ⟨p, l, e, R, s, m, args, below, meth, c⟩ := κ
  intro H locs lsr hP hT hS h
  exact lv_iconst X.1 X.2.1 hd hv (k H locs lsr hP hT hS h)
theorem AW.bipush (X : CX κ (δ, b, n, nL, sh, tp, Qc, mc, ms) own nm cc ret d) {i : Int} {v : Int32} (hd : decode cc pc = .ok (.bipush i, 2)) (hv : (Int8.ofInt i).toInt32 = v) (k : AW κ (δ, b, n, nL, sh, tp, Qc, mc, ms) N cells slots (pc + 2) ls (.int v :: st) μ) : AW κ (δ, b, n, nL, sh, tp, Qc, mc, ms) N cells slots pc ls st μ := by
  obtain ⟨p, l, e, R, s, m, args, below, meth, c⟩ := κ
  intro H locs lsr hP hT hS h
  exact lv_bipush X.1 X.2.1 hd hv (k H locs lsr hP hT hS h)
theorem AW.sipush (X : CX κ (δ, b, n, nL, sh, tp, Qc, mc, ms) own nm cc ret d) {i : Int} {v : Int32} (hd : decode cc pc = .ok (.sipush i, 3)) (hv : (Int16.ofInt i).toInt32 = v) (k : AW κ (δ, b, n, nL, sh, tp, Qc, mc, ms) N cells slots (pc + 3) ls (.int v :: st) μ) : AW κ (δ, b, n, nL, sh, tp, Qc, mc, ms) N cells slots pc ls st μ := by
  obtain ⟨p, l, e, R, s, m, args, below, meth, c⟩ := κ
  intro H locs lsr hP hT hS h
  exact lv_sipush X.1 X.2.1 hd hv (k H locs lsr hP hT hS h)
theorem AW.lconst (X : CX κ (δ, b, n, nL, sh, tp, Qc, mc, ms) own nm cc ret d) {i : Fin 2} {v : Int64} (hd : decode cc pc = .ok (.lconst i, 1)) (hv : Int64.ofNat (i : Nat) = v) (k : AW κ (δ, b, n, nL, sh, tp, Qc, mc, ms) N cells slots (pc + 1) ls (.long v :: st) μ) : AW κ (δ, b, n, nL, sh, tp, Qc, mc, ms) N cells slots pc ls st μ := by
  obtain ⟨p, l, e, R, s, m, args, below, meth, c⟩ := κ
  intro H locs lsr hP hT hS h
  exact lv_lconst X.1 X.2.1 hd hv (k H locs lsr hP hT hS h)
theorem AW.iadd (X : CX κ (δ, b, n, nL, sh, tp, Qc, mc, ms) own nm cc ret d) {x z : Int32} (hd : decode cc pc = .ok (.iadd, 1)) (k : AW κ (δ, b, n, nL, sh, tp, Qc, mc, ms) N cells slots (pc + 1) ls (.int (x + z) :: st) μ) : AW κ (δ, b, n, nL, sh, tp, Qc, mc, ms) N cells slots pc ls (.int z :: .int x :: st) μ := by
  obtain ⟨p, l, e, R, s, m, args, below, meth, c⟩ := κ
  intro H locs lsr hP hT hS h
  exact lv_iadd X.1 X.2.1 hd (k H locs lsr hP hT hS h)
theorem AW.isub (X : CX κ (δ, b, n, nL, sh, tp, Qc, mc, ms) own nm cc ret d) {x z : Int32} (hd : decode cc pc = .ok (.isub, 1)) (k : AW κ (δ, b, n, nL, sh, tp, Qc, mc, ms) N cells slots (pc + 1) ls (.int (x - z) :: st) μ) : AW κ (δ, b, n, nL, sh, tp, Qc, mc, ms) N cells slots pc ls (.int z :: .int x :: st) μ := by
  obtain ⟨p, l, e, R, s, m, args, below, meth, c⟩ := κ
  intro H locs lsr hP hT hS h
  exact lv_isub X.1 X.2.1 hd (k H locs lsr hP hT hS h)
theorem AW.imul (X : CX κ (δ, b, n, nL, sh, tp, Qc, mc, ms) own nm cc ret d) {x z : Int32} (hd : decode cc pc = .ok (.imul, 1)) (k : AW κ (δ, b, n, nL, sh, tp, Qc, mc, ms) N cells slots (pc + 1) ls (.int (x * z) :: st) μ) : AW κ (δ, b, n, nL, sh, tp, Qc, mc, ms) N cells slots pc ls (.int z :: .int x :: st) μ := by
  obtain ⟨p, l, e, R, s, m, args, below, meth, c⟩ := κ
  intro H locs lsr hP hT hS h
  exact lv_imul X.1 X.2.1 hd (k H locs lsr hP hT hS h)
theorem AW.iand (X : CX κ (δ, b, n, nL, sh, tp, Qc, mc, ms) own nm cc ret d) {x z : Int32} (hd : decode cc pc = .ok (.iand, 1)) (k : AW κ (δ, b, n, nL, sh, tp, Qc, mc, ms) N cells slots (pc + 1) ls (.int (x &&& z) :: st) μ) : AW κ (δ, b, n, nL, sh, tp, Qc, mc, ms) N cells slots pc ls (.int z :: .int x :: st) μ := by
  obtain ⟨p, l, e, R, s, m, args, below, meth, c⟩ := κ
  intro H locs lsr hP hT hS h
  exact lv_iand X.1 X.2.1 hd (k H locs lsr hP hT hS h)
theorem AW.ior (X : CX κ (δ, b, n, nL, sh, tp, Qc, mc, ms) own nm cc ret d) {x z : Int32} (hd : decode cc pc = .ok (.ior, 1)) (k : AW κ (δ, b, n, nL, sh, tp, Qc, mc, ms) N cells slots (pc + 1) ls (.int (x ||| z) :: st) μ) : AW κ (δ, b, n, nL, sh, tp, Qc, mc, ms) N cells slots pc ls (.int z :: .int x :: st) μ := by
  obtain ⟨p, l, e, R, s, m, args, below, meth, c⟩ := κ
  intro H locs lsr hP hT hS h
  exact lv_ior X.1 X.2.1 hd (k H locs lsr hP hT hS h)
theorem AW.ixor (X : CX κ (δ, b, n, nL, sh, tp, Qc, mc, ms) own nm cc ret d) {x z : Int32} (hd : decode cc pc = .ok (.ixor, 1)) (k : AW κ (δ, b, n, nL, sh, tp, Qc, mc, ms) N cells slots (pc + 1) ls (.int (x ^^^ z) :: st) μ) : AW κ (δ, b, n, nL, sh, tp, Qc, mc, ms) N cells slots pc ls (.int z :: .int x :: st) μ := by
  obtain ⟨p, l, e, R, s, m, args, below, meth, c⟩ := κ
  intro H locs lsr hP hT hS h
  exact lv_ixor X.1 X.2.1 hd (k H locs lsr hP hT hS h)
theorem AW.ishl (X : CX κ (δ, b, n, nL, sh, tp, Qc, mc, ms) own nm cc ret d) {x z : Int32} (hd : decode cc pc = .ok (.ishl, 1)) (k : AW κ (δ, b, n, nL, sh, tp, Qc, mc, ms) N cells slots (pc + 1) ls (.int (x <<< (z &&& 31)) :: st) μ) : AW κ (δ, b, n, nL, sh, tp, Qc, mc, ms) N cells slots pc ls (.int z :: .int x :: st) μ := by
  obtain ⟨p, l, e, R, s, m, args, below, meth, c⟩ := κ
  intro H locs lsr hP hT hS h
  exact lv_ishl X.1 X.2.1 hd (k H locs lsr hP hT hS h)
theorem AW.ishr (X : CX κ (δ, b, n, nL, sh, tp, Qc, mc, ms) own nm cc ret d) {x z : Int32} (hd : decode cc pc = .ok (.ishr, 1)) (k : AW κ (δ, b, n, nL, sh, tp, Qc, mc, ms) N cells slots (pc + 1) ls (.int (x >>> (z &&& 31)) :: st) μ) : AW κ (δ, b, n, nL, sh, tp, Qc, mc, ms) N cells slots pc ls (.int z :: .int x :: st) μ := by
  obtain ⟨p, l, e, R, s, m, args, below, meth, c⟩ := κ
  intro H locs lsr hP hT hS h
  exact lv_ishr X.1 X.2.1 hd (k H locs lsr hP hT hS h)
theorem AW.idiv (X : CX κ (δ, b, n, nL, sh, tp, Qc, mc, ms) own nm cc ret d) {x z : Int32} (hd : decode cc pc = .ok (.idiv, 1)) (hne : ¬ z = 0) (k : AW κ (δ, b, n, nL, sh, tp, Qc, mc, ms) N cells slots (pc + 1) ls (.int (x / z) :: st) μ) : AW κ (δ, b, n, nL, sh, tp, Qc, mc, ms) N cells slots pc ls (.int z :: .int x :: st) μ := by
  obtain ⟨p, l, e, R, s, m, args, below, meth, c⟩ := κ
  intro H locs lsr hP hT hS h
  exact lv_idiv X.1 X.2.1 hd hne (k H locs lsr hP hT hS h)
theorem AW.irem (X : CX κ (δ, b, n, nL, sh, tp, Qc, mc, ms) own nm cc ret d) {x z : Int32} (hd : decode cc pc = .ok (.irem, 1)) (hne : ¬ z = 0) (k : AW κ (δ, b, n, nL, sh, tp, Qc, mc, ms) N cells slots (pc + 1) ls (.int (x - x / z * z) :: st) μ) : AW κ (δ, b, n, nL, sh, tp, Qc, mc, ms) N cells slots pc ls (.int z :: .int x :: st) μ := by
  obtain ⟨p, l, e, R, s, m, args, below, meth, c⟩ := κ
  intro H locs lsr hP hT hS h
  exact lv_irem X.1 X.2.1 hd hne (k H locs lsr hP hT hS h)
theorem AW.ineg (X : CX κ (δ, b, n, nL, sh, tp, Qc, mc, ms) own nm cc ret d) {x : Int32} (hd : decode cc pc = .ok (.ineg, 1)) (k : AW κ (δ, b, n, nL, sh, tp, Qc, mc, ms) N cells slots (pc + 1) ls (.int (-x) :: st) μ) : AW κ (δ, b, n, nL, sh, tp, Qc, mc, ms) N cells slots pc ls (.int x :: st) μ := by
  obtain ⟨p, l, e, R, s, m, args, below, meth, c⟩ := κ
  intro H locs lsr hP hT hS h
  exact lv_ineg X.1 X.2.1 hd (k H locs lsr hP hT hS h)
theorem AW.ladd (X : CX κ (δ, b, n, nL, sh, tp, Qc, mc, ms) own nm cc ret d) {x z : Int64} (hd : decode cc pc = .ok (.ladd, 1)) (k : AW κ (δ, b, n, nL, sh, tp, Qc, mc, ms) N cells slots (pc + 1) ls (.long (x + z) :: st) μ) : AW κ (δ, b, n, nL, sh, tp, Qc, mc, ms) N cells slots pc ls (.long z :: .long x :: st) μ := by
  obtain ⟨p, l, e, R, s, m, args, below, meth, c⟩ := κ
  intro H locs lsr hP hT hS h
  exact lv_ladd X.1 X.2.1 hd (k H locs lsr hP hT hS h)
theorem AW.land (X : CX κ (δ, b, n, nL, sh, tp, Qc, mc, ms) own nm cc ret d) {x z : Int64} (hd : decode cc pc = .ok (.land, 1)) (k : AW κ (δ, b, n, nL, sh, tp, Qc, mc, ms) N cells slots (pc + 1) ls (.long (x &&& z) :: st) μ) : AW κ (δ, b, n, nL, sh, tp, Qc, mc, ms) N cells slots pc ls (.long z :: .long x :: st) μ := by
  obtain ⟨p, l, e, R, s, m, args, below, meth, c⟩ := κ
  intro H locs lsr hP hT hS h
  exact lv_land X.1 X.2.1 hd (k H locs lsr hP hT hS h)
theorem AW.lor (X : CX κ (δ, b, n, nL, sh, tp, Qc, mc, ms) own nm cc ret d) {x z : Int64} (hd : decode cc pc = .ok (.lor, 1)) (k : AW κ (δ, b, n, nL, sh, tp, Qc, mc, ms) N cells slots (pc + 1) ls (.long (x ||| z) :: st) μ) : AW κ (δ, b, n, nL, sh, tp, Qc, mc, ms) N cells slots pc ls (.long z :: .long x :: st) μ := by
  obtain ⟨p, l, e, R, s, m, args, below, meth, c⟩ := κ
  intro H locs lsr hP hT hS h
  exact lv_lor X.1 X.2.1 hd (k H locs lsr hP hT hS h)
theorem AW.i2l (X : CX κ (δ, b, n, nL, sh, tp, Qc, mc, ms) own nm cc ret d) {x : Int32} (hd : decode cc pc = .ok (.i2l, 1)) (k : AW κ (δ, b, n, nL, sh, tp, Qc, mc, ms) N cells slots (pc + 1) ls (.long x.toInt64 :: st) μ) : AW κ (δ, b, n, nL, sh, tp, Qc, mc, ms) N cells slots pc ls (.int x :: st) μ := by
  obtain ⟨p, l, e, R, s, m, args, below, meth, c⟩ := κ
  intro H locs lsr hP hT hS h
  exact lv_i2l X.1 X.2.1 hd rfl (k H locs lsr hP hT hS h)
theorem AW.l2i (X : CX κ (δ, b, n, nL, sh, tp, Qc, mc, ms) own nm cc ret d) {x : Int64} (hd : decode cc pc = .ok (.l2i, 1)) (k : AW κ (δ, b, n, nL, sh, tp, Qc, mc, ms) N cells slots (pc + 1) ls (.int x.toInt32 :: st) μ) : AW κ (δ, b, n, nL, sh, tp, Qc, mc, ms) N cells slots pc ls (.long x :: st) μ := by
  obtain ⟨p, l, e, R, s, m, args, below, meth, c⟩ := κ
  intro H locs lsr hP hT hS h
  exact lv_l2i X.1 X.2.1 hd rfl (k H locs lsr hP hT hS h)
theorem AW.i2b (X : CX κ (δ, b, n, nL, sh, tp, Qc, mc, ms) own nm cc ret d) {x : Int32} (hd : decode cc pc = .ok (.i2b, 1)) (k : AW κ (δ, b, n, nL, sh, tp, Qc, mc, ms) N cells slots (pc + 1) ls (.int x.toInt8.toInt32 :: st) μ) : AW κ (δ, b, n, nL, sh, tp, Qc, mc, ms) N cells slots pc ls (.int x :: st) μ := by
  obtain ⟨p, l, e, R, s, m, args, below, meth, c⟩ := κ
  intro H locs lsr hP hT hS h
  exact lv_i2b X.1 X.2.1 hd rfl (k H locs lsr hP hT hS h)
theorem AW.i2s (X : CX κ (δ, b, n, nL, sh, tp, Qc, mc, ms) own nm cc ret d) {x : Int32} (hd : decode cc pc = .ok (.i2s, 1)) (k : AW κ (δ, b, n, nL, sh, tp, Qc, mc, ms) N cells slots (pc + 1) ls (.int x.toInt16.toInt32 :: st) μ) : AW κ (δ, b, n, nL, sh, tp, Qc, mc, ms) N cells slots pc ls (.int x :: st) μ := by
  obtain ⟨p, l, e, R, s, m, args, below, meth, c⟩ := κ
  intro H locs lsr hP hT hS h
  exact lv_i2s X.1 X.2.1 hd rfl (k H locs lsr hP hT hS h)
theorem AW.iushr (X : CX κ (δ, b, n, nL, sh, tp, Qc, mc, ms) own nm cc ret d) {x z : Int32} (hd : decode cc pc = .ok (.iushr, 1)) (k : AW κ (δ, b, n, nL, sh, tp, Qc, mc, ms) N cells slots (pc + 1) ls (.int (x.toUInt32 >>> (z.toUInt32 &&& Int32.toUInt32 31)).toInt32 :: st) μ) : AW κ (δ, b, n, nL, sh, tp, Qc, mc, ms) N cells slots pc ls (.int z :: .int x :: st) μ := by
  obtain ⟨p, l, e, R, s, m, args, below, meth, c⟩ := κ
  intro H locs lsr hP hT hS h
  exact lv_iushr X.1 X.2.1 hd rfl (k H locs lsr hP hT hS h)
theorem AW.lshl (X : CX κ (δ, b, n, nL, sh, tp, Qc, mc, ms) own nm cc ret d) {x : Int64} {z : Int32} (hd : decode cc pc = .ok (.lshl, 1)) (k : AW κ (δ, b, n, nL, sh, tp, Qc, mc, ms) N cells slots (pc + 1) ls (.long (x <<< (z.toInt64 &&& 63)) :: st) μ) : AW κ (δ, b, n, nL, sh, tp, Qc, mc, ms) N cells slots pc ls (.int z :: .long x :: st) μ := by
  obtain ⟨p, l, e, R, s, m, args, below, meth, c⟩ := κ
  intro H locs lsr hP hT hS h
  exact lv_lshl X.1 X.2.1 hd rfl (k H locs lsr hP hT hS h)
theorem AW.lcmp (X : CX κ (δ, b, n, nL, sh, tp, Qc, mc, ms) own nm cc ret d) {x z : Int64} (hd : decode cc pc = .ok (.lcmp, 1)) (k : AW κ (δ, b, n, nL, sh, tp, Qc, mc, ms) N cells slots (pc + 1) ls (.int (lg_cmp x z) :: st) μ) : AW κ (δ, b, n, nL, sh, tp, Qc, mc, ms) N cells slots pc ls (.long z :: .long x :: st) μ := by
  obtain ⟨p, l, e, R, s, m, args, below, meth, c⟩ := κ
  intro H locs lsr hP hT hS h
  exact W.lcmp X.1 X.2.1 hd (k H locs lsr hP hT hS h)
theorem AW.dup (X : CX κ (δ, b, n, nL, sh, tp, Qc, mc, ms) own nm cc ret d) {v : Value} (hd : decode cc pc = .ok (.dup, 1)) (hv : v.category = 1) (k : AW κ (δ, b, n, nL, sh, tp, Qc, mc, ms) N cells slots (pc + 1) ls (v :: v :: st) μ) : AW κ (δ, b, n, nL, sh, tp, Qc, mc, ms) N cells slots pc ls (v :: st) μ := by
  obtain ⟨p, l, e, R, s, m, args, below, meth, c⟩ := κ
  intro H locs lsr hP hT hS h
  exact lv_dup X.1 X.2.1 hd hv (k H locs lsr hP hT hS h)
theorem AW.pop (X : CX κ (δ, b, n, nL, sh, tp, Qc, mc, ms) own nm cc ret d) {v : Value} (hd : decode cc pc = .ok (.pop, 1)) (hv : v.category = 1) (k : AW κ (δ, b, n, nL, sh, tp, Qc, mc, ms) N cells slots (pc + 1) ls st μ) : AW κ (δ, b, n, nL, sh, tp, Qc, mc, ms) N cells slots pc ls (v :: st) μ := by
  obtain ⟨p, l, e, R, s, m, args, below, meth, c⟩ := κ
  intro H locs lsr hP hT hS h
  exact lv_pop X.1 X.2.1 hd hv (k H locs lsr hP hT hS h)
theorem AW.dup_x1 (X : CX κ (δ, b, n, nL, sh, tp, Qc, mc, ms) own nm cc ret d) {v w : Value} (hd : decode cc pc = .ok (.dup_x1, 1)) (hv : v.category = 1) (hw : w.category = 1) (k : AW κ (δ, b, n, nL, sh, tp, Qc, mc, ms) N cells slots (pc + 1) ls (v :: w :: v :: st) μ) : AW κ (δ, b, n, nL, sh, tp, Qc, mc, ms) N cells slots pc ls (v :: w :: st) μ := by
  obtain ⟨p, l, e, R, s, m, args, below, meth, c⟩ := κ
  intro H locs lsr hP hT hS h
  exact lv_dup_x1 X.1 X.2.1 hd hv hw (k H locs lsr hP hT hS h)
theorem AW.dup_x2 (X : CX κ (δ, b, n, nL, sh, tp, Qc, mc, ms) own nm cc ret d) {v w u : Value} (hd : decode cc pc = .ok (.dup_x2, 1)) (hv : v.category = 1) (hw : w.category = 1) (hu : u.category = 1) (k : AW κ (δ, b, n, nL, sh, tp, Qc, mc, ms) N cells slots (pc + 1) ls (v :: w :: u :: v :: st) μ) : AW κ (δ, b, n, nL, sh, tp, Qc, mc, ms) N cells slots pc ls (v :: w :: u :: st) μ := by
  obtain ⟨p, l, e, R, s, m, args, below, meth, c⟩ := κ
  intro H locs lsr hP hT hS h
  exact lv_dup_x2 X.1 X.2.1 hd hv hw hu (k H locs lsr hP hT hS h)
theorem AW.dup2 (X : CX κ (δ, b, n, nL, sh, tp, Qc, mc, ms) own nm cc ret d) {v w : Value} (hd : decode cc pc = .ok (.dup2, 1)) (hv : v.category = 1) (hw : w.category = 1) (k : AW κ (δ, b, n, nL, sh, tp, Qc, mc, ms) N cells slots (pc + 1) ls (v :: w :: v :: w :: st) μ) : AW κ (δ, b, n, nL, sh, tp, Qc, mc, ms) N cells slots pc ls (v :: w :: st) μ := by
  obtain ⟨p, l, e, R, s, m, args, below, meth, c⟩ := κ
  intro H locs lsr hP hT hS h
  exact lv_dup2_11 X.1 X.2.1 hd hv hw (k H locs lsr hP hT hS h)
theorem AW.iload_n (X : CX κ (δ, b, n, nL, sh, tp, Qc, mc, ms) own nm cc ret d) {k0 : Fin 4} {x : Int32} (hd : decode cc pc = .ok (.iload_n k0, 1)) (hl : ls[(k0 : Nat)]? = some (some (.int x))) (k : AW κ (δ, b, n, nL, sh, tp, Qc, mc, ms) N cells slots (pc + 1) ls (.int x :: st) μ) : AW κ (δ, b, n, nL, sh, tp, Qc, mc, ms) N cells slots pc ls st μ := by
  obtain ⟨p, l, e, R, s, m, args, below, meth, c⟩ := κ
  intro H locs lsr hP hT hS h
  exact lv_iload_n X.1 X.2.1 hd rfl (lh_at h hl) (k H locs lsr hP hT hS h)
theorem AW.iload (X : CX κ (δ, b, n, nL, sh, tp, Qc, mc, ms) own nm cc ret d) {k0 : Nat} {x : Int32} (hd : decode cc pc = .ok (.iload k0, 2)) (hl : ls[k0]? = some (some (.int x))) (k : AW κ (δ, b, n, nL, sh, tp, Qc, mc, ms) N cells slots (pc + 2) ls (.int x :: st) μ) : AW κ (δ, b, n, nL, sh, tp, Qc, mc, ms) N cells slots pc ls st μ := by
  obtain ⟨p, l, e, R, s, m, args, below, meth, c⟩ := κ
  intro H locs lsr hP hT hS h
  exact lv_iload X.1 X.2.1 hd (lh_at h hl) (k H locs lsr hP hT hS h)
theorem AW.lload_n (X : CX κ (δ, b, n, nL, sh, tp, Qc, mc, ms) own nm cc ret d) {k0 : Fin 4} {x : Int64} (hd : decode cc pc = .ok (.lload_n k0, 1)) (hl : ls[(k0 : Nat)]? = some (some (.long x))) (k : AW κ (δ, b, n, nL, sh, tp, Qc, mc, ms) N cells slots (pc + 1) ls (.long x :: st) μ) : AW κ (δ, b, n, nL, sh, tp, Qc, mc, ms) N cells slots pc ls st μ := by
  obtain ⟨p, l, e, R, s, m, args, below, meth, c⟩ := κ
  intro H locs lsr hP hT hS h
  exact lv_lload_n X.1 X.2.1 hd rfl (lh_at h hl) (k H locs lsr hP hT hS h)
theorem AW.lload (X : CX κ (δ, b, n, nL, sh, tp, Qc, mc, ms) own nm cc ret d) {k0 : Nat} {x : Int64} (hd : decode cc pc = .ok (.lload k0, 2)) (hl : ls[k0]? = some (some (.long x))) (k : AW κ (δ, b, n, nL, sh, tp, Qc, mc, ms) N cells slots (pc + 2) ls (.long x :: st) μ) : AW κ (δ, b, n, nL, sh, tp, Qc, mc, ms) N cells slots pc ls st μ := by
  obtain ⟨p, l, e, R, s, m, args, below, meth, c⟩ := κ
  intro H locs lsr hP hT hS h
  exact lv_lload X.1 X.2.1 hd (lh_at h hl) (k H locs lsr hP hT hS h)
theorem AW.aload_n (X : CX κ (δ, b, n, nL, sh, tp, Qc, mc, ms) own nm cc ret d) {k0 : Fin 4} {x : Nat} (hd : decode cc pc = .ok (.aload_n k0, 1)) (hl : ls[(k0 : Nat)]? = some (some (.ref x))) (k : AW κ (δ, b, n, nL, sh, tp, Qc, mc, ms) N cells slots (pc + 1) ls (.ref x :: st) μ) : AW κ (δ, b, n, nL, sh, tp, Qc, mc, ms) N cells slots pc ls st μ := by
  obtain ⟨p, l, e, R, s, m, args, below, meth, c⟩ := κ
  intro H locs lsr hP hT hS h
  exact lv_aload_n X.1 X.2.1 hd rfl (lh_at h hl) (k H locs lsr hP hT hS h)
theorem AW.aload (X : CX κ (δ, b, n, nL, sh, tp, Qc, mc, ms) own nm cc ret d) {k0 : Nat} {x : Nat} (hd : decode cc pc = .ok (.aload k0, 2)) (hl : ls[k0]? = some (some (.ref x))) (k : AW κ (δ, b, n, nL, sh, tp, Qc, mc, ms) N cells slots (pc + 2) ls (.ref x :: st) μ) : AW κ (δ, b, n, nL, sh, tp, Qc, mc, ms) N cells slots pc ls st μ := by
  obtain ⟨p, l, e, R, s, m, args, below, meth, c⟩ := κ
  intro H locs lsr hP hT hS h
  exact lv_aload X.1 X.2.1 hd (lh_at h hl) (k H locs lsr hP hT hS h)
theorem AW.istore_n (X : CX κ (δ, b, n, nL, sh, tp, Qc, mc, ms) own nm cc ret d) {k0 : Fin 4} {x : Int32} (hd : decode cc pc = .ok (.istore_n k0, 1)) (hl : (decide ((k0 : Nat) < nL) && okst ls (k0 : Nat)) = true) (k : AW κ (δ, b, n, nL, sh, tp, Qc, mc, ms) N cells slots (pc + 1) (ls.set (k0 : Nat) (some (.int x))) st μ) : AW κ (δ, b, n, nL, sh, tp, Qc, mc, ms) N cells slots pc ls (.int x :: st) μ := by
  obtain ⟨p, l, e, R, s, m, args, below, meth, c⟩ := κ
  intro H locs lsr hP hT hS h
  simp only [Bool.and_eq_true, decide_eq_true_eq] at hl
  exact lv_istore_n X.1 X.2.1 hd rfl h hl.1 rfl (fun ls2 h2 => k H locs ls2 hP hT hS (lh_set1 hl.2 h2))
theorem AW.istore (X : CX κ (δ, b, n, nL, sh, tp, Qc, mc, ms) own nm cc ret d) {k0 : Nat} {x : Int32} (hd : decode cc pc = .ok (.istore k0, 2)) (hl : (decide (k0 < nL) && okst ls k0) = true) (k : AW κ (δ, b, n, nL, sh, tp, Qc, mc, ms) N cells slots (pc + 2) (ls.set k0 (some (.int x))) st μ) : AW κ (δ, b, n, nL, sh, tp, Qc, mc, ms) N cells slots pc ls (.int x :: st) μ := by
  obtain ⟨p, l, e, R, s, m, args, below, meth, c⟩ := κ
  intro H locs lsr hP hT hS h
  simp only [Bool.and_eq_true, decide_eq_true_eq] at hl
  exact lv_istore X.1 X.2.1 hd h hl.1 rfl (fun ls2 h2 => k H locs ls2 hP hT hS (lh_set1 hl.2 h2))
theorem AW.astore_n (X : CX κ (δ, b, n, nL, sh, tp, Qc, mc, ms) own nm cc ret d) {k0 : Fin 4} {x : Nat} (hd : decode cc pc = .ok (.astore_n k0, 1)) (hl : (decide ((k0 : Nat) < nL) && okst ls (k0 : Nat)) = true) (k : AW κ (δ, b, n, nL, sh, tp, Qc, mc, ms) N cells slots (pc + 1) (ls.set (k0 : Nat) (some (.ref x))) st μ) : AW κ (δ, b, n, nL, sh, tp, Qc, mc, ms) N cells slots pc ls (.ref x :: st) μ := by
  obtain ⟨p, l, e, R, s, m, args, below, meth, c⟩ := κ
  intro H locs lsr hP hT hS h
  simp only [Bool.and_eq_true, decide_eq_true_eq] at hl
  exact lv_astore_n X.1 X.2.1 hd rfl h hl.1 rfl (fun ls2 h2 => k H locs ls2 hP hT hS (lh_set1 hl.2 h2))
theorem AW.astore (X : CX κ (δ, b, n, nL, sh, tp, Qc, mc, ms) own nm cc ret d) {k0 : Nat} {x : Nat} (hd : decode cc pc = .ok (.astore k0, 2)) (hl : (decide (k0 < nL) && okst ls k0) = true) (k : AW κ (δ, b, n, nL, sh, tp, Qc, mc, ms) N cells slots (pc + 2) (ls.set k0 (some (.ref x))) st μ) : AW κ (δ, b, n, nL, sh, tp, Qc, mc, ms) N cells slots pc ls (.ref x :: st) μ := by
  obtain ⟨p, l, e, R, s, m, args, below, meth, c⟩ := κ
  intro H locs lsr hP hT hS h
  simp only [Bool.and_eq_true, decide_eq_true_eq] at hl
  exact lv_astore X.1 X.2.1 hd h hl.1 rfl (fun ls2 h2 => k H locs ls2 hP hT hS (lh_set1 hl.2 h2))
theorem lh_find {ls : List (Option Value)} {i : Nat} {v : Value} (h : ls[i]? = some (some v)) : ∃ k : Nat, (lp 0 ls)[k]? = some (i, v) := List.getElem?_of_mem ((lp_mem ls 0 i v).mpr ⟨i, by omega, h⟩)
theorem AW.iinc (X : CX κ (δ, b, n, nL, sh, tp, Qc, mc, ms) own nm cc ret d) {k0 : Nat} {i : Int} {x v : Int32} (hd : decode cc pc = .ok (.iinc k0 i, 3)) (hl : ls[k0]? = some (some (.int x))) (hv : Int32.ofInt i = v) (hl2 : (decide (k0 < nL) && okst ls k0) = true) (k : AW κ (δ, b, n, nL, sh, tp, Qc, mc, ms) N cells slots (pc + 3) (ls.set k0 (some (.int (x + v)))) st μ) : AW κ (δ, b, n, nL, sh, tp, Qc, mc, ms) N cells slots pc ls st μ := by
  obtain ⟨p, l, e, R, s, m, args, below, meth, c⟩ := κ
  intro H locs lsr hP hT hS h
  simp only [Bool.and_eq_true, decide_eq_true_eq] at hl2
  obtain ⟨k9, hk9⟩ := lh_find hl
  exact lv_iinc (k := k9) X.1 X.2.1 hd h hk9 (by rw [hv]) hl2.1 rfl (fun ls2 h2 => k H locs ls2 hP hT hS (lh_set1 hl2.2 h2))
theorem AW.if_eq (X : CX κ (δ, b, n, nL, sh, tp, Qc, mc, ms) own nm cc ret d) {x : Int32} {off : Int} {tgt : Nat} (hd : decode cc pc = .ok (.ifCond .eq off, 3)) (ht : (pc : Int) + off = (tgt : Int)) (k1 : x = 0 → AW κ (δ, b, n, nL, sh, tp, Qc, mc, ms) N cells slots tgt ls st μ) (k2 : ¬ (x = 0) → AW κ (δ, b, n, nL, sh, tp, Qc, mc, ms) N cells slots (pc + 3) ls st μ) : AW κ (δ, b, n, nL, sh, tp, Qc, mc, ms) N cells slots pc ls (.int x :: st) μ := by
  obtain ⟨p, l, e, R, s, m, args, below, meth, c⟩ := κ
  intro H locs lsr hP hT hS h
  exact lv_if_eq X.1 X.2.1 hd ht (fun q => k1 q H locs lsr hP hT hS h) (fun q => k2 q H locs lsr hP hT hS h)
theorem AW.icmp_eq (X : CX κ (δ, b, n, nL, sh, tp, Qc, mc, ms) own nm cc ret d) {x z : Int32} {off : Int} {tgt : Nat} (hd : decode cc pc = .ok (.if_icmp .eq off, 3)) (ht : (pc : Int) + off = (tgt : Int)) (k1 : x = z → AW κ (δ, b, n, nL, sh, tp, Qc, mc, ms) N cells slots tgt ls st μ) (k2 : ¬ (x = z) → AW κ (δ, b, n, nL, sh, tp, Qc, mc, ms) N cells slots (pc + 3) ls st μ) : AW κ (δ, b, n, nL, sh, tp, Qc, mc, ms) N cells slots pc ls (.int z :: .int x :: st) μ := by
  obtain ⟨p, l, e, R, s, m, args, below, meth, c⟩ := κ
  intro H locs lsr hP hT hS h
  exact lv_icmp_eq X.1 X.2.1 hd ht (fun q => k1 q H locs lsr hP hT hS h) (fun q => k2 q H locs lsr hP hT hS h)
theorem AW.if_ne (X : CX κ (δ, b, n, nL, sh, tp, Qc, mc, ms) own nm cc ret d) {x : Int32} {off : Int} {tgt : Nat} (hd : decode cc pc = .ok (.ifCond .ne off, 3)) (ht : (pc : Int) + off = (tgt : Int)) (k1 : ¬ x = 0 → AW κ (δ, b, n, nL, sh, tp, Qc, mc, ms) N cells slots tgt ls st μ) (k2 : x = 0 → AW κ (δ, b, n, nL, sh, tp, Qc, mc, ms) N cells slots (pc + 3) ls st μ) : AW κ (δ, b, n, nL, sh, tp, Qc, mc, ms) N cells slots pc ls (.int x :: st) μ := by
  obtain ⟨p, l, e, R, s, m, args, below, meth, c⟩ := κ
  intro H locs lsr hP hT hS h
  exact lv_if_ne X.1 X.2.1 hd ht (fun q => k1 q H locs lsr hP hT hS h) (fun q => k2 q H locs lsr hP hT hS h)
theorem AW.icmp_ne (X : CX κ (δ, b, n, nL, sh, tp, Qc, mc, ms) own nm cc ret d) {x z : Int32} {off : Int} {tgt : Nat} (hd : decode cc pc = .ok (.if_icmp .ne off, 3)) (ht : (pc : Int) + off = (tgt : Int)) (k1 : ¬ x = z → AW κ (δ, b, n, nL, sh, tp, Qc, mc, ms) N cells slots tgt ls st μ) (k2 : x = z → AW κ (δ, b, n, nL, sh, tp, Qc, mc, ms) N cells slots (pc + 3) ls st μ) : AW κ (δ, b, n, nL, sh, tp, Qc, mc, ms) N cells slots pc ls (.int z :: .int x :: st) μ := by
  obtain ⟨p, l, e, R, s, m, args, below, meth, c⟩ := κ
  intro H locs lsr hP hT hS h
  exact lv_icmp_ne X.1 X.2.1 hd ht (fun q => k1 q H locs lsr hP hT hS h) (fun q => k2 q H locs lsr hP hT hS h)
theorem AW.if_lt (X : CX κ (δ, b, n, nL, sh, tp, Qc, mc, ms) own nm cc ret d) {x : Int32} {off : Int} {tgt : Nat} (hd : decode cc pc = .ok (.ifCond .lt off, 3)) (ht : (pc : Int) + off = (tgt : Int)) (k1 : x < 0 → AW κ (δ, b, n, nL, sh, tp, Qc, mc, ms) N cells slots tgt ls st μ) (k2 : ¬ (x < 0) → AW κ (δ, b, n, nL, sh, tp, Qc, mc, ms) N cells slots (pc + 3) ls st μ) : AW κ (δ, b, n, nL, sh, tp, Qc, mc, ms) N cells slots pc ls (.int x :: st) μ := by
  obtain ⟨p, l, e, R, s, m, args, below, meth, c⟩ := κ
  intro H locs lsr hP hT hS h
  exact lv_if_lt X.1 X.2.1 hd ht (fun q => k1 q H locs lsr hP hT hS h) (fun q => k2 q H locs lsr hP hT hS h)
theorem AW.icmp_lt (X : CX κ (δ, b, n, nL, sh, tp, Qc, mc, ms) own nm cc ret d) {x z : Int32} {off : Int} {tgt : Nat} (hd : decode cc pc = .ok (.if_icmp .lt off, 3)) (ht : (pc : Int) + off = (tgt : Int)) (k1 : x < z → AW κ (δ, b, n, nL, sh, tp, Qc, mc, ms) N cells slots tgt ls st μ) (k2 : ¬ (x < z) → AW κ (δ, b, n, nL, sh, tp, Qc, mc, ms) N cells slots (pc + 3) ls st μ) : AW κ (δ, b, n, nL, sh, tp, Qc, mc, ms) N cells slots pc ls (.int z :: .int x :: st) μ := by
  obtain ⟨p, l, e, R, s, m, args, below, meth, c⟩ := κ
  intro H locs lsr hP hT hS h
  exact lv_icmp_lt X.1 X.2.1 hd ht (fun q => k1 q H locs lsr hP hT hS h) (fun q => k2 q H locs lsr hP hT hS h)
theorem AW.if_ge (X : CX κ (δ, b, n, nL, sh, tp, Qc, mc, ms) own nm cc ret d) {x : Int32} {off : Int} {tgt : Nat} (hd : decode cc pc = .ok (.ifCond .ge off, 3)) (ht : (pc : Int) + off = (tgt : Int)) (k1 : 0 ≤ x → AW κ (δ, b, n, nL, sh, tp, Qc, mc, ms) N cells slots tgt ls st μ) (k2 : ¬ (0 ≤ x) → AW κ (δ, b, n, nL, sh, tp, Qc, mc, ms) N cells slots (pc + 3) ls st μ) : AW κ (δ, b, n, nL, sh, tp, Qc, mc, ms) N cells slots pc ls (.int x :: st) μ := by
  obtain ⟨p, l, e, R, s, m, args, below, meth, c⟩ := κ
  intro H locs lsr hP hT hS h
  exact lv_if_ge X.1 X.2.1 hd ht (fun q => k1 q H locs lsr hP hT hS h) (fun q => k2 q H locs lsr hP hT hS h)
theorem AW.icmp_ge (X : CX κ (δ, b, n, nL, sh, tp, Qc, mc, ms) own nm cc ret d) {x z : Int32} {off : Int} {tgt : Nat} (hd : decode cc pc = .ok (.if_icmp .ge off, 3)) (ht : (pc : Int) + off = (tgt : Int)) (k1 : z ≤ x → AW κ (δ, b, n, nL, sh, tp, Qc, mc, ms) N cells slots tgt ls st μ) (k2 : ¬ (z ≤ x) → AW κ (δ, b, n, nL, sh, tp, Qc, mc, ms) N cells slots (pc + 3) ls st μ) : AW κ (δ, b, n, nL, sh, tp, Qc, mc, ms) N cells slots pc ls (.int z :: .int x :: st) μ := by
  obtain ⟨p, l, e, R, s, m, args, below, meth, c⟩ := κ
  intro H locs lsr hP hT hS h
  exact lv_icmp_ge X.1 X.2.1 hd ht (fun q => k1 q H locs lsr hP hT hS h) (fun q => k2 q H locs lsr hP hT hS h)
theorem AW.if_gt (X : CX κ (δ, b, n, nL, sh, tp, Qc, mc, ms) own nm cc ret d) {x : Int32} {off : Int} {tgt : Nat} (hd : decode cc pc = .ok (.ifCond .gt off, 3)) (ht : (pc : Int) + off = (tgt : Int)) (k1 : 0 < x → AW κ (δ, b, n, nL, sh, tp, Qc, mc, ms) N cells slots tgt ls st μ) (k2 : ¬ (0 < x) → AW κ (δ, b, n, nL, sh, tp, Qc, mc, ms) N cells slots (pc + 3) ls st μ) : AW κ (δ, b, n, nL, sh, tp, Qc, mc, ms) N cells slots pc ls (.int x :: st) μ := by
  obtain ⟨p, l, e, R, s, m, args, below, meth, c⟩ := κ
  intro H locs lsr hP hT hS h
  exact lv_if_gt X.1 X.2.1 hd ht (fun q => k1 q H locs lsr hP hT hS h) (fun q => k2 q H locs lsr hP hT hS h)
theorem AW.icmp_gt (X : CX κ (δ, b, n, nL, sh, tp, Qc, mc, ms) own nm cc ret d) {x z : Int32} {off : Int} {tgt : Nat} (hd : decode cc pc = .ok (.if_icmp .gt off, 3)) (ht : (pc : Int) + off = (tgt : Int)) (k1 : z < x → AW κ (δ, b, n, nL, sh, tp, Qc, mc, ms) N cells slots tgt ls st μ) (k2 : ¬ (z < x) → AW κ (δ, b, n, nL, sh, tp, Qc, mc, ms) N cells slots (pc + 3) ls st μ) : AW κ (δ, b, n, nL, sh, tp, Qc, mc, ms) N cells slots pc ls (.int z :: .int x :: st) μ := by
  obtain ⟨p, l, e, R, s, m, args, below, meth, c⟩ := κ
  intro H locs lsr hP hT hS h
  exact lv_icmp_gt X.1 X.2.1 hd ht (fun q => k1 q H locs lsr hP hT hS h) (fun q => k2 q H locs lsr hP hT hS h)
theorem AW.if_le (X : CX κ (δ, b, n, nL, sh, tp, Qc, mc, ms) own nm cc ret d) {x : Int32} {off : Int} {tgt : Nat} (hd : decode cc pc = .ok (.ifCond .le off, 3)) (ht : (pc : Int) + off = (tgt : Int)) (k1 : x ≤ 0 → AW κ (δ, b, n, nL, sh, tp, Qc, mc, ms) N cells slots tgt ls st μ) (k2 : ¬ (x ≤ 0) → AW κ (δ, b, n, nL, sh, tp, Qc, mc, ms) N cells slots (pc + 3) ls st μ) : AW κ (δ, b, n, nL, sh, tp, Qc, mc, ms) N cells slots pc ls (.int x :: st) μ := by
  obtain ⟨p, l, e, R, s, m, args, below, meth, c⟩ := κ
  intro H locs lsr hP hT hS h
  exact lv_if_le X.1 X.2.1 hd ht (fun q => k1 q H locs lsr hP hT hS h) (fun q => k2 q H locs lsr hP hT hS h)
theorem AW.icmp_le (X : CX κ (δ, b, n, nL, sh, tp, Qc, mc, ms) own nm cc ret d) {x z : Int32} {off : Int} {tgt : Nat} (hd : decode cc pc = .ok (.if_icmp .le off, 3)) (ht : (pc : Int) + off = (tgt : Int)) (k1 : x ≤ z → AW κ (δ, b, n, nL, sh, tp, Qc, mc, ms) N cells slots tgt ls st μ) (k2 : ¬ (x ≤ z) → AW κ (δ, b, n, nL, sh, tp, Qc, mc, ms) N cells slots (pc + 3) ls st μ) : AW κ (δ, b, n, nL, sh, tp, Qc, mc, ms) N cells slots pc ls (.int z :: .int x :: st) μ := by
  obtain ⟨p, l, e, R, s, m, args, below, meth, c⟩ := κ
  intro H locs lsr hP hT hS h
  exact lv_icmp_le X.1 X.2.1 hd ht (fun q => k1 q H locs lsr hP hT hS h) (fun q => k2 q H locs lsr hP hT hS h)
theorem AW.goto (X : CX κ (δ, b, n, nL, sh, tp, Qc, mc, ms) own nm cc ret d) {off : Int} {tgt : Nat} (hd : decode cc pc = .ok (.goto off, 3)) (ht : (pc : Int) + off = (tgt : Int)) (k : AW κ (δ, b, n, nL, sh, tp, Qc, mc, ms) N cells slots tgt ls st μ) : AW κ (δ, b, n, nL, sh, tp, Qc, mc, ms) N cells slots pc ls st μ := by
  obtain ⟨p, l, e, R, s, m, args, below, meth, c⟩ := κ
  intro H locs lsr hP hT hS h
  exact lv_goto X.1 X.2.1 hd ht (k H locs lsr hP hT hS h)
theorem AW.tableOut (X : CX κ (δ, b, n, nL, sh, tp, Qc, mc, ms) own nm cc ret d) {dflt lo hi : Int} {offs : Array Int} {len : Nat} {x : Int32} {tgt : Nat} (hd : decode cc pc = .ok (.tableswitch dflt lo hi offs, len)) (hx : x.toInt < lo ∨ hi < x.toInt) (ht : (pc : Int) + dflt = (tgt : Int)) (k : AW κ (δ, b, n, nL, sh, tp, Qc, mc, ms) N cells slots tgt ls st μ) : AW κ (δ, b, n, nL, sh, tp, Qc, mc, ms) N cells slots pc ls (.int x :: st) μ := by
  obtain ⟨p, l, e, R, s, m, args, below, meth, c⟩ := κ
  intro H locs lsr hP hT hS h
  exact lv_tableOut X.1 X.2.1 hd hx ht (k H locs lsr hP hT hS h)
theorem AW.tableIn (X : CX κ (δ, b, n, nL, sh, tp, Qc, mc, ms) own nm cc ret d) {dflt lo hi : Int} {offs : Array Int} {len : Nat} {x : Int32} {off : Int} {tgt : Nat} (hd : decode cc pc = .ok (.tableswitch dflt lo hi offs, len)) (h1 : ¬ x.toInt < lo) (h2 : ¬ hi < x.toInt) (ho : offs[(x.toInt - lo).toNat]? = some off) (ht : (pc : Int) + off = (tgt : Int)) (k : AW κ (δ, b, n, nL, sh, tp, Qc, mc, ms) N cells slots tgt ls st μ) : AW κ (δ, b, n, nL, sh, tp, Qc, mc, ms) N cells slots pc ls (.int x :: st) μ := by
  obtain ⟨p, l, e, R, s, m, args, below, meth, c⟩ := κ
  intro H locs lsr hP hT hS h
  exact lv_tableIn X.1 X.2.1 hd h1 h2 ho ht (k H locs lsr hP hT hS h)
theorem AW.ldci (X : CX κ (δ, b, n, nL, sh, tp, Qc, mc, ms) own nm cc ret d) {i : Nat} {v : Int32} (hd : decode cc pc = .ok (.ldc i, 2)) (hv : Cond.constant own i v ∈ TT) (k : AW κ (δ, b, n, nL, sh, tp, Qc, mc, ms) N cells slots (pc + 2) ls (.int v :: st) μ) : AW κ (δ, b, n, nL, sh, tp, Qc, mc, ms) N cells slots pc ls st μ := by
  obtain ⟨p, l, e, R, s, m, args, below, meth, c⟩ := κ
  intro H locs lsr hP hT hS h
  exact lv_ldc X.1 X.2.1 X.2.2.2.1 (X.2.2.2.2.1 _ hv) hd (k H locs lsr hP hT hS h)
theorem AW.ldciw (X : CX κ (δ, b, n, nL, sh, tp, Qc, mc, ms) own nm cc ret d) {i : Nat} {v : Int32} (hd : decode cc pc = .ok (.ldc_w i, 3)) (hv : Cond.constant own i v ∈ TT) (k : AW κ (δ, b, n, nL, sh, tp, Qc, mc, ms) N cells slots (pc + 3) ls (.int v :: st) μ) : AW κ (δ, b, n, nL, sh, tp, Qc, mc, ms) N cells slots pc ls st μ := by
  obtain ⟨p, l, e, R, s, m, args, below, meth, c⟩ := κ
  intro H locs lsr hP hT hS h
  exact lv_ldcw X.1 X.2.1 X.2.2.2.1 (X.2.2.2.2.1 _ hv) hd (k H locs lsr hP hT hS h)
theorem AW.ldcl (X : CX κ (δ, b, n, nL, sh, tp, Qc, mc, ms) own nm cc ret d) {i : Nat} {v : Int64} (hd : decode cc pc = .ok (.ldc2_w i, 3)) (hv : Cond.constantLong own i v ∈ TT) (k : AW κ (δ, b, n, nL, sh, tp, Qc, mc, ms) N cells slots (pc + 3) ls (.long v :: st) μ) : AW κ (δ, b, n, nL, sh, tp, Qc, mc, ms) N cells slots pc ls st μ := by
  obtain ⟨p, l, e, R, s, m, args, below, meth, c⟩ := κ
  intro H locs lsr hP hT hS h
  exact lv_ldc2 X.1 X.2.1 X.2.2.2.1 (X.2.2.2.2.1 _ hv) hd (k H locs lsr hP hT hS h)
/-- a class of the worlds: its fields, as the tables have them -/
def CF (c : Nat) (C : String) (T : u_T) : Prop := vwCl[c]? = some (C, T, ncf c) ∧ (∀ w ∈ u_ws C T (ncf c), w ∈ TT) ∧ (∀ k, k < ncf c → parseFieldDescriptor (T k).2.2.1 = some (cft c k)) ∧ ∀ a, a < ncf c → ∀ b, b < ncf c → a ≠ b → (T a).2.1 ≠ (T b).2.1
def GF (own : String) (idx c k : Nat) (C : String) (T : u_T) : Prop := CF c C T ∧ k < ncf c ∧ Cond.fieldLink own idx (T k).1 (T k).2.1 (T k).2.2.1 ∈ TT
def isI (c k : Nat) : Bool := match cft c k with
  | .int => true
  | .boolean => true
  | _ => false
def isR (c k : Nat) : Bool := match cft c k with
  | .int => false
  | .boolean => false
  | .long => false
  | .byte => false
  | .short => false
  | .char => false
  | .float => false
  | .double => false
  | _ => true
theorem isI_or {c k : Nat} (h : isI c k = true) : cft c k = .int ∨ cft c k = .boolean := by
  unfold isI at h
  split at h
  · exact Or.inl ‹_›
  · exact Or.inr ‹_›
  · cases h
theorem isR_val {c k : Nat} (h : isR c k = true) (b : Nat) (μ : Mm) (o : Nat) : fval b μ o k (cft c k) = va_rf ((μ.2.2 o k).map (fun j => b + j)) := by
  unfold isR at h
  cases e : cft c k <;> simp [e] at h <;> rfl
theorem isR_fits {c k : Nat} (h : isR c k = true) (r : Option Nat) : narrow (cft c k) (va_rf r) = va_rf r ∧ fits (cft c k) (va_rf r) = true := by
  unfold isR at h
  cases e : cft c k <;> simp [e] at h <;> cases r <;> exact ⟨rfl, rfl⟩
theorem fl_get {b : Nat} {μ : Mm} {o c k : Nat} (hk : k < ncf c) : ((List.range (ncf c)).map (fun k => fval b μ o k (cft c k)))[k]? = some (fval b μ o k (cft c k)) := by
  rw [List.getElem?_map, List.getElem?_range hk]
  rfl
theorem AW.getI (X : CX κ (δ, b, n, nL, sh, tp, Qc, mc, ms) own nm cc ret d) {idx c k0 o : Nat} {C : String} {T : u_T} (hd : decode cc pc = .ok (.getfield idx, 3)) (g : GF own idx c k0 C T) (ht : isI c k0 = true) (ho : OB sh N o c) (k : AW κ (δ, b, n, nL, sh, tp, Qc, mc, ms) N cells slots (pc + 3) ls (.int (μ.1 o k0) :: st) μ) : AW κ (δ, b, n, nL, sh, tp, Qc, mc, ms) N cells slots pc ls (.ref (b + o) :: st) μ := by
  obtain ⟨p, l, e, R, s, m, args, below, meth, c⟩ := κ
  intro H locs lsr hP hT hS h
  obtain ⟨⟨g1, g2, g3, g4⟩, g5, g6⟩ := g
  refine va_get X.1 X.2.1 X.2.2.2.2.1 g2 X.2.2.2.1 X.2.2.2.2.2.2.2.2.1.1 hP o (ob_get ho) g1 k0 g5 (X.2.2.2.2.1 _ g6) (fun x hx => hx) (v := .int (μ.1 o k0)) ?_ hd (k H locs lsr hP hT hS h)
  rw [fl_get g5]
  rcases isI_or ht with e | e <;> rw [e] <;> rfl
theorem AW.getR (X : CX κ (δ, b, n, nL, sh, tp, Qc, mc, ms) own nm cc ret d) {idx c k0 o r : Nat} {C : String} {T : u_T} (hd : decode cc pc = .ok (.getfield idx, 3)) (g : GF own idx c k0 C T) (ht : isR c k0 = true) (ho : OB sh N o c) (hr : μ.2.2 o k0 = some r) (k : AW κ (δ, b, n, nL, sh, tp, Qc, mc, ms) N cells slots (pc + 3) ls (.ref (b + r) :: st) μ) : AW κ (δ, b, n, nL, sh, tp, Qc, mc, ms) N cells slots pc ls (.ref (b + o) :: st) μ := by
  obtain ⟨p, l, e, R, s, m, args, below, meth, c⟩ := κ
  intro H locs lsr hP hT hS h
  obtain ⟨⟨g1, g2, g3, g4⟩, g5, g6⟩ := g
  refine va_get X.1 X.2.1 X.2.2.2.2.1 g2 X.2.2.2.1 X.2.2.2.2.2.2.2.2.1.1 hP o (ob_get ho) g1 k0 g5 (X.2.2.2.2.1 _ g6) (fun x hx => hx) (v := .ref (b + r)) ?_ hd (k H locs lsr hP hT hS h)
  rw [fl_get g5, isR_val ht, hr]
  rfl
theorem put_fits {δ : Dl} {s : State} {args : Array Value} (hts : ∀ w ∈ TT, w.before args s = true) (hK : KX δ s) {c k0 : Nat} {C : String} {T : u_T} (g : CF c C T) (g5 : k0 < ncf c) {b : Nat} {sh : Sh} {N o : Nat} {μ : Mm} {H : Heap} (hP : va_P δ.1 vwCl (wl δ b sh N μ) H) (ho : OB sh N o c) :
    ∃ (cf : ClassId) (kf : Class) (fi : Nat) (f : Field) (cell : Cell) (kC : Class), s.fieldFound? (T k0).1 (T k0).2.1 (T k0).2.2.1 = some (cf, kf, fi, f) ∧ f.isStatic = false ∧ s.vm.findClass C = some (δ.1.1 c) ∧ s.vm.classes[δ.1.1 c]? = some kC ∧ kC.kind = .ordinary ∧ H[b + o]? = some cell ∧ cell.cls = δ.1.1 c ∧ cell.vm = .none ∧ f.slot < cell.slots.size ∧
      ∀ (v : Value) (H1 : Heap), H1[b + o]? = some (cell.setSlot f.slot v) → va_at δ.1 vwCl (b + o, .inr (c, ((List.range (ncf c)).map (fun k => fval b μ o k (cft c k))).set k0 v)) H1 := by
  obtain ⟨g1, g2, g3, g4⟩ := g
  have hap := va_apart (own := C) hts g2 (cft c) g3 g4 hK.1 g1
  obtain ⟨r, h1, cell, q1, q2, q3, q4⟩ := hP o _ (ob_get ho)
  have hr : r = (C, T, ncf c) := Option.some.inj (h1.symm.trans g1)
  subst hr
  obtain ⟨hS, hfc, kC, hkC, hkind⟩ := hK.1.1 c _ g1
  obtain ⟨cf, kf, fi, f, hi, hsl⟩ := hS k0 g5
  refine ⟨cf, kf, fi, f, cell, kC, hi, (u_facts hfc hkC (u_lays hts g2 g5) hi).1, hfc, hkC, hkind, q1, q2, q3, by rw [hsl]; exact k2_hasslot (q4 k0 g5), fun v H1 e1 => ?_⟩
  rw [hsl] at e1
  exact ⟨_, g1, t_OB.to (V := updV (vp_V ((List.range (ncf c)).map (fun k => fval b μ o k (cft c k)))) k0 v) ⟨_, e1, q2, q3, t_set q4 hap g5 v⟩ (fun j _ => vp_updV_set (by rw [List.length_map, List.length_range]; exact g5) v j)⟩
theorem AW.putG (X : CX κ (δ, b, n, nL, sh, tp, Qc, mc, ms) own nm cc ret d) {idx ci k0 o : Nat} {C : String} {T : u_T} {v : Value} {μ2 : Mm} (hd : decode cc pc = .ok (.putfield idx, 3)) (g : GF own idx ci k0 C T) (hfin : (T k0).2.2.2 = false) (hf : narrow (cft ci k0) v = v ∧ fits (cft ci k0) v = true) (hset : (wl δ b sh N μ).set o (b + o, .inr (ci, ((List.range (ncf ci)).map (fun k => fval b μ o k (cft ci k))).set k0 v)) = wl δ b sh N μ2) (hn : N ≤ n) (ho : OB sh N o ci) (k : AW κ (δ, b, n, nL, sh, tp, Qc, mc, ms) N cells slots (pc + 3) ls st μ2) : AW κ (δ, b, n, nL, sh, tp, Qc, mc, ms) N cells slots pc ls (v :: .ref (b + o) :: st) μ := by
  obtain ⟨p, l, e, R, s, m, args, below, meth, c⟩ := κ
  intro H locs lsr hP hT hS h
  obtain ⟨g0, g5, g6⟩ := g
  have hts := X.2.2.2.2.1
  obtain ⟨cf, kf, fi, f, cell, kC, hi, hst, hfc, hkC, hkind, q1, q2, q3, hlt, hat⟩ := put_fits hts X.2.2.2.2.2.2.2.2.1 g0 g5 hP ho
  have hlay := hts _ (g0.2.1 _ (u_in_lay g5))
  unfold u_lay at hlay
  rw [if_neg (by rw [hfin]; decide)] at hlay
  have h6 := u_store hfc hkC hkind hlay hi (g0.2.2.1 k0 g5) hf.1 hf.2
  refine W.putK X.1 X.2.1 (f := f) ⟨X.2.2.2.1, hts _ g6, ⟨_, _, _, hi⟩, hst⟩ (by rw [q2]; exact h6) q1 q3 hlt rfl rfl hd fun H1 e1 e2 e3 => ?_
  have hD := wl_D (δ := δ) (b := b) (sh := sh) (μ := μ) hn
  have hP1 := hP.set hD (ob_get ho) (hat v H1 e1) e3
  rw [hset] at hP1
  exact k H1 _ lsr hP1 (fun q => e2.trans (hT q)) (hS.put e2 e3 (hD.2 o _ (ob_get ho))) h
theorem AW.putGF (X : CX κ (δ, b, n, nL, sh, tp, Qc, mc, ms) own nm cc ret d) {idx ci k0 o : Nat} {C : String} {T : u_T} {v : Value} {μ2 : Mm} (hd : decode cc pc = .ok (.putfield idx, 3)) (g : GF own idx ci k0 C T) (hfin : (T k0).2.2.2 = true) (hdecl : (T k0).1 = own) (hnm : nm = "<init>") (hf : narrow (cft ci k0) v = v ∧ fits (cft ci k0) v = true) (hset : (wl δ b sh N μ).set o (b + o, .inr (ci, ((List.range (ncf ci)).map (fun k => fval b μ o k (cft ci k))).set k0 v)) = wl δ b sh N μ2) (hn : N ≤ n) (ho : OB sh N o ci) (k : AW κ (δ, b, n, nL, sh, tp, Qc, mc, ms) N cells slots (pc + 3) ls st μ2) : AW κ (δ, b, n, nL, sh, tp, Qc, mc, ms) N cells slots pc ls (v :: .ref (b + o) :: st) μ := by
  obtain ⟨p, l, e, R, s, m, args, below, meth, c⟩ := κ
  intro H locs lsr hP hT hS h
  obtain ⟨g0, g5, g6⟩ := g
  have hts := X.2.2.2.2.1
  obtain ⟨cf, kf, fi, f, cell, kC, hi, hst, hfc, hkC, hkind, q1, q2, q3, hlt, hat⟩ := put_fits hts X.2.2.2.2.2.2.2.2.1 g0 g5 hP ho
  have hlay := hts _ (g0.2.1 _ (u_in_lay g5))
  unfold u_lay at hlay
  rw [if_pos hfin] at hlay
  have hcf : m.cls = cf := by
    obtain ⟨_, _, c', _, _, _, -, -, hf', -, -, -, hown2, -⟩ := Cond.laysFinal_spec hlay
    have e1 : c' = cf := by have := hi.symm.trans hf'; simp at this; exact this.1.symm
    rw [hdecl] at hown2
    rw [← e1]; exact Option.some.inj (X.2.2.2.1.symm.trans hown2)
  have h6 := u_fits hfc hkC hkind (Or.inr hlay) hi (g0.2.2.1 k0 g5) hf.1 hf.2
  refine W.putFinK X.1 X.2.1 X.2.2.2.1 (hts _ g6) hi hst hcf (X.2.2.2.2.2.2.2.1.trans hnm) (by rw [q2]; exact h6) q1 q3 hlt rfl rfl hd fun H1 e1 e2 e3 => ?_
  have hD := wl_D (δ := δ) (b := b) (sh := sh) (μ := μ) hn
  have hP1 := hP.set hD (ob_get ho) (hat v H1 e1) e3
  rw [hset] at hP1
  exact k H1 _ lsr hP1 (fun q => e2.trans (hT q)) (hS.put e2 e3 (hD.2 o _ (ob_get ho))) h
theorem AW.putI (X : CX κ (δ, b, n, nL, sh, tp, Qc, mc, ms) own nm cc ret d) {idx ci k0 o : Nat} {C : String} {T : u_T} {v : Int32} (hd : decode cc pc = .ok (.putfield idx, 3)) (g : GF own idx ci k0 C T) (ht : isI ci k0 = true) (hfin : (T k0).2.2.2 = false) (hf : narrow (cft ci k0) (.int v) = .int v ∧ fits (cft ci k0) (.int v) = true) (hn : N ≤ n) (ho : OB sh N o ci) (k : AW κ (δ, b, n, nL, sh, tp, Qc, mc, ms) N cells slots (pc + 3) ls st (wI μ o k0 v)) : AW κ (δ, b, n, nL, sh, tp, Qc, mc, ms) N cells slots pc ls (.int v :: .ref (b + o) :: st) μ :=
  AW.putG X hd g hfin hf (ob_setI ho g.2.1 (isI_or ht)) hn ho k
theorem AW.putR (X : CX κ (δ, b, n, nL, sh, tp, Qc, mc, ms) own nm cc ret d) {idx ci k0 o r : Nat} {C : String} {T : u_T} (hd : decode cc pc = .ok (.putfield idx, 3)) (g : GF own idx ci k0 C T) (ht : isR ci k0 = true) (hfin : (T k0).2.2.2 = false) (hn : N ≤ n) (ho : OB sh N o ci) (k : AW κ (δ, b, n, nL, sh, tp, Qc, mc, ms) N cells slots (pc + 3) ls st (wR μ o k0 (some r))) : AW κ (δ, b, n, nL, sh, tp, Qc, mc, ms) N cells slots pc ls (.ref (b + r) :: .ref (b + o) :: st) μ :=
  AW.putG (v := .ref (b + r)) X hd g hfin (isR_fits ht (some (b + r))) (ob_setR (v := some r) ho g.2.1 (isR_val ht)) hn ho k
theorem AW.putIF (X : CX κ (δ, b, n, nL, sh, tp, Qc, mc, ms) own nm cc ret d) {idx ci k0 o : Nat} {C : String} {T : u_T} {v : Int32} (hd : decode cc pc = .ok (.putfield idx, 3)) (g : GF own idx ci k0 C T) (ht : isI ci k0 = true) (hfin : (T k0).2.2.2 = true) (hdecl : (T k0).1 = own) (hnm : nm = "<init>") (hf : narrow (cft ci k0) (.int v) = .int v ∧ fits (cft ci k0) (.int v) = true) (hn : N ≤ n) (ho : OB sh N o ci) (k : AW κ (δ, b, n, nL, sh, tp, Qc, mc, ms) N cells slots (pc + 3) ls st (wI μ o k0 v)) : AW κ (δ, b, n, nL, sh, tp, Qc, mc, ms) N cells slots pc ls (.int v :: .ref (b + o) :: st) μ :=
  AW.putGF X hd g hfin hdecl hnm hf (ob_setI ho g.2.1 (isI_or ht)) hn ho k
theorem AW.putRF (X : CX κ (δ, b, n, nL, sh, tp, Qc, mc, ms) own nm cc ret d) {idx ci k0 o r : Nat} {C : String} {T : u_T} (hd : decode cc pc = .ok (.putfield idx, 3)) (g : GF own idx ci k0 C T) (ht : isR ci k0 = true) (hfin : (T k0).2.2.2 = true) (hdecl : (T k0).1 = own) (hnm : nm = "<init>") (hn : N ≤ n) (ho : OB sh N o ci) (k : AW κ (δ, b, n, nL, sh, tp, Qc, mc, ms) N cells slots (pc + 3) ls st (wR μ o k0 (some r))) : AW κ (δ, b, n, nL, sh, tp, Qc, mc, ms) N cells slots pc ls (.ref (b + r) :: .ref (b + o) :: st) μ :=
  AW.putGF (v := .ref (b + r)) X hd g hfin hdecl hnm (isR_fits ht (some (b + r))) (ob_setR (v := some r) ho g.2.1 (isR_val ht)) hn ho k
theorem storeI (cA : ClassId) (a9 : Nat) (f : Nat → Int32) (k : Nat) (v : Int32) : (vp_cell cA (a9, .inl f)).setSlot k (.int v) = vp_cell cA (a9, .inl (upd f k v)) := by
  rw [vp_cell_i, vp_cell_i, arrV_store]
  congr 1
  funext j
  simp only [updV, upd]
  split <;> rfl
theorem storeL (cA : ClassId) (a9 : Nat) (f : Nat → Int64) (k : Nat) (v : Int64) : (vp_cell cA (a9, .inr (.inl f))).setSlot k (.long v) = vp_cell cA (a9, .inr (.inl (vp_updL f k v))) := by
  rw [vp_cell_l, vp_cell_l, arrV_store]
  congr 1
  funext j
  simp only [updV, vp_updL]
  split <;> rfl
theorem AW.iaload (X : CX κ (δ, b, n, nL, sh, tp, Qc, mc, ms) own nm cc ret d) {o a9 : Nat} {i : Int32} (hd : decode cc pc = .ok (.iaload, 1)) (ho : AR sh N o 0 a9) (hi : vp_in i a9) (k : AW κ (δ, b, n, nL, sh, tp, Qc, mc, ms) N cells slots (pc + 1) ls (.int (μ.1 o i.toNatClampNeg) :: st) μ) : AW κ (δ, b, n, nL, sh, tp, Qc, mc, ms) N cells slots pc ls (.int i :: .ref (b + o) :: st) μ := by
  obtain ⟨p, l, e, R, s, m, args, below, meth, c⟩ := κ
  intro H locs lsr hP hT hS h
  exact va_iald X.1 X.2.1 X.2.2.2.2.2.2.2.2.1.1 hP o 0 (ar_getI ho) rfl hi hd (k H locs lsr hP hT hS h)
theorem AW.laload (X : CX κ (δ, b, n, nL, sh, tp, Qc, mc, ms) own nm cc ret d) {o a9 : Nat} {i : Int32} (hd : decode cc pc = .ok (.laload, 1)) (ho : AR sh N o 1 a9) (hi : vp_in i a9) (k : AW κ (δ, b, n, nL, sh, tp, Qc, mc, ms) N cells slots (pc + 1) ls (.long (μ.2.1 o i.toNatClampNeg) :: st) μ) : AW κ (δ, b, n, nL, sh, tp, Qc, mc, ms) N cells slots pc ls (.int i :: .ref (b + o) :: st) μ := by
  obtain ⟨p, l, e, R, s, m, args, below, meth, c⟩ := κ
  intro H locs lsr hP hT hS h
  exact va_lald X.1 X.2.1 X.2.2.2.2.2.2.2.2.1.1 hP o 1 (ar_getL ho) rfl hi hd (k H locs lsr hP hT hS h)
theorem AW.aaload (X : CX κ (δ, b, n, nL, sh, tp, Qc, mc, ms) own nm cc ret d) {o t9 a9 r : Nat} {i : Int32} {ty : FieldType} (hd : decode cc pc = .ok (.aaload, 1)) (ht : (tys δ)[t9 + 2]? = some (δ.2.1 (t9 + 2), ty)) (hty : ty.isReference = true) (ho : AR sh N o (t9 + 2) a9) (hi : vp_in i a9) (hr : μ.2.2 o i.toNatClampNeg = some r) (k : AW κ (δ, b, n, nL, sh, tp, Qc, mc, ms) N cells slots (pc + 1) ls (.ref (b + r) :: st) μ) : AW κ (δ, b, n, nL, sh, tp, Qc, mc, ms) N cells slots pc ls (.int i :: .ref (b + o) :: st) μ := by
  obtain ⟨p, l, e, R, s, m, args, below, meth, c⟩ := κ
  intro H locs lsr hP hT hS h
  have hlt : i.toNatClampNeg < a9 := Nat.not_le.mp fun q => hi (Or.inr q)
  refine W.aald (v := .ref (b + r)) X.1 X.2.1 (hP o _ (ar_getR ho)) ((X.2.2.2.2.2.2.2.2.1.1.2 _ _ ht).1 a9 (fun j => va_rf ((μ.2.2 o j).map (fun i => b + i)))) hty (fun q => by cases q) (by show ¬ (i < 0 ∨ (arrV _ _ _).slots.size ≤ _); rw [arrV_size]; exact hi) ?_ rfl rfl hd (k H locs lsr hP hT hS h)
  show (arrV _ _ _).slots[_]? = _
  rw [arrV_read _ _ hlt]
  show some (va_rf ((μ.2.2 o i.toNatClampNeg).map (fun i => b + i))) = _
  rw [hr]
  rfl
theorem AW.iastore (X : CX κ (δ, b, n, nL, sh, tp, Qc, mc, ms) own nm cc ret d) {o a9 : Nat} {i : Int32} {v : Int32} (hd : decode cc pc = .ok (.iastore, 1)) (hn : N ≤ n) (ho : AR sh N o 0 a9) (hi : vp_in i a9) (k : AW κ (δ, b, n, nL, sh, tp, Qc, mc, ms) N cells slots (pc + 1) ls st (wI μ o i.toNatClampNeg v)) : AW κ (δ, b, n, nL, sh, tp, Qc, mc, ms) N cells slots pc ls (.int v :: .int i :: .ref (b + o) :: st) μ := by
  obtain ⟨p, l, e, R, s, m, args, below, meth, c⟩ := κ
  intro H locs lsr hP hT hS h
  refine W.iast X.1 X.2.1 (hP o _ (ar_getI ho)) ((X.2.2.2.2.2.2.2.2.1.1.2 0 _ rfl).1 a9 _) (fun q => by cases q) (by show ¬ (i < 0 ∨ (arrV _ _ _).slots.size ≤ _); rw [arrV_size]; exact hi) rfl rfl hd fun H1 e z oq => ?_
  have hD := wl_D (δ := δ) (b := b) (sh := sh) (μ := μ) hn
  have hP1 := hP.set hD (ar_getI ho) (e := .inl (δ.2.1 0, a9, .inl (upd (μ.1 o) i.toNatClampNeg v))) (by show H1[b + o]? = some (vp_cell _ _); rw [e]; exact congrArg some (storeI _ _ _ _ _)) oq
  exact k H1 _ lsr (by rw [ar_setI ho] at hP1; exact hP1) (fun q => z.trans (hT q)) (hS.put z oq (hD.2 o _ (ar_getI ho))) h
theorem AW.lastore (X : CX κ (δ, b, n, nL, sh, tp, Qc, mc, ms) own nm cc ret d) {o a9 : Nat} {i : Int32} {v : Int64} (hd : decode cc pc = .ok (.lastore, 1)) (hn : N ≤ n) (ho : AR sh N o 1 a9) (hi : vp_in i a9) (k : AW κ (δ, b, n, nL, sh, tp, Qc, mc, ms) N cells slots (pc + 1) ls st (wL μ o i.toNatClampNeg v)) : AW κ (δ, b, n, nL, sh, tp, Qc, mc, ms) N cells slots pc ls (.long v :: .int i :: .ref (b + o) :: st) μ := by
  obtain ⟨p, l, e, R, s, m, args, below, meth, c⟩ := κ
  intro H locs lsr hP hT hS h
  refine W.last X.1 X.2.1 (hP o _ (ar_getL ho)) ((X.2.2.2.2.2.2.2.2.1.1.2 1 _ rfl).1 a9 _) (fun q => by cases q) (by show ¬ (i < 0 ∨ (arrV _ _ _).slots.size ≤ _); rw [arrV_size]; exact hi) rfl rfl hd fun H1 e z oq => ?_
  have hD := wl_D (δ := δ) (b := b) (sh := sh) (μ := μ) hn
  have hP1 := hP.set hD (ar_getL ho) (e := .inl (δ.2.1 1, a9, .inr (.inl (vp_updL (μ.2.1 o) i.toNatClampNeg v)))) (by show H1[b + o]? = some (vp_cell _ _); rw [e]; exact congrArg some (storeL _ _ _ _ _)) oq
  exact k H1 _ lsr (by rw [ar_setL ho] at hP1; exact hP1) (fun q => z.trans (hT q)) (hS.put z oq (hD.2 o _ (ar_getL ho))) h
theorem AW.alen (X : CX κ (δ, b, n, nL, sh, tp, Qc, mc, ms) own nm cc ret d) {o t9 a9 : Nat} {ty : FieldType} (hd : decode cc pc = .ok (.arraylength, 1)) (ht : (tys δ)[t9]? = some (δ.2.1 t9, ty)) (ho : AR sh N o t9 a9) (k : AW κ (δ, b, n, nL, sh, tp, Qc, mc, ms) N cells slots (pc + 1) ls (.int (nI a9) :: st) μ) : AW κ (δ, b, n, nL, sh, tp, Qc, mc, ms) N cells slots pc ls (.ref (b + o) :: st) μ := by
  obtain ⟨p, l, e, R, s, m, args, below, meth, c⟩ := κ
  intro H locs lsr hP hT hS h
  have key : ∃ z : Nat → Value, va_at δ.1 vwCl (b + o, ent δ b sh μ o) H → H[b + o]? = some (arrV (δ.2.1 t9) a9 z) := by
    unfold ent
    rw [ho.2]
    match t9 with
    | 0 => exact ⟨fun j => .int (μ.1 o j), fun q => q⟩
    | 1 => exact ⟨fun j => .long (μ.2.1 o j), fun q => q⟩
    | t + 2 => exact ⟨fun j => va_rf ((μ.2.2 o j).map (fun i => b + i)), fun q => q⟩
  obtain ⟨z, hz⟩ := key
  refine W.alen X.1 X.2.1 (hz (hP o _ (wl_get ho.1))) ((X.2.2.2.2.2.2.2.2.1.1.2 _ _ ht).1 a9 z) ?_ rfl rfl hd (k H locs lsr hP hT hS h)
  rw [arrV_size]
  rfl
theorem AW.iret (X : CX κ (δ, b, n, nL, sh, tp, Qc, mc, ms) own nm cc (some .int) d) {post : Option Value → Mm → Prop} {v : Int32} (hQ : Qc = MQc δ b n sh N tp post) (hd : decode cc pc = .ok (.ireturn, 1)) (hp : post (some (.int v)) μ) : AW κ (δ, b, n, nL, sh, tp, Qc, mc, ms) N mc ms pc ls [.int v] μ := by
  obtain ⟨p, l, e, R, s, m, args, below, meth, c⟩ := κ
  intro H locs lsr hP hT hS h
  subst hQ
  exact W.iret X.1 X.2.1 X.2.2.2.2.2.2.1 (fun t ht hW => ⟨⟨_, μ, rfl, hp, by rw [ht]; exact hP, fun q => by rw [ht]; exact hT q⟩, hS.F ht⟩) hS.2.2 hd X.2.2.2.2.2.1
theorem AW.zret {ty : FieldType} (X : CX κ (δ, b, n, nL, sh, tp, Qc, mc, ms) own nm cc (some ty) d) {post : Option Value → Mm → Prop} {v : Int32} (hv : narrow ty (.int v) = .int v) (hQ : Qc = MQc δ b n sh N tp post) (hd : decode cc pc = .ok (.ireturn, 1)) (hp : post (some (.int v)) μ) : AW κ (δ, b, n, nL, sh, tp, Qc, mc, ms) N mc ms pc ls [.int v] μ := by
  obtain ⟨p, l, e, R, s, m, args, below, meth, c⟩ := κ
  intro H locs lsr hP hT hS h
  subst hQ
  exact W.zret X.1 X.2.1 X.2.2.2.2.2.2.1 hv (fun t ht hW => ⟨⟨_, μ, rfl, hp, by rw [ht]; exact hP, fun q => by rw [ht]; exact hT q⟩, hS.F ht⟩) hS.2.2 hd X.2.2.2.2.2.1
theorem AW.lret (X : CX κ (δ, b, n, nL, sh, tp, Qc, mc, ms) own nm cc (some .long) d) {post : Option Value → Mm → Prop} {v : Int64} (hQ : Qc = MQc δ b n sh N tp post) (hd : decode cc pc = .ok (.lreturn, 1)) (hp : post (some (.long v)) μ) : AW κ (δ, b, n, nL, sh, tp, Qc, mc, ms) N mc ms pc ls [.long v] μ := by
  obtain ⟨p, l, e, R, s, m, args, below, meth, c⟩ := κ
  intro H locs lsr hP hT hS h
  subst hQ
  exact W.lret X.1 X.2.1 X.2.2.2.2.2.2.1 (fun t ht hW => ⟨⟨_, μ, rfl, hp, by rw [ht]; exact hP, fun q => by rw [ht]; exact hT q⟩, hS.F ht⟩) hS.2.2 hd X.2.2.2.2.2.1
theorem AW.vret (X : CX κ (δ, b, n, nL, sh, tp, Qc, mc, ms) own nm cc (none) d) {post : Option Value → Mm → Prop} (hQ : Qc = MQc δ b n sh N tp post) (hd : decode cc pc = .ok (.return_, 1)) (hp : post (none) μ) : AW κ (δ, b, n, nL, sh, tp, Qc, mc, ms) N mc ms pc ls [] μ := by
  obtain ⟨p, l, e, R, s, m, args, below, meth, c⟩ := κ
  intro H locs lsr hP hT hS h
  subst hQ
  exact W.vret X.1 X.2.1 X.2.2.2.2.2.2.1 (fun t ht hW => ⟨⟨_, μ, rfl, hp, by rw [ht]; exact hP, fun q => by rw [ht]; exact hT q⟩, hS.F ht⟩) hS.2.2 hd X.2.2.2.2.2.1
theorem AW.aret {C : String} (X : CX κ (δ, b, n, nL, sh, tp, Qc, mc, ms) own nm cc (some (.object C)) d) {post : Option Value → Mm → Prop} {v : Nat} (hQ : Qc = MQc δ b n sh N tp post) (hd : decode cc pc = .ok (.areturn, 1)) (hp : post (some (.ref v)) μ) : AW κ (δ, b, n, nL, sh, tp, Qc, mc, ms) N mc ms pc ls [.ref v] μ := by
  obtain ⟨p, l, e, R, s, m, args, below, meth, c⟩ := κ
  intro H locs lsr hP hT hS h
  subst hQ
  exact W.aret X.1 X.2.1 X.2.2.2.2.2.2.1 (Or.inl ⟨C, rfl⟩) (Or.inr ⟨v, rfl⟩) (fun t ht hW => ⟨⟨_, μ, rfl, hp, by rw [ht]; exact hP, fun q => by rw [ht]; exact hT q⟩, hS.F ht⟩) hS.2.2 hd X.2.2.2.2.2.1
end ROWS
end
section
theorem la_len : ∀ vs : List Value, (lg_sl vs).length = (la vs).length
  | [] => rfl
  | v :: r => by
    have ih := la_len r
    unfold lg_sl at ih ⊢
    rw [List.flatMap_cons, List.length_append, ih, la]
    split
    · simp only [List.length_cons, List.length_nil]; omega
    · simp only [List.length_cons, List.length_nil]; omega
theorem KS.at {δ : Dl} {b n : Nat} {s U : State} {H : Heap} {locs : List Loc} (h : KS δ (RG b n) s s.heap) (hS : va_S (RG b n) s.heap H locs) (hU : U.heap = H) (hW : s.WarmedH U.vm) : KS δ (RG b n) U U.heap := by
  rw [hU]
  exact vk_S.moved hW.alike (vk_S.kept h hS.2.1)
theorem MC.intro {l : Launch} {δ : Dl} {b n : Nat} {sh : Sh} {tp : Prop} {y : MethodName} {bytes : ByteArray} {nL : Nat} {ret : Option FieldType} {d mc ms N N' : Nat} {av : List Value} {μ : Mm} {post : Option Value → Mm → Prop} (ls : List (Option Value)) (hy : plainName y.cls = true) (hls : la av ++ List.replicate (nL - (la av).length) none = ls) (hlen : Nat.ble (la av).length nL = true)
    (body : ∀ (κ : Kt) (Qc : Array Value → State → Outcome → State → Prop), κ.2.1 = l → Qc = MQc δ b n sh N' tp post → CX κ (δ, b, n, nL, sh, tp, Qc, mc, ms) y.cls y.name bytes ret d → AW κ (δ, b, n, nL, sh, tp, Qc, mc, ms) N 0 0 0 ls [] μ) : MC l δ b n sh tp y bytes nL ret d mc ms N N' av μ post := by
  refine Met.ofW (cc := bytes) (maxL := nL) (ret := ret) hy rfl ?_
  intro p e s m args below meth c s₁ B hml hv
  obtain ⟨rfl, hP, hT, hK, hS⟩ := hv
  have hw := body (p, l, e, rmD d mc ms, s, m, av.toArray, below, meth, c) _ rfl rfl ⟨B.exec, B.bytes, hml, findClass_of_methodNamed B.named, fun w hw => atoms_spec (ws := Cond.code y bytes nL ret :: TT) B.pre w (List.mem_cons_of_mem _ hw), B.notSynchronized, B.returns, (name_of_methodNamed B.named B.method).1, hK, hS, rfl⟩
  rw [lg_entry_eq]
  refine hw s.heap [] _ hP hT va_S.rf ?_
  have he := lv_entry av (n := nL) (by rw [la_len]; exact Nat.le_of_ble_eq_true hlen)
  refine lh_sub he fun i v hi => ?_
  rw [← hls] at hi
  have := la_args av 0 i _ v hi
  simpa using this
section CALLS
variable {κ : Kt} {δ : Dl} {b n nL : Nat} {sh : Sh} {tp : Prop} {Qc : Array Value → State → Outcome → State → Prop} {mc ms d : Nat} {own nm : String} {cc : ByteArray} {ret : Option FieldType} {N cells slots pc : Nat} {ls : List (Option Value)} {st st0 : List Value} {μ : Mm}
variable {idx : Nat} {y' : MethodName} {bytes : ByteArray} {maxL : Nat} {ret' : Option FieldType} {d' mc' ms' N2 k0 : Nat} {av : List Value} {post : Option Value → Mm → Prop}
theorem run_core {p : Program} {l : Launch} {e : Env} {R : Room} {s : State} {m : MethodId} {args : Array Value} {below : List Frame} {meth : Method} {c : Code} {H : Heap} {locs : List Loc} {lsr : Array Slot} {Q : State → Prop} {a : Array Value}
    (hr : va_Run p l e R s m args below meth c H locs cells slots mc' ms' (F0 m pc lsr st0) st (MQc δ b n sh N2 tp post a) (RG b n)) (hS : va_S (RG b n) s.heap H locs)
    (kk : ∀ (v : Option Value) (μ' : Mm) (H1 : Heap) (locs1 : List Loc), post v μ' → va_P δ.1 vwCl (wl δ b sh N2 μ') H1 → (tp → H1.size = b + N2) → va_S (RG b n) s.heap H1 locs1 → W p l e R s m args below meth c H1 locs1 (cells + mc') (slots + ms') Q (F0 m (pc + 3) lsr (v.toList ++ st))) : W p l e R s m args below meth c H locs cells slots Q (F0 m pc lsr st0) := by
  intro T hT X
  obtain ⟨v, st₀, t, T', L, h0, X', hL, e1, e2, ⟨⟨v', μ', hv, hp, hb, hz0⟩, hz, hk⟩, step⟩ := hr T hT X
  cases hv
  rw [h0] at hz hk
  rw [← e1] at hz hk hb hz0
  obtain ⟨t2, a1, b1⟩ := kk v μ' T'.heap (locs ++ L) hp hb hz0 ⟨Nat.le_trans hS.1 hz, fun q h1 h2 => (hk q (Nat.lt_of_lt_of_le h1 hS.1) h2).trans (hS.2.1 q h1 h2), fun q hq => by
    rcases List.mem_append.mp hq with h | h
    · exact hS.2.2 q h
    · exact hL q h⟩ T' rfl X'
  exact ⟨t2, step t2 a1, b1⟩
theorem pc_blind (av : List Value) (μ : Mm) (tp : Prop) (N : Nat) : FrameBlind (va_Pc av (fun U => va_P δ.1 vwCl (wl δ b sh N μ) U.heap ∧ (tp → U.heap.size = b + N) ∧ KX δ U ∧ KS δ (RG b n) U U.heap)) := fun a U g mk q => ⟨q.1, q.2.1, q.2.2.1, KX.same (u := U) (U := U.calling g mk a) rfl q.2.2.2.1, vk_S.moved (u := U) (U := U.calling g mk a) (Vm.Alike.refl U.vm) q.2.2.2.2⟩
/-- what a call asks of the tables: by invokevirtual on an object of C, of a method of C -/
def LV (own : String) (idx : Nat) (C : String) (y' : MethodName) (bytes : ByteArray) (maxL : Nat) (ret' : Option FieldType) (k0 : Nat) : Prop :=
  Cond.methodLink own idx y' ∈ TT ∧ Cond.instanceMethod y' ∈ TT ∧ Cond.selects C y' y' ∈ TT ∧ Cond.initialized C ∈ TT ∧ Cond.code y' bytes maxL ret' ∈ TT ∧ maxL ≤ 45 ∧ (y'.cls = C ∧ y'.cls ≠ "java/lang/invoke/MethodHandle" ∧ y'.cls ≠ "java/lang/invoke/VarHandle" ∧ (parseMethodDescriptor y'.desc).map (fun d => d.parameters.length) = some k0)
/-- invokestatic -/
def LSt (own : String) (idx : Nat) (y' : MethodName) (bytes : ByteArray) (maxL : Nat) (ret' : Option FieldType) (k0 : Nat) : Prop :=
  Cond.methodLink own idx y' ∈ TT ∧ Cond.static y' ∈ TT ∧ Cond.initialized y'.cls ∈ TT ∧ Cond.code y' bytes maxL ret' ∈ TT ∧ maxL ≤ 45 ∧ (y'.cls ≠ "java/lang/invoke/MethodHandle" ∧ y'.cls ≠ "java/lang/invoke/VarHandle" ∧ (parseMethodDescriptor y'.desc).map (fun d => d.parameters.length) = some k0)
/-- invokestatic of a nest mate's private method -/
def LSN (own : String) (idx : Nat) (y' : MethodName) (host : String) (bytes : ByteArray) (maxL : Nat) (ret' : Option FieldType) (k0 : Nat) : Prop :=
  Cond.methodLinkNest own idx y' host ∈ NW ∧ Cond.static y' ∈ TT ∧ Cond.initialized y'.cls ∈ TT ∧ Cond.code y' bytes maxL ret' ∈ TT ∧ maxL ≤ 45 ∧ (y'.cls ≠ "java/lang/invoke/MethodHandle" ∧ y'.cls ≠ "java/lang/invoke/VarHandle" ∧ (parseMethodDescriptor y'.desc).map (fun d => d.parameters.length) = some k0)
/-- invokevirtual of x on an object of C that inherits or overrides it: y' runs -/
def LU (own : String) (idx : Nat) (C owner : String) (x y' : MethodName) (bytes : ByteArray) (maxL : Nat) (ret' : Option FieldType) (k0 : Nat) : Prop :=
  (Cond.methodLink own idx x ∈ TT ∧ Cond.sameMethod x.cls owner x.name x.desc ∈ TT ∧ Cond.selects C x y' ∈ TT ∧ Cond.instanceMethod y' ∈ TT ∧ Cond.initialized y'.cls ∈ TT ∧ Cond.code y' bytes maxL ret' ∈ TT ∧ maxL ≤ 45) ∧ (y' = ⟨owner, x.name, x.desc⟩ ∨ (Cond.instanceMethod ⟨owner, x.name, x.desc⟩ ∈ TT ∧ ∃ (b0 : ByteArray) (m0 : Nat) (r0 : Option FieldType), Cond.code ⟨owner, x.name, x.desc⟩ b0 m0 r0 ∈ TT)) ∧ (owner ≠ "java/lang/invoke/MethodHandle" ∧ owner ≠ "java/lang/invoke/VarHandle" ∧ (parseMethodDescriptor x.desc).map (fun d => d.parameters.length) = some k0)
/-- super.y' -/
def LSU (own : String) (idx : Nat) (y' : MethodName) (bytes : ByteArray) (maxL : Nat) (ret' : Option FieldType) (k0 : Nat) : Prop :=
  Cond.methodLink own idx y' ∈ TT ∧ Cond.sameMethod y'.cls y'.cls y'.name y'.desc ∈ TT ∧ Cond.superclass own y'.cls ∈ TT ∧ Cond.instanceMethod y' ∈ TT ∧ Cond.initialized y'.cls ∈ TT ∧ Cond.code y' bytes maxL ret' ∈ TT ∧ maxL ≤ 45 ∧ (y'.name ≠ "<init>" ∧ (parseMethodDescriptor y'.desc).map (fun d => d.parameters.length) = some k0)
/-- a constructor -/
def LI (own : String) (idx : Nat) (y' : MethodName) (bytes : ByteArray) (maxL : Nat) (k0 : Nat) : Prop :=
  Cond.methodLink own idx y' ∈ TT ∧ Cond.instanceMethod y' ∈ TT ∧ Cond.initialized y'.cls ∈ TT ∧ Cond.code y' bytes maxL none ∈ TT ∧ maxL ≤ 45 ∧ y'.name = "<init>" ∧ (y'.cls ≠ "java/lang/invoke/MethodHandle" ∧ y'.cls ≠ "java/lang/invoke/VarHandle" ∧ (parseMethodDescriptor y'.desc).map (fun d => d.parameters.length) = some k0)
/-- a nest mate's private constructor -/
def LIN (own : String) (idx : Nat) (y' : MethodName) (host : String) (bytes : ByteArray) (maxL : Nat) (k0 : Nat) : Prop :=
  Cond.methodLinkNest own idx y' host ∈ NW ∧ Cond.instanceMethod y' ∈ TT ∧ Cond.initialized y'.cls ∈ TT ∧ Cond.code y' bytes maxL none ∈ TT ∧ maxL ≤ 45 ∧ y'.name = "<init>" ∧ (y'.cls ≠ "java/lang/invoke/MethodHandle" ∧ y'.cls ≠ "java/lang/invoke/VarHandle" ∧ (parseMethodDescriptor y'.desc).map (fun d => d.parameters.length) = some k0)
theorem rm_fit {d d' mc ms mc' ms' maxL : Nat} (h : d' + 1 ≤ d) (hm : maxL ≤ 45) : (rmD d' mc' ms').frames + 1 ≤ (rmD d mc ms).frames ∧ 8 + (maxL + 11) + (rmD d' mc' ms').locals ≤ (rmD d mc ms).locals := by
  unfold rmD
  dsimp only
  omega
theorem cat_fit {m : MethodId} {pc : Nat} {lsr : Array Slot} {st0 st : List Value} (h : (st.map fun v => v.category).sum ≤ 8) : 2 * (F0 m pc lsr st0).monitorRoom + (st.map fun v => v.category).sum ≤ 8 := lv_room h
theorem AW.callV (X : CX κ (δ, b, n, nL, sh, tp, Qc, mc, ms) own nm cc ret d) {C : String} {T : u_T} {o ci : Nat} (hd : decode cc pc = .ok (.invokevirtual idx, 3)) (L : LV own idx C y' bytes maxL ret' k0) (hC : CF ci C T) (hM : MC κ.2.1 δ b n sh tp y' bytes maxL ret' d' mc' ms' N N2 (.ref (b + o) :: av) μ post) (ho : OB sh N o ci) (hav : av.length = k0) (hst : st0 = av.reverse ++ .ref (b + o) :: st) (hcat : Nat.ble (st.map fun v => v.category).sum 8 = true) (hd' : Nat.ble (d' + 1) d = true) (hr : Nat.ble (cells + mc') mc = true ∧ Nat.ble (slots + ms') ms = true)
    (kk : ∀ (v : Option Value) (μ' : Mm), post v μ' → AW κ (δ, b, n, nL, sh, tp, Qc, mc, ms) N2 (cells + mc') (slots + ms') (pc + 3) ls (v.toList ++ st) μ') : AW κ (δ, b, n, nL, sh, tp, Qc, mc, ms) N cells slots pc ls st0 μ := by
  obtain ⟨p, l, e, R, s, m, args, below, meth, c⟩ := κ
  intro H locs lsr hP hT hS h
  subst hst
  obtain ⟨x1, x2, x3, x4, hts, x6, x7, x8, hK, hKS, hR⟩ := X
  obtain ⟨l1, l2, l3, l4, l5, l6, l7⟩ := L
  subst hR
  refine run_core (va_runV (As := av) (rest := st) ⟨x1, x2, x3, x4, hts⟩ hM (cwV k0 hts (fun w hw => ?_) rfl rfl rfl l7 (rm_fit (Nat.le_of_ble_eq_true hd') l6)) ⟨pc_blind _ _ _ _, va_recv hK.1 hP hC.1 (ob_get ho), fun U hU hW => ⟨rfl, by rw [hU]; exact hP, by rw [hU]; exact hT, KX.warm hW hK, KS.at hKS hS hU hW⟩⟩ rfl hav h.1 rfl (cat_fit (Nat.le_of_ble_eq_true hcat)) hd ⟨Nat.le_of_ble_eq_true hr.1, Nat.le_of_ble_eq_true hr.2⟩) hS (fun v μ' H1 locs1 hp hP1 hT1 hS1 => kk v μ' hp H1 locs1 lsr hP1 hT1 hS1 h)
  have key : w ∈ TT := by
    simp only [wsV, List.cons_append, List.nil_append, List.mem_cons] at hw
    rcases hw with rfl | rfl | rfl | rfl | rfl | hw <;> assumption
  exact ⟨key, tt_good key⟩
theorem AW.callS (X : CX κ (δ, b, n, nL, sh, tp, Qc, mc, ms) own nm cc ret d) (hd : decode cc pc = .ok (.invokestatic idx, 3)) (L : LSt own idx y' bytes maxL ret' k0) (hM : MC κ.2.1 δ b n sh tp y' bytes maxL ret' d' mc' ms' N N2 av μ post) (hav : av.length = k0) (hst : st0 = av.reverse ++ st) (hcat : Nat.ble (st.map fun v => v.category).sum 8 = true) (hd' : Nat.ble (d' + 1) d = true) (hr : Nat.ble (cells + mc') mc = true ∧ Nat.ble (slots + ms') ms = true)
    (kk : ∀ (v : Option Value) (μ' : Mm), post v μ' → AW κ (δ, b, n, nL, sh, tp, Qc, mc, ms) N2 (cells + mc') (slots + ms') (pc + 3) ls (v.toList ++ st) μ') : AW κ (δ, b, n, nL, sh, tp, Qc, mc, ms) N cells slots pc ls st0 μ := by
  obtain ⟨p, l, e, R, s, m, args, below, meth, c⟩ := κ
  intro H locs lsr hP hT hS h
  subst hst
  obtain ⟨x1, x2, x3, x4, hts, x6, x7, x8, hK, hKS, hR⟩ := X
  obtain ⟨l1, l2, l3, l4, l5, l6⟩ := L
  subst hR
  refine run_core (va_runS (As := av) (rest := st) ⟨x1, x2, x3, x4, hts⟩ hM (va_cwS k0 hts (fun w hw => ?_) rfl rfl rfl l6 (rm_fit (Nat.le_of_ble_eq_true hd') l5)) ⟨pc_blind _ _ _ _, fun U hU hW => ⟨rfl, by rw [hU]; exact hP, by rw [hU]; exact hT, KX.warm hW hK, KS.at hKS hS hU hW⟩⟩ rfl hav h.1 rfl (cat_fit (Nat.le_of_ble_eq_true hcat)) hd ⟨Nat.le_of_ble_eq_true hr.1, Nat.le_of_ble_eq_true hr.2⟩) hS (fun v μ' H1 locs1 hp hP1 hT1 hS1 => kk v μ' hp H1 locs1 lsr hP1 hT1 hS1 h)
  have key : w ∈ TT := by
    simp only [va_wsS, List.cons_append, List.nil_append, List.mem_cons] at hw
    rcases hw with rfl | rfl | rfl | rfl | hw <;> assumption
  exact ⟨key, tt_good key⟩
theorem AW.callSN (X : CX κ (δ, b, n, nL, sh, tp, Qc, mc, ms) own nm cc ret d) {host : String} (hd : decode cc pc = .ok (.invokestatic idx, 3)) (L : LSN own idx y' host bytes maxL ret' k0) (hM : MC κ.2.1 δ b n sh tp y' bytes maxL ret' d' mc' ms' N N2 av μ post) (hav : av.length = k0) (hst : st0 = av.reverse ++ st) (hcat : Nat.ble (st.map fun v => v.category).sum 8 = true) (hd' : Nat.ble (d' + 1) d = true) (hr : Nat.ble (cells + mc') mc = true ∧ Nat.ble (slots + ms') ms = true)
    (kk : ∀ (v : Option Value) (μ' : Mm), post v μ' → AW κ (δ, b, n, nL, sh, tp, Qc, mc, ms) N2 (cells + mc') (slots + ms') (pc + 3) ls (v.toList ++ st) μ') : AW κ (δ, b, n, nL, sh, tp, Qc, mc, ms) N cells slots pc ls st0 μ := by
  obtain ⟨p, l, e, R, s, m, args, below, meth, c⟩ := κ
  intro H locs lsr hP hT hS h
  subst hst
  obtain ⟨x1, x2, x3, x4, hts, x6, x7, x8, hK, hKS, hR⟩ := X
  obtain ⟨l1, l2, l3, l4, l5, l6⟩ := L
  subst hR
  exact run_core (va_runSN (As := av) (rest := st) ⟨x1, x2, x3, x4, hts⟩ hM ⟨va_cnB k0 hts (tt_goodIn l4) rfl rfl rfl (hK.2.1 _ l1) (hts _ l3) l6 (rm_fit (Nat.le_of_ble_eq_true hd') l5), hts _ l2, trivial⟩ ⟨pc_blind _ _ _ _, fun U hU hW => ⟨rfl, by rw [hU]; exact hP, by rw [hU]; exact hT, KX.warm hW hK, KS.at hKS hS hU hW⟩⟩ rfl hav h.1 rfl (cat_fit (Nat.le_of_ble_eq_true hcat)) hd ⟨Nat.le_of_ble_eq_true hr.1, Nat.le_of_ble_eq_true hr.2⟩) hS (fun v μ' H1 locs1 hp hP1 hT1 hS1 => kk v μ' hp H1 locs1 lsr hP1 hT1 hS1 h)
theorem AW.callU (X : CX κ (δ, b, n, nL, sh, tp, Qc, mc, ms) own nm cc ret d) {C owner : String} {T : u_T} {x : MethodName} {o ci : Nat} (hd : decode cc pc = .ok (.invokevirtual idx, 3)) (L : LU own idx C owner x y' bytes maxL ret' k0) (hC : CF ci C T) (hM : MC κ.2.1 δ b n sh tp y' bytes maxL ret' d' mc' ms' N N2 (.ref (b + o) :: av) μ post) (ho : OB sh N o ci) (hav : av.length = k0) (hst : st0 = av.reverse ++ .ref (b + o) :: st) (hcat : Nat.ble (st.map fun v => v.category).sum 8 = true) (hd' : Nat.ble (d' + 1) d = true) (hr : Nat.ble (cells + mc') mc = true ∧ Nat.ble (slots + ms') ms = true)
    (kk : ∀ (v : Option Value) (μ' : Mm), post v μ' → AW κ (δ, b, n, nL, sh, tp, Qc, mc, ms) N2 (cells + mc') (slots + ms') (pc + 3) ls (v.toList ++ st) μ') : AW κ (δ, b, n, nL, sh, tp, Qc, mc, ms) N cells slots pc ls st0 μ := by
  obtain ⟨p, l, e, R, s, m, args, below, meth, c⟩ := κ
  intro H locs lsr hP hT hS h
  subst hst
  obtain ⟨x1, x2, x3, x4, hts, x6, x7, x8, hK, hKS, hR⟩ := X
  obtain ⟨⟨l1, l2, l3, l4, l5, l6, l7⟩, l8, l9⟩ := L
  subst hR
  have cu : va_CU (rmD d mc ms) s args own C owner idx x y' bytes maxL ret' (Cond.code y' bytes maxL ret' :: TT) (rmD d' mc' ms') mc' ms' k0 := by
    rcases l8 with l8 | ⟨l8, b0, m0, r0, l10⟩
    · refine va_cwU k0 hts (fun w hw => ?_) rfl rfl rfl l8 l9 (rm_fit (Nat.le_of_ble_eq_true hd') l7)
      have key : w ∈ TT := by
        simp only [va_wsU, List.cons_append, List.nil_append, List.mem_cons] at hw
        rcases hw with rfl | rfl | rfl | rfl | rfl | rfl | hw <;> assumption
      exact ⟨key, tt_good key⟩
    · refine va_cwO k0 hts (fun w hw => ?_) rfl rfl rfl l10 l9 (rm_fit (Nat.le_of_ble_eq_true hd') l7)
      have key : w ∈ TT := by
        simp only [va_wsO, List.cons_append, List.nil_append, List.mem_cons] at hw
        rcases hw with rfl | rfl | rfl | rfl | rfl | rfl | rfl | hw <;> assumption
      exact ⟨key, tt_good key⟩
  exact run_core (va_runU (As := av) (rest := st) ⟨x1, x2, x3, x4, hts⟩ hM cu ⟨pc_blind _ _ _ _, va_recv hK.1 hP hC.1 (ob_get ho), fun U hU hW => ⟨rfl, by rw [hU]; exact hP, by rw [hU]; exact hT, KX.warm hW hK, KS.at hKS hS hU hW⟩⟩ rfl hav h.1 rfl (cat_fit (Nat.le_of_ble_eq_true hcat)) hd ⟨Nat.le_of_ble_eq_true hr.1, Nat.le_of_ble_eq_true hr.2⟩) hS (fun v μ' H1 locs1 hp hP1 hT1 hS1 => kk v μ' hp H1 locs1 lsr hP1 hT1 hS1 h)
theorem AW.callSU (X : CX κ (δ, b, n, nL, sh, tp, Qc, mc, ms) own nm cc ret d) {C : String} {T : u_T} {o ci : Nat} (hd : decode cc pc = .ok (.invokespecial idx, 3)) (L : LSU own idx y' bytes maxL ret' k0) (hC : CF ci C T) (hM : MC κ.2.1 δ b n sh tp y' bytes maxL ret' d' mc' ms' N N2 (.ref (b + o) :: av) μ post) (ho : OB sh N o ci) (hav : av.length = k0) (hst : st0 = av.reverse ++ .ref (b + o) :: st) (hcat : Nat.ble (st.map fun v => v.category).sum 8 = true) (hd' : Nat.ble (d' + 1) d = true) (hr : Nat.ble (cells + mc') mc = true ∧ Nat.ble (slots + ms') ms = true)
    (kk : ∀ (v : Option Value) (μ' : Mm), post v μ' → AW κ (δ, b, n, nL, sh, tp, Qc, mc, ms) N2 (cells + mc') (slots + ms') (pc + 3) ls (v.toList ++ st) μ') : AW κ (δ, b, n, nL, sh, tp, Qc, mc, ms) N cells slots pc ls st0 μ := by
  obtain ⟨p, l, e, R, s, m, args, below, meth, c⟩ := κ
  intro H locs lsr hP hT hS h
  subst hst
  obtain ⟨x1, x2, x3, x4, hts, x6, x7, x8, hK, hKS, hR⟩ := X
  obtain ⟨l1, l2, l3, l4, l5, l6, l7, l8⟩ := L
  subst hR
  refine run_core (va_runSU (As := av) (rest := st) (hK.1.1 ci _ hC.1).2 ⟨x1, x2, x3, x4, hts⟩ hM (va_cwSU k0 hts (fun w hw => ?_) rfl rfl rfl l8 (rm_fit (Nat.le_of_ble_eq_true hd') l7)) ⟨pc_blind _ _ _ _, va_recv hK.1 hP hC.1 (ob_get ho), fun U hU hW => ⟨rfl, by rw [hU]; exact hP, by rw [hU]; exact hT, KX.warm hW hK, KS.at hKS hS hU hW⟩⟩ rfl hav h.1 rfl (cat_fit (Nat.le_of_ble_eq_true hcat)) hd ⟨Nat.le_of_ble_eq_true hr.1, Nat.le_of_ble_eq_true hr.2⟩) hS (fun v μ' H1 locs1 hp hP1 hT1 hS1 => kk v μ' hp H1 locs1 lsr hP1 hT1 hS1 h)
  have key : w ∈ TT := by
    simp only [va_wsSU, List.cons_append, List.nil_append, List.mem_cons] at hw
    rcases hw with rfl | rfl | rfl | rfl | rfl | rfl | hw <;> assumption
  exact ⟨key, tt_good key⟩
theorem AW.callI (X : CX κ (δ, b, n, nL, sh, tp, Qc, mc, ms) own nm cc ret d) {o : Nat} (hd : decode cc pc = .ok (.invokespecial idx, 3)) (L : LI own idx y' bytes maxL k0) (hM : MC κ.2.1 δ b n sh tp y' bytes maxL none d' mc' ms' N N2 (.ref (b + o) :: av) μ post) (hav : av.length = k0) (hst : st0 = av.reverse ++ .ref (b + o) :: st) (hcat : Nat.ble (st.map fun v => v.category).sum 8 = true) (hd' : Nat.ble (d' + 1) d = true) (hr : Nat.ble (cells + mc') mc = true ∧ Nat.ble (slots + ms') ms = true)
    (kk : ∀ (v : Option Value) (μ' : Mm), post v μ' → AW κ (δ, b, n, nL, sh, tp, Qc, mc, ms) N2 (cells + mc') (slots + ms') (pc + 3) ls (v.toList ++ st) μ') : AW κ (δ, b, n, nL, sh, tp, Qc, mc, ms) N cells slots pc ls st0 μ := by
  obtain ⟨p, l, e, R, s, m, args, below, meth, c⟩ := κ
  intro H locs lsr hP hT hS h
  subst hst
  obtain ⟨x1, x2, x3, x4, hts, x6, x7, x8, hK, hKS, hR⟩ := X
  obtain ⟨l1, l2, l3, l4, l5, l6, l7⟩ := L
  subst hR
  exact run_core (va_runI (As := av) (rest := st) ⟨x1, x2, x3, x4, hts⟩ hM ⟨callB_of k0 hts (tt_goodIn l4) rfl rfl rfl (hts _ l3) (hts _ l1) l7 (rm_fit (Nat.le_of_ble_eq_true hd') l5), l6, hts _ l2⟩ ⟨pc_blind _ _ _ _, fun U hU hW => ⟨rfl, by rw [hU]; exact hP, by rw [hU]; exact hT, KX.warm hW hK, KS.at hKS hS hU hW⟩⟩ rfl hav h.1 rfl (cat_fit (Nat.le_of_ble_eq_true hcat)) hd ⟨Nat.le_of_ble_eq_true hr.1, Nat.le_of_ble_eq_true hr.2⟩) hS (fun v μ' H1 locs1 hp hP1 hT1 hS1 => kk v μ' hp H1 locs1 lsr hP1 hT1 hS1 h)
theorem AW.callIN (X : CX κ (δ, b, n, nL, sh, tp, Qc, mc, ms) own nm cc ret d) {host : String} {o : Nat} (hd : decode cc pc = .ok (.invokespecial idx, 3)) (L : LIN own idx y' host bytes maxL k0) (hM : MC κ.2.1 δ b n sh tp y' bytes maxL none d' mc' ms' N N2 (.ref (b + o) :: av) μ post) (hav : av.length = k0) (hst : st0 = av.reverse ++ .ref (b + o) :: st) (hcat : Nat.ble (st.map fun v => v.category).sum 8 = true) (hd' : Nat.ble (d' + 1) d = true) (hr : Nat.ble (cells + mc') mc = true ∧ Nat.ble (slots + ms') ms = true)
    (kk : ∀ (v : Option Value) (μ' : Mm), post v μ' → AW κ (δ, b, n, nL, sh, tp, Qc, mc, ms) N2 (cells + mc') (slots + ms') (pc + 3) ls (v.toList ++ st) μ') : AW κ (δ, b, n, nL, sh, tp, Qc, mc, ms) N cells slots pc ls st0 μ := by
  obtain ⟨p, l, e, R, s, m, args, below, meth, c⟩ := κ
  intro H locs lsr hP hT hS h
  subst hst
  obtain ⟨x1, x2, x3, x4, hts, x6, x7, x8, hK, hKS, hR⟩ := X
  obtain ⟨l1, l2, l3, l4, l5, l6, l7⟩ := L
  subst hR
  exact run_core (va_runIN (As := av) (rest := st) ⟨x1, x2, x3, x4, hts⟩ hM ⟨va_cnB k0 hts (tt_goodIn l4) rfl rfl rfl (hK.2.1 _ l1) (hts _ l3) l7 (rm_fit (Nat.le_of_ble_eq_true hd') l5), l6, hts _ l2⟩ ⟨pc_blind _ _ _ _, fun U hU hW => ⟨rfl, by rw [hU]; exact hP, by rw [hU]; exact hT, KX.warm hW hK, KS.at hKS hS hU hW⟩⟩ rfl hav h.1 rfl (cat_fit (Nat.le_of_ble_eq_true hcat)) hd ⟨Nat.le_of_ble_eq_true hr.1, Nat.le_of_ble_eq_true hr.2⟩) hS (fun v μ' H1 locs1 hp hP1 hT1 hS1 => kk v μ' hp H1 locs1 lsr hP1 hT1 hS1 h)
end CALLS
end
section
/-! what the tables say of each class, field and call: by program -/
theorem tt_lays {C : String} {T : u_T} {N : Nat} (h : ∀ w ∈ u_ws C T N, w ∈ lw_tbl) : ∀ w ∈ u_ws C T N, w ∈ TT := fun w hw => tt_mem (h w hw) (by
  obtain ⟨k, -, rfl⟩ := List.mem_map.mp hw
  unfold u_lay
  split <;> rfl)
theorem tt_c1 {w : Cond} (i : Nat) (h : tables_1_1[i]? = some w) (hg : goodWord w = true) : w ∈ TT := tt_mem (List.mem_append_right _ (List.mem_append_left _ (List.mem_of_getElem? h))) hg
theorem tt_c2 {w : Cond} (i : Nat) (h : tables_1_2[i]? = some w) (hg : goodWord w = true) : w ∈ TT := tt_mem (List.mem_append_right _ (List.mem_append_right _ (List.mem_append_left _ (List.mem_of_getElem? h)))) hg
theorem tt_c3 {w : Cond} (i : Nat) (h : tables_1_3[i]? = some w) (hg : goodWord w = true) : w ∈ TT := tt_mem (List.mem_append_right _ (List.mem_append_right _ (List.mem_append_right _ (List.mem_append_left _ (List.mem_of_getElem? h))))) hg
theorem tt_c4 {w : Cond} (i : Nat) (h : tables_1_4[i]? = some w) (hg : goodWord w = true) : w ∈ TT := tt_mem (List.mem_append_right _ (List.mem_append_right _ (List.mem_append_right _ (List.mem_append_right _ (List.mem_append_left _ (List.mem_of_getElem? h)))))) hg
theorem tt_c5 {w : Cond} (i : Nat) (h : tables_1_5[i]? = some w) (hg : goodWord w = true) : w ∈ TT := tt_mem (List.mem_append_right _ (List.mem_append_right _ (List.mem_append_right _ (List.mem_append_right _ (List.mem_append_right _ (List.mem_append_left _ (List.mem_of_getElem? h))))))) hg
theorem tt_c6 {w : Cond} (i : Nat) (h : tables_1_6[i]? = some w) (hg : goodWord w = true) : w ∈ TT := tt_mem (List.mem_append_right _ (List.mem_append_right _ (List.mem_append_right _ (List.mem_append_right _ (List.mem_append_right _ (List.mem_append_right _ (List.mem_of_getElem? h))))))) hg
theorem cfX0 : CF 0 RX0 TX0 := ⟨rfl, (fun w hw => absurd (show w ∈ ([] : List Cond) from hw) List.not_mem_nil), (fun k hk => absurd hk (Nat.not_lt_zero k)), (fun a ha => absurd ha (Nat.not_lt_zero a))⟩
theorem cfX1 : CF 1 RX1 TX1 := ⟨rfl, (fun w hw => absurd (show w ∈ ([] : List Cond) from hw) List.not_mem_nil), (fun k hk => absurd hk (Nat.not_lt_zero k)), (fun a ha => absurd ha (Nat.not_lt_zero a))⟩
theorem cfX2 : CF 2 RX2 TX2 := ⟨rfl, (fun w hw => absurd (show w ∈ ([] : List Cond) from hw) List.not_mem_nil), (fun k hk => absurd hk (Nat.not_lt_zero k)), (fun a ha => absurd ha (Nat.not_lt_zero a))⟩
theorem cfX3 : CF 3 RX3 TX3 := ⟨rfl, tt_lays (fun w hw => List.mem_of_getElem? (i := ([247, 249, 251, 253, 255, 257, 259, 261, 263, 265] : List Nat).getD ((u_ws RX3 TX3 10).idxOf w) 0) (by
  obtain ⟨k, hk, rfl⟩ := List.mem_map.mp hw
  have hk : k < 10 := List.mem_range.mp hk
  revert k
  decide +kernel)), by decide +kernel, by decide +kernel⟩
theorem cfX4 : CF 4 RX4 TX4 := ⟨rfl, (fun w hw => absurd (show w ∈ ([] : List Cond) from hw) List.not_mem_nil), (fun k hk => absurd hk (Nat.not_lt_zero k)), (fun a ha => absurd ha (Nat.not_lt_zero a))⟩
theorem cfX5 : CF 5 RX5 TX5 := ⟨rfl, (fun w hw => absurd (show w ∈ ([] : List Cond) from hw) List.not_mem_nil), (fun k hk => absurd hk (Nat.not_lt_zero k)), (fun a ha => absurd ha (Nat.not_lt_zero a))⟩
theorem cfX6 : CF 6 RX6 TX6 := ⟨rfl, tt_lays (fun w hw => List.mem_of_getElem? (i := ([115, 117, 119, 121, 123, 125] : List Nat).getD ((u_ws RX6 TX6 6).idxOf w) 0) (by
  obtain ⟨k, hk, rfl⟩ := List.mem_map.mp hw
  have hk : k < 6 := List.mem_range.mp hk
  revert k
  decide +kernel)), by decide +kernel, by decide +kernel⟩
theorem cfX7 : CF 7 RX7 TX7 := ⟨rfl, (fun w hw => absurd (show w ∈ ([] : List Cond) from hw) List.not_mem_nil), (fun k hk => absurd hk (Nat.not_lt_zero k)), (fun a ha => absurd ha (Nat.not_lt_zero a))⟩
theorem cfX8 : CF 8 RX8 TX8 := ⟨rfl, (fun w hw => absurd (show w ∈ ([] : List Cond) from hw) List.not_mem_nil), (fun k hk => absurd hk (Nat.not_lt_zero k)), (fun a ha => absurd ha (Nat.not_lt_zero a))⟩
theorem cfX9 : CF 9 RX9 TX9 := ⟨rfl, tt_lays (fun w hw => List.mem_of_getElem? (i := ([292, 294, 296, 298, 300, 302, 304, 306, 308, 310] : List Nat).getD ((u_ws RX9 TX9 10).idxOf w) 0) (by
  obtain ⟨k, hk, rfl⟩ := List.mem_map.mp hw
  have hk : k < 10 := List.mem_range.mp hk
  revert k
  decide +kernel)), by decide +kernel, by decide +kernel⟩
theorem cfX10 : CF 10 RX10 TX10 := ⟨rfl, tt_lays (fun w hw => List.mem_of_getElem? (i := ([149, 151, 153, 155] : List Nat).getD ((u_ws RX10 TX10 4).idxOf w) 0) (by
  obtain ⟨k, hk, rfl⟩ := List.mem_map.mp hw
  have hk : k < 4 := List.mem_range.mp hk
  revert k
  decide +kernel)), by decide +kernel, by decide +kernel⟩
theorem cfX11 : CF 11 RX11 TX11 := ⟨rfl, tt_lays (fun w hw => List.mem_of_getElem? (i := ([327, 329, 331, 333, 335, 337, 339, 341, 343, 345, 347, 349, 351, 353] : List Nat).getD ((u_ws RX11 TX11 14).idxOf w) 0) (by
  obtain ⟨k, hk, rfl⟩ := List.mem_map.mp hw
  have hk : k < 14 := List.mem_range.mp hk
  revert k
  decide +kernel)), by decide +kernel, by decide +kernel⟩
theorem cfX12 : CF 12 RX12 TX12 := ⟨rfl, tt_lays (fun w hw => List.mem_of_getElem? (i := ([1024, 1026, 1028, 1030, 1032, 1034, 1036, 1038, 1040, 1042, 1044, 1046, 1048, 1050, 1052, 1054, 1056, 1058, 1060, 1062, 1064, 1066, 1068, 1070, 1072, 1074, 1076, 1078, 1080, 1082, 1084, 1086, 1088] : List Nat).getD ((u_ws RX12 TX12 33).idxOf w) 0) (by
  obtain ⟨k, hk, rfl⟩ := List.mem_map.mp hw
  have hk : k < 33 := List.mem_range.mp hk
  revert k
  decide +kernel)), by decide +kernel, by decide +kernel⟩
set_option maxRecDepth 100000 in
theorem lL_9 : LI "PaintedOverLaw" 9 yX11_init cX11_init 2 0 := ⟨tt_c1 23 (by decide +kernel) rfl, tt_c1 24 (by decide +kernel) rfl, tt_c1 1 (by decide +kernel) rfl, tt_c1 25 rfl rfl, by decide, rfl, by decide +kernel⟩
set_option maxRecDepth 100000 in
theorem lX11_40 : LIN RX11 40 yX6_init "PaintedOver" cX6_init 1 0 := ⟨List.mem_filter.mpr ⟨List.mem_of_getElem? (i := 104) (by decide +kernel), rfl⟩, tt_c1 34 (by decide +kernel) rfl, tt_c1 2 (by decide +kernel) rfl, tt_c1 35 rfl rfl, by decide, rfl, by decide +kernel⟩
theorem fX6_24 : GF RX6 24 6 0 RX6 TX6 := ⟨cfX6, by decide, tt_c1 37 (by decide +kernel) rfl⟩
theorem fX6_28 : GF RX6 28 6 1 RX6 TX6 := ⟨cfX6, by decide, tt_c1 38 (by decide +kernel) rfl⟩
theorem fX6_9 : GF RX6 9 6 2 RX6 TX6 := ⟨cfX6, by decide, tt_c1 39 (by decide +kernel) rfl⟩
theorem fX6_15 : GF RX6 15 6 3 RX6 TX6 := ⟨cfX6, by decide, tt_c1 40 (by decide +kernel) rfl⟩
theorem fX6_18 : GF RX6 18 6 4 RX6 TX6 := ⟨cfX6, by decide, tt_c1 41 (by decide +kernel) rfl⟩
theorem fX6_21 : GF RX6 21 6 5 RX6 TX6 := ⟨cfX6, by decide, tt_c1 42 (by decide +kernel) rfl⟩
theorem fX11_218 : GF RX11 218 6 5 RX6 TX6 := ⟨cfX6, by decide, tt_c1 43 (by decide +kernel) rfl⟩
set_option maxRecDepth 100000 in
theorem lX11_50 : LIN RX11 50 yX10_init "PaintedOver" cX10_init 1 0 := ⟨List.mem_filter.mpr ⟨List.mem_of_getElem? (i := 132) (by decide +kernel), rfl⟩, tt_c1 62 (by decide +kernel) rfl, tt_c1 3 (by decide +kernel) rfl, tt_c1 63 rfl rfl, by decide, rfl, by decide +kernel⟩
theorem fX10_9 : GF RX10 9 10 0 RX10 TX10 := ⟨cfX10, by decide, tt_c1 65 (by decide +kernel) rfl⟩
theorem fX7_20 : GF RX7 20 10 0 RX10 TX10 := ⟨cfX10, by decide, tt_c1 66 (by decide +kernel) rfl⟩
theorem fX4_13 : GF RX4 13 10 0 RX10 TX10 := ⟨cfX10, by decide, tt_c1 67 (by decide +kernel) rfl⟩
theorem fX11_308 : GF RX11 308 10 0 RX10 TX10 := ⟨cfX10, by decide, tt_c1 68 (by decide +kernel) rfl⟩
theorem fX10_15 : GF RX10 15 10 1 RX10 TX10 := ⟨cfX10, by decide, tt_c1 69 (by decide +kernel) rfl⟩
theorem fX2_17 : GF RX2 17 10 1 RX10 TX10 := ⟨cfX10, by decide, tt_c1 70 (by decide +kernel) rfl⟩
theorem fX0_21 : GF RX0 21 10 1 RX10 TX10 := ⟨cfX10, by decide, tt_c1 71 (by decide +kernel) rfl⟩
theorem fX4_26 : GF RX4 26 10 1 RX10 TX10 := ⟨cfX10, by decide, tt_c1 72 (by decide +kernel) rfl⟩
theorem fX11_311 : GF RX11 311 10 1 RX10 TX10 := ⟨cfX10, by decide, tt_c1 73 (by decide +kernel) rfl⟩
theorem fX10_18 : GF RX10 18 10 2 RX10 TX10 := ⟨cfX10, by decide, tt_c1 74 (by decide +kernel) rfl⟩
theorem fX11_305 : GF RX11 305 10 2 RX10 TX10 := ⟨cfX10, by decide, tt_c1 75 (by decide +kernel) rfl⟩
theorem fX10_21 : GF RX10 21 10 3 RX10 TX10 := ⟨cfX10, by decide, tt_c1 76 (by decide +kernel) rfl⟩
theorem fX11_324 : GF RX11 324 10 3 RX10 TX10 := ⟨cfX10, by decide, tt_c1 77 (by decide +kernel) rfl⟩
set_option maxRecDepth 100000 in
theorem lX11_57 : LIN RX11 57 yX4_init "PaintedOver" cX4_init 1 0 := ⟨List.mem_filter.mpr ⟨List.mem_of_getElem? (i := 161) (by decide +kernel), rfl⟩, tt_c1 91 (by decide +kernel) rfl, tt_c1 4 (by decide +kernel) rfl, tt_c1 92 rfl rfl, by decide, rfl, by decide +kernel⟩
set_option maxRecDepth 100000 in
theorem lX11_60 : LIN RX11 60 yX2_init "PaintedOver" cX2_init 1 0 := ⟨List.mem_filter.mpr ⟨List.mem_of_getElem? (i := 168) (by decide +kernel), rfl⟩, tt_c1 98 (by decide +kernel) rfl, tt_c1 5 (by decide +kernel) rfl, tt_c1 99 rfl rfl, by decide, rfl, by decide +kernel⟩
set_option maxRecDepth 100000 in
theorem lX2_1 : LIN RX2 1 yX4_init "PaintedOver" cX4_init 1 0 := ⟨List.mem_filter.mpr ⟨List.mem_of_getElem? (i := 171) (by decide +kernel), rfl⟩, tt_c1 91 (by decide +kernel) rfl, tt_c1 4 (by decide +kernel) rfl, tt_c1 92 rfl rfl, by decide, rfl, by decide +kernel⟩
set_option maxRecDepth 100000 in
theorem lX11_63 : LIN RX11 63 yX5_init "PaintedOver" cX5_init 1 0 := ⟨List.mem_filter.mpr ⟨List.mem_of_getElem? (i := 175) (by decide +kernel), rfl⟩, tt_c1 105 (by decide +kernel) rfl, tt_c1 6 (by decide +kernel) rfl, tt_c1 106 rfl rfl, by decide, rfl, by decide +kernel⟩
set_option maxRecDepth 100000 in
theorem lX5_1 : LIN RX5 1 yX4_init "PaintedOver" cX4_init 1 0 := ⟨List.mem_filter.mpr ⟨List.mem_of_getElem? (i := 178) (by decide +kernel), rfl⟩, tt_c1 91 (by decide +kernel) rfl, tt_c1 4 (by decide +kernel) rfl, tt_c1 92 rfl rfl, by decide, rfl, by decide +kernel⟩
set_option maxRecDepth 100000 in
theorem lX11_66 : LIN RX11 66 yX1_init "PaintedOver" cX1_init 1 0 := ⟨List.mem_filter.mpr ⟨List.mem_of_getElem? (i := 182) (by decide +kernel), rfl⟩, tt_c1 112 (by decide +kernel) rfl, tt_c1 7 (by decide +kernel) rfl, tt_c1 113 rfl rfl, by decide, rfl, by decide +kernel⟩
set_option maxRecDepth 100000 in
theorem lX1_3 : LIN RX1 3 yX2_init "PaintedOver" cX2_init 1 0 := ⟨List.mem_filter.mpr ⟨List.mem_of_getElem? (i := 185) (by decide +kernel), rfl⟩, tt_c1 98 (by decide +kernel) rfl, tt_c1 5 (by decide +kernel) rfl, tt_c1 99 rfl rfl, by decide, rfl, by decide +kernel⟩
set_option maxRecDepth 100000 in
theorem lX11_69 : LIN RX11 69 yX7_init "PaintedOver" cX7_init 1 0 := ⟨List.mem_filter.mpr ⟨List.mem_of_getElem? (i := 189) (by decide +kernel), rfl⟩, tt_c1 119 (by decide +kernel) rfl, tt_c1 8 (by decide +kernel) rfl, tt_c1 120 rfl rfl, by decide, rfl, by decide +kernel⟩
set_option maxRecDepth 100000 in
theorem lX7_1 : LIN RX7 1 yX4_init "PaintedOver" cX4_init 1 0 := ⟨List.mem_filter.mpr ⟨List.mem_of_getElem? (i := 192) (by decide +kernel), rfl⟩, tt_c1 91 (by decide +kernel) rfl, tt_c1 4 (by decide +kernel) rfl, tt_c1 92 rfl rfl, by decide, rfl, by decide +kernel⟩
set_option maxRecDepth 100000 in
theorem lX11_72 : LIN RX11 72 yX8_init "PaintedOver" cX8_init 1 0 := ⟨List.mem_filter.mpr ⟨List.mem_of_getElem? (i := 196) (by decide +kernel), rfl⟩, tt_c1 126 (by decide +kernel) rfl, tt_c1 9 (by decide +kernel) rfl, tt_c1 127 rfl rfl, by decide, rfl, by decide +kernel⟩
set_option maxRecDepth 100000 in
theorem lX8_3 : LIN RX8 3 yX5_init "PaintedOver" cX5_init 1 0 := ⟨List.mem_filter.mpr ⟨List.mem_of_getElem? (i := 199) (by decide +kernel), rfl⟩, tt_c1 105 (by decide +kernel) rfl, tt_c1 6 (by decide +kernel) rfl, tt_c1 106 rfl rfl, by decide, rfl, by decide +kernel⟩
set_option maxRecDepth 100000 in
theorem lX11_75 : LIN RX11 75 yX0_init "PaintedOver" cX0_init 1 0 := ⟨List.mem_filter.mpr ⟨List.mem_of_getElem? (i := 203) (by decide +kernel), rfl⟩, tt_c1 133 (by decide +kernel) rfl, tt_c1 10 (by decide +kernel) rfl, tt_c1 134 rfl rfl, by decide, rfl, by decide +kernel⟩
set_option maxRecDepth 100000 in
theorem lX0_1 : LIN RX0 1 yX5_init "PaintedOver" cX5_init 1 0 := ⟨List.mem_filter.mpr ⟨List.mem_of_getElem? (i := 206) (by decide +kernel), rfl⟩, tt_c1 105 (by decide +kernel) rfl, tt_c1 6 (by decide +kernel) rfl, tt_c1 106 rfl rfl, by decide, rfl, by decide +kernel⟩
set_option maxRecDepth 100000 in
theorem lX11_78 : LI RX11 78 yX9_init cX9_init 3 1 := ⟨tt_c1 139 (by decide +kernel) rfl, tt_c1 140 (by decide +kernel) rfl, tt_c1 11 (by decide +kernel) rfl, tt_c1 141 rfl rfl, by decide, rfl, by decide +kernel⟩
set_option maxRecDepth 100000 in
theorem lX9_47 : LI RX9 47 yX3_init cX3_init 2 1 := ⟨tt_c1 146 (by decide +kernel) rfl, tt_c1 147 (by decide +kernel) rfl, tt_c1 12 (by decide +kernel) rfl, tt_c1 148 rfl rfl, by decide, rfl, by decide +kernel⟩
theorem fX3_40 : GF RX3 40 3 0 RX3 TX3 := ⟨cfX3, by decide, tt_c1 150 (by decide +kernel) rfl⟩
theorem fX9_67 : GF RX9 67 3 0 RX3 TX3 := ⟨cfX3, by decide, tt_c1 151 (by decide +kernel) rfl⟩
theorem fX11_130 : GF RX11 130 3 0 RX3 TX3 := ⟨cfX3, by decide, tt_c1 152 (by decide +kernel) rfl⟩
theorem fX3_9 : GF RX3 9 3 1 RX3 TX3 := ⟨cfX3, by decide, tt_c1 153 (by decide +kernel) rfl⟩
theorem fX9_71 : GF RX9 71 3 1 RX3 TX3 := ⟨cfX3, by decide, tt_c1 154 (by decide +kernel) rfl⟩
theorem fX11_151 : GF RX11 151 3 1 RX3 TX3 := ⟨cfX3, by decide, tt_c1 155 (by decide +kernel) rfl⟩
theorem fX3_15 : GF RX3 15 3 2 RX3 TX3 := ⟨cfX3, by decide, tt_c1 156 (by decide +kernel) rfl⟩
theorem fX9_74 : GF RX9 74 3 2 RX3 TX3 := ⟨cfX3, by decide, tt_c1 157 (by decide +kernel) rfl⟩
theorem fX11_154 : GF RX11 154 3 2 RX3 TX3 := ⟨cfX3, by decide, tt_c1 158 (by decide +kernel) rfl⟩
theorem fX3_18 : GF RX3 18 3 3 RX3 TX3 := ⟨cfX3, by decide, tt_c1 159 (by decide +kernel) rfl⟩
theorem fX9_77 : GF RX9 77 3 3 RX3 TX3 := ⟨cfX3, by decide, tt_c1 160 (by decide +kernel) rfl⟩
theorem fX6_119 : GF RX6 119 3 3 RX3 TX3 := ⟨cfX3, by decide, tt_c1 161 (by decide +kernel) rfl⟩
theorem fX11_157 : GF RX11 157 3 3 RX3 TX3 := ⟨cfX3, by decide, tt_c1 162 (by decide +kernel) rfl⟩
theorem fX3_21 : GF RX3 21 3 4 RX3 TX3 := ⟨cfX3, by decide, tt_c1 163 (by decide +kernel) rfl⟩
theorem fX11_189 : GF RX11 189 3 4 RX3 TX3 := ⟨cfX3, by decide, tt_c1 164 (by decide +kernel) rfl⟩
theorem fX3_25 : GF RX3 25 3 5 RX3 TX3 := ⟨cfX3, by decide, tt_c1 165 (by decide +kernel) rfl⟩
theorem fX9_90 : GF RX9 90 3 5 RX3 TX3 := ⟨cfX3, by decide, tt_c1 166 (by decide +kernel) rfl⟩
theorem fX11_192 : GF RX11 192 3 5 RX3 TX3 := ⟨cfX3, by decide, tt_c1 167 (by decide +kernel) rfl⟩
theorem fX3_28 : GF RX3 28 3 6 RX3 TX3 := ⟨cfX3, by decide, tt_c1 168 (by decide +kernel) rfl⟩
theorem fX9_93 : GF RX9 93 3 6 RX3 TX3 := ⟨cfX3, by decide, tt_c1 169 (by decide +kernel) rfl⟩
theorem fX11_195 : GF RX11 195 3 6 RX3 TX3 := ⟨cfX3, by decide, tt_c1 170 (by decide +kernel) rfl⟩
theorem fX3_31 : GF RX3 31 3 7 RX3 TX3 := ⟨cfX3, by decide, tt_c1 171 (by decide +kernel) rfl⟩
theorem fX11_198 : GF RX11 198 3 7 RX3 TX3 := ⟨cfX3, by decide, tt_c1 172 (by decide +kernel) rfl⟩
theorem fX3_34 : GF RX3 34 3 8 RX3 TX3 := ⟨cfX3, by decide, tt_c1 173 (by decide +kernel) rfl⟩
theorem fX11_201 : GF RX11 201 3 8 RX3 TX3 := ⟨cfX3, by decide, tt_c1 174 (by decide +kernel) rfl⟩
theorem fX3_37 : GF RX3 37 3 9 RX3 TX3 := ⟨cfX3, by decide, tt_c1 175 (by decide +kernel) rfl⟩
theorem fX9_43 : GF RX9 43 9 0 RX9 TX9 := ⟨cfX9, by decide, tt_c1 197 (by decide +kernel) rfl⟩
theorem fX9_11 : GF RX9 11 9 1 RX9 TX9 := ⟨cfX9, by decide, tt_c1 198 (by decide +kernel) rfl⟩
theorem fX6_115 : GF RX6 115 9 1 RX9 TX9 := ⟨cfX9, by decide, tt_c1 199 (by decide +kernel) rfl⟩
theorem fX11_126 : GF RX11 126 9 1 RX9 TX9 := ⟨cfX9, by decide, tt_c1 200 (by decide +kernel) rfl⟩
theorem fX9_17 : GF RX9 17 9 2 RX9 TX9 := ⟨cfX9, by decide, tt_c1 201 (by decide +kernel) rfl⟩
theorem fX6_109 : GF RX6 109 9 2 RX9 TX9 := ⟨cfX9, by decide, tt_c1 202 (by decide +kernel) rfl⟩
theorem fX11_144 : GF RX11 144 9 2 RX9 TX9 := ⟨cfX9, by decide, tt_c1 203 (by decide +kernel) rfl⟩
theorem fX9_21 : GF RX9 21 9 3 RX9 TX9 := ⟨cfX9, by decide, tt_c1 204 (by decide +kernel) rfl⟩
theorem fX6_50 : GF RX6 50 9 3 RX9 TX9 := ⟨cfX9, by decide, tt_c1 205 (by decide +kernel) rfl⟩
theorem fX11_167 : GF RX11 167 9 3 RX9 TX9 := ⟨cfX9, by decide, tt_c1 206 (by decide +kernel) rfl⟩
theorem fX9_25 : GF RX9 25 9 4 RX9 TX9 := ⟨cfX9, by decide, tt_c1 207 (by decide +kernel) rfl⟩
theorem fX6_60 : GF RX6 60 9 4 RX9 TX9 := ⟨cfX9, by decide, tt_c1 208 (by decide +kernel) rfl⟩
theorem fX11_170 : GF RX11 170 9 4 RX9 TX9 := ⟨cfX9, by decide, tt_c1 209 (by decide +kernel) rfl⟩
theorem fX9_28 : GF RX9 28 9 5 RX9 TX9 := ⟨cfX9, by decide, tt_c1 210 (by decide +kernel) rfl⟩
theorem fX11_173 : GF RX11 173 9 5 RX9 TX9 := ⟨cfX9, by decide, tt_c1 211 (by decide +kernel) rfl⟩
theorem fX9_31 : GF RX9 31 9 6 RX9 TX9 := ⟨cfX9, by decide, tt_c1 212 (by decide +kernel) rfl⟩
theorem fX11_176 : GF RX11 176 9 6 RX9 TX9 := ⟨cfX9, by decide, tt_c1 213 (by decide +kernel) rfl⟩
theorem fX9_34 : GF RX9 34 9 7 RX9 TX9 := ⟨cfX9, by decide, tt_c1 214 (by decide +kernel) rfl⟩
theorem fX6_124 : GF RX6 124 9 7 RX9 TX9 := ⟨cfX9, by decide, tt_c1 215 (by decide +kernel) rfl⟩
theorem fX11_179 : GF RX11 179 9 7 RX9 TX9 := ⟨cfX9, by decide, tt_c1 216 (by decide +kernel) rfl⟩
theorem fX9_37 : GF RX9 37 9 8 RX9 TX9 := ⟨cfX9, by decide, tt_c1 217 (by decide +kernel) rfl⟩
theorem fX11_296 : GF RX11 296 9 8 RX9 TX9 := ⟨cfX9, by decide, tt_c1 218 (by decide +kernel) rfl⟩
theorem fX9_40 : GF RX9 40 9 9 RX9 TX9 := ⟨cfX9, by decide, tt_c1 219 (by decide +kernel) rfl⟩
theorem fX11_302 : GF RX11 302 9 9 RX9 TX9 := ⟨cfX9, by decide, tt_c1 220 (by decide +kernel) rfl⟩
theorem fX11_9 : GF RX11 9 11 0 RX11 TX11 := ⟨cfX11, by decide, tt_c2 2 (by decide +kernel) rfl⟩
theorem fX11_13 : GF RX11 13 11 1 RX11 TX11 := ⟨cfX11, by decide, tt_c2 3 (by decide +kernel) rfl⟩
theorem fX11_18 : GF RX11 18 11 2 RX11 TX11 := ⟨cfX11, by decide, tt_c2 4 (by decide +kernel) rfl⟩
theorem fX11_21 : GF RX11 21 11 3 RX11 TX11 := ⟨cfX11, by decide, tt_c2 5 (by decide +kernel) rfl⟩
theorem fX11_24 : GF RX11 24 11 4 RX11 TX11 := ⟨cfX11, by decide, tt_c2 6 (by decide +kernel) rfl⟩
theorem fX11_28 : GF RX11 28 11 5 RX11 TX11 := ⟨cfX11, by decide, tt_c2 7 (by decide +kernel) rfl⟩
theorem fX11_31 : GF RX11 31 11 6 RX11 TX11 := ⟨cfX11, by decide, tt_c2 8 (by decide +kernel) rfl⟩
theorem fX11_81 : GF RX11 81 11 7 RX11 TX11 := ⟨cfX11, by decide, tt_c2 9 (by decide +kernel) rfl⟩
theorem fX11_85 : GF RX11 85 11 8 RX11 TX11 := ⟨cfX11, by decide, tt_c2 10 (by decide +kernel) rfl⟩
theorem fX11_88 : GF RX11 88 11 9 RX11 TX11 := ⟨cfX11, by decide, tt_c2 11 (by decide +kernel) rfl⟩
theorem fX11_34 : GF RX11 34 11 10 RX11 TX11 := ⟨cfX11, by decide, tt_c2 12 (by decide +kernel) rfl⟩
theorem fX11_41 : GF RX11 41 11 11 RX11 TX11 := ⟨cfX11, by decide, tt_c2 13 (by decide +kernel) rfl⟩
theorem fX11_45 : GF RX11 45 11 12 RX11 TX11 := ⟨cfX11, by decide, tt_c2 14 (by decide +kernel) rfl⟩
theorem fX11_51 : GF RX11 51 11 13 RX11 TX11 := ⟨cfX11, by decide, tt_c2 15 (by decide +kernel) rfl⟩
set_option maxRecDepth 100000 in
theorem lL_13 : LV "PaintedOverLaw" 13 RX11 yX11_row cX11_row 5 (some .int) 3 := ⟨tt_c2 45 (by decide +kernel) rfl, tt_c2 46 (by decide +kernel) rfl, tt_c2 47 (by decide +kernel) rfl, tt_c1 1 (by decide +kernel) rfl, tt_c2 48 rfl rfl, by decide, by decide +kernel⟩
set_option maxRecDepth 100000 in
theorem lX11_91 : LSt RX11 91 yX11_outside cX11_outside 2 (some .boolean) 2 := ⟨tt_c2 49 (by decide +kernel) rfl, tt_c2 50 (by decide +kernel) rfl, tt_c1 1 (by decide +kernel) rfl, tt_c2 51 rfl rfl, by decide, by decide +kernel⟩
set_option maxRecDepth 100000 in
theorem lX11_95 : LV RX11 95 RX11 yX11_refuse cX11_refuse 2 (some .int) 1 := ⟨tt_c2 52 (by decide +kernel) rfl, tt_c2 54 (by decide +kernel) rfl, tt_in 0 (by decide +kernel) rfl, tt_c1 1 (by decide +kernel) rfl, tt_c2 55 rfl rfl, by decide, by decide +kernel⟩
set_option maxRecDepth 100000 in
theorem lX11_221 : LV RX11 221 RX11 yX11_refuseDown cX11_refuseDown 3 (some .int) 2 := ⟨tt_c2 56 (by decide +kernel) rfl, tt_c2 58 (by decide +kernel) rfl, tt_in 1 (by decide +kernel) rfl, tt_c1 1 (by decide +kernel) rfl, tt_c2 59 rfl rfl, by decide, by decide +kernel⟩
set_option maxRecDepth 100000 in
theorem lL_20 : LV "PaintedOverLaw" 20 RX11 yX11_set cX11_set 6 (some .int) 3 := ⟨tt_c2 60 (by decide +kernel) rfl, tt_c2 61 (by decide +kernel) rfl, tt_c2 62 (by decide +kernel) rfl, tt_c1 1 (by decide +kernel) rfl, tt_c2 63 rfl rfl, by decide, by decide +kernel⟩
set_option maxRecDepth 100000 in
theorem lX11_99 : LV RX11 99 RX11 yX11_rowTrouble cX11_rowTrouble 2 (some .int) 1 := ⟨tt_c2 64 (by decide +kernel) rfl, tt_c2 66 (by decide +kernel) rfl, tt_in 2 (by decide +kernel) rfl, tt_c1 1 (by decide +kernel) rfl, tt_c2 67 rfl rfl, by decide, by decide +kernel⟩
set_option maxRecDepth 100000 in
theorem lX11_106 : LV RX11 106 RX11 yX11_holdsHouse cX11_holdsHouse 2 (some .boolean) 1 := ⟨tt_c2 68 (by decide +kernel) rfl, tt_c2 70 (by decide +kernel) rfl, tt_in 3 (by decide +kernel) rfl, tt_c1 1 (by decide +kernel) rfl, tt_c2 71 rfl rfl, by decide, by decide +kernel⟩
set_option maxRecDepth 100000 in
theorem lX11_110 : LV RX11 110 RX11 yX11_holdsRow cX11_holdsRow 2 (some .boolean) 1 := ⟨tt_c2 72 (by decide +kernel) rfl, tt_c2 74 (by decide +kernel) rfl, tt_in 4 (by decide +kernel) rfl, tt_c1 1 (by decide +kernel) rfl, tt_c2 75 rfl rfl, by decide, by decide +kernel⟩
set_option maxRecDepth 100000 in
theorem lX11_102 : LSt RX11 102 yX11_lowestBits cX11_lowestBits 3 (some .long) 2 := ⟨tt_c2 76 (by decide +kernel) rfl, tt_c2 77 (by decide +kernel) rfl, tt_c1 1 (by decide +kernel) rfl, tt_c2 78 rfl rfl, by decide, by decide +kernel⟩
set_option maxRecDepth 100000 in
theorem lL_25 : LV "PaintedOverLaw" 25 RX11 yX11_copy cX11_copy 6 (some .int) 5 := ⟨tt_c2 79 (by decide +kernel) rfl, tt_c2 80 (by decide +kernel) rfl, tt_c2 81 (by decide +kernel) rfl, tt_c1 1 (by decide +kernel) rfl, tt_c2 82 rfl rfl, by decide, by decide +kernel⟩
set_option maxRecDepth 100000 in
theorem lX11_113 : LV RX11 113 RX11 yX11_noSuchPart cX11_noSuchPart 4 (some .boolean) 3 := ⟨tt_c2 83 (by decide +kernel) rfl, tt_c2 85 (by decide +kernel) rfl, tt_in 5 (by decide +kernel) rfl, tt_c1 1 (by decide +kernel) rfl, tt_c2 86 rfl rfl, by decide, by decide +kernel⟩
set_option maxRecDepth 100000 in
theorem lL_30 : LV "PaintedOverLaw" 30 RX11 yX11_element cX11_element 3 (some .long) 2 := ⟨tt_c2 90 (by decide +kernel) rfl, tt_c2 91 (by decide +kernel) rfl, tt_c2 92 (by decide +kernel) rfl, tt_c1 1 (by decide +kernel) rfl, tt_c2 93 rfl rfl, by decide, by decide +kernel⟩
set_option maxRecDepth 100000 in
theorem lL_35 : LV "PaintedOverLaw" 35 RX11 yX11_show cX11_show 3 (some .int) 2 := ⟨tt_c2 94 (by decide +kernel) rfl, tt_c2 95 (by decide +kernel) rfl, tt_c2 96 (by decide +kernel) rfl, tt_c1 1 (by decide +kernel) rfl, tt_c2 97 rfl rfl, by decide, by decide +kernel⟩
set_option maxRecDepth 100000 in
theorem lX11_123 : LV RX11 123 RX11 yX11_noHouse cX11_noHouse 2 (some .boolean) 1 := ⟨tt_c2 98 (by decide +kernel) rfl, tt_c2 100 (by decide +kernel) rfl, tt_in 6 (by decide +kernel) rfl, tt_c1 1 (by decide +kernel) rfl, tt_c2 101 rfl rfl, by decide, by decide +kernel⟩
set_option maxRecDepth 100000 in
theorem lL_40 : LV "PaintedOverLaw" 40 RX11 yX11_holds cX11_holds 2 (some .int) 1 := ⟨tt_c2 102 (by decide +kernel) rfl, tt_c2 103 (by decide +kernel) rfl, tt_c2 104 (by decide +kernel) rfl, tt_c1 1 (by decide +kernel) rfl, tt_c2 105 rfl rfl, by decide, by decide +kernel⟩
set_option maxRecDepth 100000 in
theorem lL_45 : LV "PaintedOverLaw" 45 RX11 yX11_says cX11_says 4 (some .int) 2 := ⟨tt_c2 106 (by decide +kernel) rfl, tt_c2 107 (by decide +kernel) rfl, tt_c2 108 (by decide +kernel) rfl, tt_c1 1 (by decide +kernel) rfl, tt_c2 109 rfl rfl, by decide, by decide +kernel⟩
set_option maxRecDepth 100000 in
theorem lX11_136 : LSt RX11 136 yX11_isOf cX11_isOf 2 (some .boolean) 2 := ⟨tt_c2 110 (by decide +kernel) rfl, tt_c2 111 (by decide +kernel) rfl, tt_c1 1 (by decide +kernel) rfl, tt_c2 112 rfl rfl, by decide, by decide +kernel⟩
set_option maxRecDepth 100000 in
theorem lX11_140 : LV RX11 140 RX11 yX11_saidBy cX11_saidBy 3 (some .int) 2 := ⟨tt_c2 113 (by decide +kernel) rfl, tt_c2 115 (by decide +kernel) rfl, tt_in 7 (by decide +kernel) rfl, tt_c1 1 (by decide +kernel) rfl, tt_c2 116 rfl rfl, by decide, by decide +kernel⟩
set_option maxRecDepth 100000 in
theorem lX11_231 : LV RX11 231 RX3 yX3_wetness cX3_wetness 3 (some .int) 2 := ⟨tt_c2 117 (by decide +kernel) rfl, tt_c2 118 (by decide +kernel) rfl, tt_c2 119 (by decide +kernel) rfl, tt_c1 12 (by decide +kernel) rfl, tt_c2 120 rfl rfl, by decide, by decide +kernel⟩
set_option maxRecDepth 100000 in
theorem lX3_67 : LV RX3 67 RX4 yX4_wetness cX4_wetness 4 (some .int) 3 := ⟨tt_c2 121 (by decide +kernel) rfl, tt_c2 122 (by decide +kernel) rfl, tt_c2 123 (by decide +kernel) rfl, tt_c1 4 (by decide +kernel) rfl, tt_c2 136 rfl rfl, by decide, by decide +kernel⟩
set_option maxRecDepth 100000 in
theorem lX3_67_X0 : LU RX3 67 RX0 "PaintedOver$Kind" yX4_wetness yX4_wetness cX4_wetness 4 (some .int) 3 := ⟨⟨tt_c2 121 (by decide +kernel) rfl, tt_c2 124 (by decide +kernel) rfl, tt_c2 125 (by decide +kernel) rfl, tt_c2 122 (by decide +kernel) rfl, tt_c1 4 (by decide +kernel) rfl, tt_c2 136 rfl rfl, by decide⟩, Or.inl rfl, by decide +kernel⟩
set_option maxRecDepth 100000 in
theorem lX3_67_X1 : LU RX3 67 RX1 "PaintedOver$Kind" yX4_wetness yX1_wetness cX1_wetness 5 (some .int) 3 := ⟨⟨tt_c2 121 (by decide +kernel) rfl, tt_c2 124 (by decide +kernel) rfl, tt_c2 126 (by decide +kernel) rfl, tt_c2 127 (by decide +kernel) rfl, tt_c1 7 (by decide +kernel) rfl, tt_c2 128 rfl rfl, by decide⟩, Or.inr ⟨tt_c2 122 (by decide +kernel) rfl, cX4_wetness, 4, (some .int), tt_c2 136 rfl rfl⟩, by decide +kernel⟩
set_option maxRecDepth 100000 in
theorem lX3_67_X2 : LU RX3 67 RX2 "PaintedOver$Kind" yX4_wetness yX2_wetness cX2_wetness 4 (some .int) 3 := ⟨⟨tt_c2 121 (by decide +kernel) rfl, tt_c2 124 (by decide +kernel) rfl, tt_c2 132 (by decide +kernel) rfl, tt_c2 130 (by decide +kernel) rfl, tt_c1 5 (by decide +kernel) rfl, tt_c2 131 rfl rfl, by decide⟩, Or.inr ⟨tt_c2 122 (by decide +kernel) rfl, cX4_wetness, 4, (some .int), tt_c2 136 rfl rfl⟩, by decide +kernel⟩
set_option maxRecDepth 100000 in
theorem lX3_67_X5 : LU RX3 67 RX5 "PaintedOver$Kind" yX4_wetness yX4_wetness cX4_wetness 4 (some .int) 3 := ⟨⟨tt_c2 121 (by decide +kernel) rfl, tt_c2 124 (by decide +kernel) rfl, tt_c2 133 (by decide +kernel) rfl, tt_c2 122 (by decide +kernel) rfl, tt_c1 4 (by decide +kernel) rfl, tt_c2 136 rfl rfl, by decide⟩, Or.inl rfl, by decide +kernel⟩
set_option maxRecDepth 100000 in
theorem lX3_67_X7 : LU RX3 67 RX7 "PaintedOver$Kind" yX4_wetness yX4_wetness cX4_wetness 4 (some .int) 3 := ⟨⟨tt_c2 121 (by decide +kernel) rfl, tt_c2 124 (by decide +kernel) rfl, tt_c2 134 (by decide +kernel) rfl, tt_c2 122 (by decide +kernel) rfl, tt_c1 4 (by decide +kernel) rfl, tt_c2 136 rfl rfl, by decide⟩, Or.inl rfl, by decide +kernel⟩
set_option maxRecDepth 100000 in
theorem lX3_67_X8 : LU RX3 67 RX8 "PaintedOver$Kind" yX4_wetness yX4_wetness cX4_wetness 4 (some .int) 3 := ⟨⟨tt_c2 121 (by decide +kernel) rfl, tt_c2 124 (by decide +kernel) rfl, tt_c2 135 (by decide +kernel) rfl, tt_c2 122 (by decide +kernel) rfl, tt_c1 4 (by decide +kernel) rfl, tt_c2 136 rfl rfl, by decide⟩, Or.inl rfl, by decide +kernel⟩
set_option maxRecDepth 100000 in
theorem lX1_9 : LSU RX1 9 yX2_wetness cX2_wetness 4 (some .int) 3 := ⟨tt_c2 129 (by decide +kernel) rfl, tt_c6 183 (by decide +kernel) rfl, tt_c1 115 (by decide +kernel) rfl, tt_c2 130 (by decide +kernel) rfl, tt_c1 5 (by decide +kernel) rfl, tt_c2 131 rfl rfl, by decide, by decide +kernel⟩
set_option maxRecDepth 100000 in
theorem lX11_330 : LV RX11 330 RX3 yX3_hardness cX3_hardness 3 (some .int) 2 := ⟨tt_c2 137 (by decide +kernel) rfl, tt_c2 138 (by decide +kernel) rfl, tt_c2 139 (by decide +kernel) rfl, tt_c1 12 (by decide +kernel) rfl, tt_c2 140 rfl rfl, by decide, by decide +kernel⟩
set_option maxRecDepth 100000 in
theorem lX3_73 : LV RX3 73 RX4 yX4_hardness cX4_hardness 4 (some .int) 3 := ⟨tt_c2 141 (by decide +kernel) rfl, tt_c2 142 (by decide +kernel) rfl, tt_c2 143 (by decide +kernel) rfl, tt_c1 4 (by decide +kernel) rfl, tt_c2 159 rfl rfl, by decide, by decide +kernel⟩
set_option maxRecDepth 100000 in
theorem lX3_73_X0 : LU RX3 73 RX0 "PaintedOver$Kind" yX4_hardness yX0_hardness cX0_hardness 4 (some .int) 3 := ⟨⟨tt_c2 141 (by decide +kernel) rfl, tt_c2 144 (by decide +kernel) rfl, tt_c2 145 (by decide +kernel) rfl, tt_c2 146 (by decide +kernel) rfl, tt_c1 10 (by decide +kernel) rfl, tt_c2 147 rfl rfl, by decide⟩, Or.inr ⟨tt_c2 142 (by decide +kernel) rfl, cX4_hardness, 4, (some .int), tt_c2 159 rfl rfl⟩, by decide +kernel⟩
set_option maxRecDepth 100000 in
theorem lX3_73_X1 : LU RX3 73 RX1 "PaintedOver$Kind" yX4_hardness yX4_hardness cX4_hardness 4 (some .int) 3 := ⟨⟨tt_c2 141 (by decide +kernel) rfl, tt_c2 144 (by decide +kernel) rfl, tt_c2 151 (by decide +kernel) rfl, tt_c2 142 (by decide +kernel) rfl, tt_c1 4 (by decide +kernel) rfl, tt_c2 159 rfl rfl, by decide⟩, Or.inl rfl, by decide +kernel⟩
set_option maxRecDepth 100000 in
theorem lX3_73_X2 : LU RX3 73 RX2 "PaintedOver$Kind" yX4_hardness yX4_hardness cX4_hardness 4 (some .int) 3 := ⟨⟨tt_c2 141 (by decide +kernel) rfl, tt_c2 144 (by decide +kernel) rfl, tt_c2 152 (by decide +kernel) rfl, tt_c2 142 (by decide +kernel) rfl, tt_c1 4 (by decide +kernel) rfl, tt_c2 159 rfl rfl, by decide⟩, Or.inl rfl, by decide +kernel⟩
set_option maxRecDepth 100000 in
theorem lX3_73_X5 : LU RX3 73 RX5 "PaintedOver$Kind" yX4_hardness yX5_hardness cX5_hardness 4 (some .int) 3 := ⟨⟨tt_c2 141 (by decide +kernel) rfl, tt_c2 144 (by decide +kernel) rfl, tt_c2 153 (by decide +kernel) rfl, tt_c2 149 (by decide +kernel) rfl, tt_c1 6 (by decide +kernel) rfl, tt_c2 150 rfl rfl, by decide⟩, Or.inr ⟨tt_c2 142 (by decide +kernel) rfl, cX4_hardness, 4, (some .int), tt_c2 159 rfl rfl⟩, by decide +kernel⟩
set_option maxRecDepth 100000 in
theorem lX3_73_X7 : LU RX3 73 RX7 "PaintedOver$Kind" yX4_hardness yX4_hardness cX4_hardness 4 (some .int) 3 := ⟨⟨tt_c2 141 (by decide +kernel) rfl, tt_c2 144 (by decide +kernel) rfl, tt_c2 154 (by decide +kernel) rfl, tt_c2 142 (by decide +kernel) rfl, tt_c1 4 (by decide +kernel) rfl, tt_c2 159 rfl rfl, by decide⟩, Or.inl rfl, by decide +kernel⟩
set_option maxRecDepth 100000 in
theorem lX3_73_X8 : LU RX3 73 RX8 "PaintedOver$Kind" yX4_hardness yX8_hardness cX8_hardness 4 (some .int) 3 := ⟨⟨tt_c2 141 (by decide +kernel) rfl, tt_c2 144 (by decide +kernel) rfl, tt_c2 155 (by decide +kernel) rfl, tt_c2 156 (by decide +kernel) rfl, tt_c1 9 (by decide +kernel) rfl, tt_c2 157 rfl rfl, by decide⟩, Or.inr ⟨tt_c2 142 (by decide +kernel) rfl, cX4_hardness, 4, (some .int), tt_c2 159 rfl rfl⟩, by decide +kernel⟩
set_option maxRecDepth 100000 in
theorem lX0_7 : LSU RX0 7 yX5_hardness cX5_hardness 4 (some .int) 3 := ⟨tt_c2 148 (by decide +kernel) rfl, tt_c6 184 (by decide +kernel) rfl, tt_c1 136 (by decide +kernel) rfl, tt_c2 149 (by decide +kernel) rfl, tt_c1 6 (by decide +kernel) rfl, tt_c2 150 rfl rfl, by decide, by decide +kernel⟩
set_option maxRecDepth 100000 in
theorem lX8_9 : LSU RX8 9 yX5_hardness cX5_hardness 4 (some .int) 3 := ⟨tt_c2 158 (by decide +kernel) rfl, tt_c6 184 (by decide +kernel) rfl, tt_c1 129 (by decide +kernel) rfl, tt_c2 149 (by decide +kernel) rfl, tt_c1 6 (by decide +kernel) rfl, tt_c2 150 rfl rfl, by decide, by decide +kernel⟩
set_option maxRecDepth 100000 in
theorem lX11_333 : LV RX11 333 RX11 yX11_strengthOfHighest cX11_strengthOfHighest 3 (some .int) 1 := ⟨tt_c2 160 (by decide +kernel) rfl, tt_c2 162 (by decide +kernel) rfl, tt_in 8 (by decide +kernel) rfl, tt_c1 1 (by decide +kernel) rfl, tt_c2 163 rfl rfl, by decide, by decide +kernel⟩
set_option maxRecDepth 100000 in
theorem lX11_203 : LV RX11 203 RX9 yX9_strength cX9_strength 4 (some .int) 3 := ⟨tt_c2 164 (by decide +kernel) rfl, tt_c2 165 (by decide +kernel) rfl, tt_c2 166 (by decide +kernel) rfl, tt_c1 11 (by decide +kernel) rfl, tt_c2 167 rfl rfl, by decide, by decide +kernel⟩
set_option maxRecDepth 100000 in
theorem lX9_80 : LV RX9 80 RX4 yX4_counted cX4_counted 2 (some .int) 1 := ⟨tt_c2 168 (by decide +kernel) rfl, tt_c2 169 (by decide +kernel) rfl, tt_c2 170 (by decide +kernel) rfl, tt_c1 4 (by decide +kernel) rfl, tt_c2 180 rfl rfl, by decide, by decide +kernel⟩
set_option maxRecDepth 100000 in
theorem lX9_80_X0 : LU RX9 80 RX0 "PaintedOver$Kind" yX4_counted yX4_counted cX4_counted 2 (some .int) 1 := ⟨⟨tt_c2 168 (by decide +kernel) rfl, tt_c2 171 (by decide +kernel) rfl, tt_c2 172 (by decide +kernel) rfl, tt_c2 169 (by decide +kernel) rfl, tt_c1 4 (by decide +kernel) rfl, tt_c2 180 rfl rfl, by decide⟩, Or.inl rfl, by decide +kernel⟩
set_option maxRecDepth 100000 in
theorem lX9_80_X1 : LU RX9 80 RX1 "PaintedOver$Kind" yX4_counted yX4_counted cX4_counted 2 (some .int) 1 := ⟨⟨tt_c2 168 (by decide +kernel) rfl, tt_c2 171 (by decide +kernel) rfl, tt_c2 173 (by decide +kernel) rfl, tt_c2 169 (by decide +kernel) rfl, tt_c1 4 (by decide +kernel) rfl, tt_c2 180 rfl rfl, by decide⟩, Or.inl rfl, by decide +kernel⟩
set_option maxRecDepth 100000 in
theorem lX9_80_X2 : LU RX9 80 RX2 "PaintedOver$Kind" yX4_counted yX4_counted cX4_counted 2 (some .int) 1 := ⟨⟨tt_c2 168 (by decide +kernel) rfl, tt_c2 171 (by decide +kernel) rfl, tt_c2 174 (by decide +kernel) rfl, tt_c2 169 (by decide +kernel) rfl, tt_c1 4 (by decide +kernel) rfl, tt_c2 180 rfl rfl, by decide⟩, Or.inl rfl, by decide +kernel⟩
set_option maxRecDepth 100000 in
theorem lX9_80_X5 : LU RX9 80 RX5 "PaintedOver$Kind" yX4_counted yX4_counted cX4_counted 2 (some .int) 1 := ⟨⟨tt_c2 168 (by decide +kernel) rfl, tt_c2 171 (by decide +kernel) rfl, tt_c2 175 (by decide +kernel) rfl, tt_c2 169 (by decide +kernel) rfl, tt_c1 4 (by decide +kernel) rfl, tt_c2 180 rfl rfl, by decide⟩, Or.inl rfl, by decide +kernel⟩
set_option maxRecDepth 100000 in
theorem lX9_80_X7 : LU RX9 80 RX7 "PaintedOver$Kind" yX4_counted yX7_counted cX7_counted 2 (some .int) 1 := ⟨⟨tt_c2 168 (by decide +kernel) rfl, tt_c2 171 (by decide +kernel) rfl, tt_c2 176 (by decide +kernel) rfl, tt_c2 177 (by decide +kernel) rfl, tt_c1 8 (by decide +kernel) rfl, tt_c2 178 rfl rfl, by decide⟩, Or.inr ⟨tt_c2 169 (by decide +kernel) rfl, cX4_counted, 2, (some .int), tt_c2 180 rfl rfl⟩, by decide +kernel⟩
set_option maxRecDepth 100000 in
theorem lX9_80_X8 : LU RX9 80 RX8 "PaintedOver$Kind" yX4_counted yX4_counted cX4_counted 2 (some .int) 1 := ⟨⟨tt_c2 168 (by decide +kernel) rfl, tt_c2 171 (by decide +kernel) rfl, tt_c2 179 (by decide +kernel) rfl, tt_c2 169 (by decide +kernel) rfl, tt_c1 4 (by decide +kernel) rfl, tt_c2 180 rfl rfl, by decide⟩, Or.inl rfl, by decide +kernel⟩
set_option maxRecDepth 100000 in
theorem lX11_160 : LV RX11 160 RX3 yX3_wholeSkin cX3_wholeSkin 3 (some .int) 0 := ⟨tt_c2 181 (by decide +kernel) rfl, tt_c2 182 (by decide +kernel) rfl, tt_c2 183 (by decide +kernel) rfl, tt_c1 12 (by decide +kernel) rfl, tt_c2 184 rfl rfl, by decide, by decide +kernel⟩
set_option maxRecDepth 100000 in
theorem lX3_58 : LV RX3 58 RX3 yX3_depth cX3_depth 2 (some .int) 1 := ⟨tt_c2 185 (by decide +kernel) rfl, tt_c2 186 (by decide +kernel) rfl, tt_c2 187 (by decide +kernel) rfl, tt_c1 12 (by decide +kernel) rfl, tt_c2 188 rfl rfl, by decide, by decide +kernel⟩
set_option maxRecDepth 100000 in
theorem lX3_54 : LV RX3 54 RX3 yX3_depthFrom cX3_depthFrom 5 (some .int) 2 := ⟨tt_c2 189 (by decide +kernel) rfl, tt_c2 190 (by decide +kernel) rfl, tt_c2 191 (by decide +kernel) rfl, tt_c1 12 (by decide +kernel) rfl, tt_c2 192 rfl rfl, by decide, by decide +kernel⟩
set_option maxRecDepth 100000 in
theorem lX3_50 : LV RX3 50 RX3 yX3_lies cX3_lies 3 (some .boolean) 2 := ⟨tt_c2 193 (by decide +kernel) rfl, tt_c2 194 (by decide +kernel) rfl, tt_c2 195 (by decide +kernel) rfl, tt_c1 12 (by decide +kernel) rfl, tt_c2 196 rfl rfl, by decide, by decide +kernel⟩
set_option maxRecDepth 100000 in
theorem lL_49 : LV "PaintedOverLaw" 49 RX11 yX11_house cX11_house 3 (some .int) 2 := ⟨tt_c2 197 (by decide +kernel) rfl, tt_c2 198 (by decide +kernel) rfl, tt_c2 199 (by decide +kernel) rfl, tt_c1 1 (by decide +kernel) rfl, tt_c2 200 rfl rfl, by decide, by decide +kernel⟩
set_option maxRecDepth 100000 in
theorem lX11_147 : LV RX11 147 RX9 yX9_build cX9_build 4 (some .int) 2 := ⟨tt_c2 201 (by decide +kernel) rfl, tt_c2 202 (by decide +kernel) rfl, tt_c2 203 (by decide +kernel) rfl, tt_c1 11 (by decide +kernel) rfl, tt_c2 204 rfl rfl, by decide, by decide +kernel⟩
set_option maxRecDepth 100000 in
theorem lX9_60 : LSN RX9 60 yX11_outside "PaintedOver" cX11_outside 2 (some .boolean) 2 := ⟨List.mem_filter.mpr ⟨List.mem_of_getElem? (i := 516) (by decide +kernel), rfl⟩, tt_c2 50 (by decide +kernel) rfl, tt_c1 1 (by decide +kernel) rfl, tt_c2 51 rfl rfl, by decide, by decide +kernel⟩
set_option maxRecDepth 100000 in
theorem lX9_64 : LV RX9 64 RX3 yX3_clear cX3_clear 2 none 0 := ⟨tt_c2 206 (by decide +kernel) rfl, tt_c2 207 (by decide +kernel) rfl, tt_c2 208 (by decide +kernel) rfl, tt_c1 12 (by decide +kernel) rfl, tt_c2 209 rfl rfl, by decide, by decide +kernel⟩
set_option maxRecDepth 100000 in
theorem lL_53 : LV "PaintedOverLaw" 53 RX11 yX11_houseOf cX11_houseOf 4 (some .int) 2 := ⟨tt_c2 210 (by decide +kernel) rfl, tt_c2 211 (by decide +kernel) rfl, tt_c2 212 (by decide +kernel) rfl, tt_c1 1 (by decide +kernel) rfl, tt_c2 213 rfl rfl, by decide, by decide +kernel⟩
set_option maxRecDepth 100000 in
theorem lX11_164 : LV RX11 164 RX3 yX3_lived cX3_lived 3 (some .int) 0 := ⟨tt_c2 214 (by decide +kernel) rfl, tt_c2 215 (by decide +kernel) rfl, tt_c2 216 (by decide +kernel) rfl, tt_c1 12 (by decide +kernel) rfl, tt_c2 217 rfl rfl, by decide, by decide +kernel⟩
set_option maxRecDepth 100000 in
theorem lL_57 : LV "PaintedOverLaw" 57 RX11 yX11_colour cX11_colour 6 (some .int) 3 := ⟨tt_c2 218 (by decide +kernel) rfl, tt_c2 219 (by decide +kernel) rfl, tt_c2 220 (by decide +kernel) rfl, tt_c1 1 (by decide +kernel) rfl, tt_c2 221 rfl rfl, by decide, by decide +kernel⟩
set_option maxRecDepth 100000 in
theorem lL_61 : LV "PaintedOverLaw" 61 RX11 yX11_ask cX11_ask 4 (some .int) 2 := ⟨tt_c2 222 (by decide +kernel) rfl, tt_c2 223 (by decide +kernel) rfl, tt_c2 224 (by decide +kernel) rfl, tt_c1 1 (by decide +kernel) rfl, tt_c2 225 rfl rfl, by decide, by decide +kernel⟩
set_option maxRecDepth 100000 in
theorem lL_65 : LV "PaintedOverLaw" 65 RX11 yX11_coat cX11_coat 7 (some .int) 5 := ⟨tt_c2 226 (by decide +kernel) rfl, tt_c2 227 (by decide +kernel) rfl, tt_c2 228 (by decide +kernel) rfl, tt_c1 1 (by decide +kernel) rfl, tt_c2 229 rfl rfl, by decide, by decide +kernel⟩
set_option maxRecDepth 100000 in
theorem lX11_182 : LV RX11 182 RX3 yX3_putOn cX3_putOn 7 (some .int) 5 := ⟨tt_c2 230 (by decide +kernel) rfl, tt_c2 231 (by decide +kernel) rfl, tt_c2 232 (by decide +kernel) rfl, tt_c1 12 (by decide +kernel) rfl, tt_c2 233 rfl rfl, by decide, by decide +kernel⟩
set_option maxRecDepth 100000 in
theorem lL_69 : LV "PaintedOverLaw" 69 RX11 yX11_coatOf cX11_coatOf 5 (some .int) 3 := ⟨tt_c2 234 (by decide +kernel) rfl, tt_c2 235 (by decide +kernel) rfl, tt_c2 236 (by decide +kernel) rfl, tt_c1 1 (by decide +kernel) rfl, tt_c2 237 rfl rfl, by decide, by decide +kernel⟩
set_option maxRecDepth 100000 in
theorem lX11_186 : LV RX11 186 RX11 yX11_noCoat cX11_noCoat 3 (some .boolean) 2 := ⟨tt_c2 238 (by decide +kernel) rfl, tt_c3 0 (by decide +kernel) rfl, tt_in 9 (by decide +kernel) rfl, tt_c1 1 (by decide +kernel) rfl, tt_c3 1 rfl rfl, by decide, by decide +kernel⟩
set_option maxRecDepth 100000 in
theorem lX11_207 : LV RX11 207 RX3 yX3_cellsOf cX3_cellsOf 4 (some .int) 1 := ⟨tt_c3 2 (by decide +kernel) rfl, tt_c3 3 (by decide +kernel) rfl, tt_c3 4 (by decide +kernel) rfl, tt_c1 12 (by decide +kernel) rfl, tt_c3 5 rfl rfl, by decide, by decide +kernel⟩
set_option maxRecDepth 100000 in
theorem lL_73 : LV "PaintedOverLaw" 73 RX11 yX11_street cX11_street 5 (some .int) 1 := ⟨tt_c3 6 (by decide +kernel) rfl, tt_c3 7 (by decide +kernel) rfl, tt_c3 8 (by decide +kernel) rfl, tt_c1 1 (by decide +kernel) rfl, tt_c3 9 rfl rfl, by decide, by decide +kernel⟩
set_option maxRecDepth 100000 in
theorem lX11_210 : LV RX11 210 RX9 yX9_become cX9_become 3 none 1 := ⟨tt_c3 10 (by decide +kernel) rfl, tt_c3 11 (by decide +kernel) rfl, tt_c3 12 (by decide +kernel) rfl, tt_c1 11 (by decide +kernel) rfl, tt_c3 13 rfl rfl, by decide, by decide +kernel⟩
set_option maxRecDepth 100000 in
theorem lX9_50 : LV RX9 50 RX3 yX3_become cX3_become 2 none 1 := ⟨tt_c3 14 (by decide +kernel) rfl, tt_c3 15 (by decide +kernel) rfl, tt_c3 16 (by decide +kernel) rfl, tt_c1 12 (by decide +kernel) rfl, tt_c3 17 rfl rfl, by decide, by decide +kernel⟩
set_option maxRecDepth 100000 in
theorem lX11_214 : LV RX11 214 RX6 yX6_readAll cX6_readAll 6 (some .int) 3 := ⟨tt_c3 20 (by decide +kernel) rfl, tt_c3 21 (by decide +kernel) rfl, tt_c3 22 (by decide +kernel) rfl, tt_c1 2 (by decide +kernel) rfl, tt_c3 23 rfl rfl, by decide, by decide +kernel⟩
set_option maxRecDepth 100000 in
theorem lX6_32 : LV RX6 32 RX6 yX6_readItem cX6_readItem 3 none 0 := ⟨tt_c3 24 (by decide +kernel) rfl, tt_c3 26 (by decide +kernel) rfl, tt_in 10 (by decide +kernel) rfl, tt_c1 2 (by decide +kernel) rfl, tt_c3 27 rfl rfl, by decide, by decide +kernel⟩
set_option maxRecDepth 100000 in
theorem lX6_39 : LV RX6 39 RX6 yX6_readWord cX6_readWord 4 (some .int) 0 := ⟨tt_c3 28 (by decide +kernel) rfl, tt_c3 30 (by decide +kernel) rfl, tt_in 11 (by decide +kernel) rfl, tt_c1 2 (by decide +kernel) rfl, tt_c3 31 rfl rfl, by decide, by decide +kernel⟩
set_option maxRecDepth 100000 in
theorem lX6_84 : LSt RX6 84 yX6_word cX6_word 1 (some (.object "java/lang/String")) 1 := ⟨tt_c3 32 (by decide +kernel) rfl, tt_c3 33 (by decide +kernel) rfl, tt_c1 2 (by decide +kernel) rfl, tt_c3 34 rfl rfl, by decide, by decide +kernel⟩
set_option maxRecDepth 100000 in
theorem lX6_88 : LV RX6 88 RX6 yX6_sameLetters cX6_sameLetters 3 (some .int) 1 := ⟨tt_c3 41 (by decide +kernel) rfl, tt_c3 43 (by decide +kernel) rfl, tt_in 12 (by decide +kernel) rfl, tt_c1 2 (by decide +kernel) rfl, tt_c3 44 rfl rfl, by decide, by decide +kernel⟩
set_option maxRecDepth 100000 in
theorem lX6_92 : LV RX6 92 RJ0 yJ0_length_8abf5 cJ0_length_8abf5 1 (some .int) 0 := ⟨tt_c3 45 (by decide +kernel) rfl, tt_c3 46 (by decide +kernel) rfl, tt_c3 47 (by decide +kernel) rfl, tt_c1 16 (by decide +kernel) rfl, tt_c3 48 rfl rfl, by decide, by decide +kernel⟩
set_option maxRecDepth 100000 in
theorem lJ0_335 : LV RJ0 335 RJ0 yJ0_coder_7d493 cJ0_coder_7d493 1 (some .byte) 0 := ⟨tt_c3 49 (by decide +kernel) rfl, tt_c3 50 (by decide +kernel) rfl, tt_c3 51 (by decide +kernel) rfl, tt_c1 16 (by decide +kernel) rfl, tt_c3 52 rfl rfl, by decide, by decide +kernel⟩
set_option maxRecDepth 100000 in
theorem lX6_102 : LV RX6 102 RX6 yX6_elementAt cX6_elementAt 2 (some .int) 1 := ⟨tt_c3 55 (by decide +kernel) rfl, tt_c3 57 (by decide +kernel) rfl, tt_in 13 (by decide +kernel) rfl, tt_c1 2 (by decide +kernel) rfl, tt_c3 58 rfl rfl, by decide, by decide +kernel⟩
set_option maxRecDepth 100000 in
theorem lX6_105 : LV RX6 105 RJ0 yJ0_charAt_5068e cJ0_charAt_5068e 2 (some .char) 1 := ⟨tt_c3 59 (by decide +kernel) rfl, tt_c3 60 (by decide +kernel) rfl, tt_c3 61 (by decide +kernel) rfl, tt_c1 16 (by decide +kernel) rfl, tt_c3 62 rfl rfl, by decide, by decide +kernel⟩
set_option maxRecDepth 100000 in
theorem lJ0_492 : LV RJ0 492 RJ0 yJ0_isLatin1_aae02 cJ0_isLatin1_aae02 1 (some .boolean) 0 := ⟨tt_c3 63 (by decide +kernel) rfl, tt_c3 64 (by decide +kernel) rfl, tt_c3 65 (by decide +kernel) rfl, tt_c1 16 (by decide +kernel) rfl, tt_c3 66 rfl rfl, by decide, by decide +kernel⟩
set_option maxRecDepth 100000 in
theorem lJ0_495 : LSt RJ0 495 yJ1_charAt_3b067 cJ1_charAt_3b067 2 (some .char) 2 := ⟨tt_c3 67 (by decide +kernel) rfl, tt_c3 68 (by decide +kernel) rfl, tt_c1 17 (by decide +kernel) rfl, tt_c3 69 rfl rfl, by decide, by decide +kernel⟩
set_option maxRecDepth 100000 in
theorem lJ1_9 : LSt RJ1 9 yJ0_checkIndex_df160 cJ0_checkIndex_df160 2 none 2 := ⟨tt_c3 70 (by decide +kernel) rfl, tt_c3 71 (by decide +kernel) rfl, tt_c1 16 (by decide +kernel) rfl, tt_c3 72 rfl rfl, by decide, by decide +kernel⟩
set_option maxRecDepth 100000 in
theorem lJ0_1059 : LSt RJ0 1059 yJ3_checkIndex_8e157 cJ3_checkIndex_8e157 3 (some .int) 3 := ⟨tt_c3 75 (by decide +kernel) rfl, tt_c3 76 (by decide +kernel) rfl, tt_c1 18 (by decide +kernel) rfl, tt_c3 77 rfl rfl, by decide, by decide +kernel⟩
set_option maxRecDepth 100000 in
theorem lJ0_498 : LSt RJ0 498 yJ2_charAt_3b067 cJ2_charAt_3b067 2 (some .char) 2 := ⟨tt_c3 78 (by decide +kernel) rfl, tt_c3 79 (by decide +kernel) rfl, tt_c1 19 (by decide +kernel) rfl, tt_c3 80 rfl rfl, by decide, by decide +kernel⟩
set_option maxRecDepth 100000 in
theorem lJ2_67 : LSt RJ2 67 yJ2_checkIndex_2214a cJ2_checkIndex_2214a 2 none 2 := ⟨tt_c3 81 (by decide +kernel) rfl, tt_c3 82 (by decide +kernel) rfl, tt_c1 19 (by decide +kernel) rfl, tt_c3 83 rfl rfl, by decide, by decide +kernel⟩
set_option maxRecDepth 100000 in
theorem lJ2_48 : LSt RJ2 48 yJ2_length_9d52b cJ2_length_9d52b 1 (some .int) 1 := ⟨tt_c3 84 (by decide +kernel) rfl, tt_c3 85 (by decide +kernel) rfl, tt_c1 19 (by decide +kernel) rfl, tt_c3 86 rfl rfl, by decide, by decide +kernel⟩
set_option maxRecDepth 100000 in
theorem lJ2_414 : LSt RJ2 414 yJ0_checkIndex_df160 cJ0_checkIndex_df160 2 none 2 := ⟨tt_c3 87 (by decide +kernel) rfl, tt_c3 71 (by decide +kernel) rfl, tt_c1 16 (by decide +kernel) rfl, tt_c3 72 rfl rfl, by decide, by decide +kernel⟩
set_option maxRecDepth 100000 in
theorem lJ2_71 : LSt RJ2 71 yJ2_getChar_3b067 cJ2_getChar_3b067 2 (some .char) 2 := ⟨tt_c3 88 (by decide +kernel) rfl, tt_c3 89 (by decide +kernel) rfl, tt_c1 19 (by decide +kernel) rfl, tt_c3 90 rfl rfl, by decide, by decide +kernel⟩
set_option maxRecDepth 100000 in
theorem lX6_97 : LSt RX6 97 yJ9_max_7cf53 cJ9_max_7cf53 2 (some .int) 2 := ⟨tt_c3 97 (by decide +kernel) rfl, tt_c3 98 (by decide +kernel) rfl, tt_c1 15 (by decide +kernel) rfl, tt_c3 99 rfl rfl, by decide, by decide +kernel⟩
set_option maxRecDepth 100000 in
theorem lX6_43 : LV RX6 43 RX6 yX6_readHouse cX6_readHouse 4 none 1 := ⟨tt_c3 100 (by decide +kernel) rfl, tt_c3 102 (by decide +kernel) rfl, tt_in 14 (by decide +kernel) rfl, tt_c1 2 (by decide +kernel) rfl, tt_c3 103 rfl rfl, by decide, by decide +kernel⟩
set_option maxRecDepth 100000 in
theorem lX6_63 : LV RX6 63 RX6 yX6_readNumber cX6_readNumber 4 (some .int) 2 := ⟨tt_c3 104 (by decide +kernel) rfl, tt_c3 106 (by decide +kernel) rfl, tt_in 15 (by decide +kernel) rfl, tt_c1 2 (by decide +kernel) rfl, tt_c3 107 rfl rfl, by decide, by decide +kernel⟩
set_option maxRecDepth 100000 in
theorem lX6_35 : LV RX6 35 RX6 yX6_stands cX6_stands 2 (some .boolean) 1 := ⟨tt_c3 108 (by decide +kernel) rfl, tt_c3 110 (by decide +kernel) rfl, tt_in 16 (by decide +kernel) rfl, tt_c1 2 (by decide +kernel) rfl, tt_c3 111 rfl rfl, by decide, by decide +kernel⟩
set_option maxRecDepth 100000 in
theorem lX6_134 : LV RX6 134 RX6 yX6_isDigit cX6_isDigit 3 (some .boolean) 1 := ⟨tt_c3 112 (by decide +kernel) rfl, tt_c3 114 (by decide +kernel) rfl, tt_in 17 (by decide +kernel) rfl, tt_c1 2 (by decide +kernel) rfl, tt_c3 115 rfl rfl, by decide, by decide +kernel⟩
set_option maxRecDepth 100000 in
theorem lX6_112 : LV RX6 112 RX9 yX9_build cX9_build 4 (some .int) 2 := ⟨tt_c3 116 (by decide +kernel) rfl, tt_c2 202 (by decide +kernel) rfl, tt_c2 203 (by decide +kernel) rfl, tt_c1 11 (by decide +kernel) rfl, tt_c2 204 rfl rfl, by decide, by decide +kernel⟩
set_option maxRecDepth 100000 in
theorem lX6_47 : LV RX6 47 RX6 yX6_readCoat cX6_readCoat 6 none 0 := ⟨tt_c3 117 (by decide +kernel) rfl, tt_c3 119 (by decide +kernel) rfl, tt_in 18 (by decide +kernel) rfl, tt_c1 2 (by decide +kernel) rfl, tt_c3 120 rfl rfl, by decide, by decide +kernel⟩
set_option maxRecDepth 100000 in
theorem lX6_127 : LV RX6 127 RX3 yX3_putOn cX3_putOn 7 (some .int) 5 := ⟨tt_c3 121 (by decide +kernel) rfl, tt_c2 231 (by decide +kernel) rfl, tt_c2 232 (by decide +kernel) rfl, tt_c1 12 (by decide +kernel) rfl, tt_c2 233 rfl rfl, by decide, by decide +kernel⟩
set_option maxRecDepth 100000 in
theorem lX6_56 : LV RX6 56 RX6 yX6_readColour cX6_readColour 5 none 2 := ⟨tt_c3 122 (by decide +kernel) rfl, tt_c3 124 (by decide +kernel) rfl, tt_in 19 (by decide +kernel) rfl, tt_c1 2 (by decide +kernel) rfl, tt_c3 125 rfl rfl, by decide, by decide +kernel⟩
set_option maxRecDepth 100000 in
theorem lX6_67 : LV RX6 67 RX9 yX9_hailOnAll cX9_hailOnAll 5 (some .int) 1 := ⟨tt_c3 126 (by decide +kernel) rfl, tt_c3 127 (by decide +kernel) rfl, tt_c3 128 (by decide +kernel) rfl, tt_c1 11 (by decide +kernel) rfl, tt_c3 129 rfl rfl, by decide, by decide +kernel⟩
set_option maxRecDepth 100000 in
theorem lX9_107 : LV RX9 107 RX3 yX3_hailInTruth cX3_hailInTruth 4 (some .int) 2 := ⟨tt_c3 130 (by decide +kernel) rfl, tt_c3 131 (by decide +kernel) rfl, tt_c3 132 (by decide +kernel) rfl, tt_c1 12 (by decide +kernel) rfl, tt_c3 133 rfl rfl, by decide, by decide +kernel⟩
set_option maxRecDepth 100000 in
theorem lX3_78 : LV RX3 78 RX3 yX3_lyingIn cX3_lyingIn 4 (some .int) 1 := ⟨tt_c3 134 (by decide +kernel) rfl, tt_c3 135 (by decide +kernel) rfl, tt_c3 136 (by decide +kernel) rfl, tt_c1 12 (by decide +kernel) rfl, tt_c3 137 rfl rfl, by decide, by decide +kernel⟩
set_option maxRecDepth 100000 in
theorem lX3_81 : LV RX3 81 RX3 yX3_behindHail cX3_behindHail 6 (some .int) 2 := ⟨tt_c3 138 (by decide +kernel) rfl, tt_c3 139 (by decide +kernel) rfl, tt_c3 140 (by decide +kernel) rfl, tt_c1 12 (by decide +kernel) rfl, tt_c3 141 rfl rfl, by decide, by decide +kernel⟩
set_option maxRecDepth 100000 in
theorem lX3_84 : LSt RX3 84 yJ6_bitCount_0f7a4 cJ6_bitCount_0f7a4 1 (some .int) 1 := ⟨tt_c3 142 (by decide +kernel) rfl, tt_c3 143 (by decide +kernel) rfl, tt_c1 20 (by decide +kernel) rfl, tt_c3 144 rfl rfl, by decide, by decide +kernel⟩
set_option maxRecDepth 100000 in
theorem lX6_71 : LV RX6 71 RX6 yX6_readScratch cX6_readScratch 3 none 0 := ⟨tt_c3 148 (by decide +kernel) rfl, tt_c3 150 (by decide +kernel) rfl, tt_in 20 (by decide +kernel) rfl, tt_c1 2 (by decide +kernel) rfl, tt_c3 151 rfl rfl, by decide, by decide +kernel⟩
set_option maxRecDepth 100000 in
theorem lX6_131 : LV RX6 131 RX3 yX3_takeUppermost cX3_takeUppermost 3 (some .int) 1 := ⟨tt_c3 152 (by decide +kernel) rfl, tt_c3 153 (by decide +kernel) rfl, tt_c3 154 (by decide +kernel) rfl, tt_c1 12 (by decide +kernel) rfl, tt_c3 155 rfl rfl, by decide, by decide +kernel⟩
set_option maxRecDepth 100000 in
theorem lL_77 : LV "PaintedOverLaw" 77 RX11 yX11_fault cX11_fault 1 (some .int) 0 := ⟨tt_c3 157 (by decide +kernel) rfl, tt_c3 158 (by decide +kernel) rfl, tt_c3 159 (by decide +kernel) rfl, tt_c1 1 (by decide +kernel) rfl, tt_c3 160 rfl rfl, by decide, by decide +kernel⟩
set_option maxRecDepth 100000 in
theorem lL_82 : LV "PaintedOverLaw" 82 RX11 yX11_seen cX11_seen 5 (some .int) 3 := ⟨tt_c3 161 (by decide +kernel) rfl, tt_c3 162 (by decide +kernel) rfl, tt_c3 163 (by decide +kernel) rfl, tt_c1 1 (by decide +kernel) rfl, tt_c3 164 rfl rfl, by decide, by decide +kernel⟩
set_option maxRecDepth 100000 in
theorem lX11_224 : LV RX11 224 RX3 yX3_lyingIn cX3_lyingIn 4 (some .int) 1 := ⟨tt_c3 165 (by decide +kernel) rfl, tt_c3 135 (by decide +kernel) rfl, tt_c3 136 (by decide +kernel) rfl, tt_c1 12 (by decide +kernel) rfl, tt_c3 137 rfl rfl, by decide, by decide +kernel⟩
set_option maxRecDepth 100000 in
theorem lX11_227 : LV RX11 227 RX9 yX9_seenAmong cX9_seenAmong 8 (some .int) 4 := ⟨tt_c3 166 (by decide +kernel) rfl, tt_c3 167 (by decide +kernel) rfl, tt_c3 168 (by decide +kernel) rfl, tt_c1 11 (by decide +kernel) rfl, tt_c3 169 rfl rfl, by decide, by decide +kernel⟩
set_option maxRecDepth 100000 in
theorem lX9_86 : LV RX9 86 RX3 yX3_wetness cX3_wetness 3 (some .int) 2 := ⟨tt_c3 170 (by decide +kernel) rfl, tt_c2 118 (by decide +kernel) rfl, tt_c2 119 (by decide +kernel) rfl, tt_c1 12 (by decide +kernel) rfl, tt_c2 120 rfl rfl, by decide, by decide +kernel⟩
set_option maxRecDepth 100000 in
theorem lX9_96 : LV RX9 96 RX9 yX9_strength cX9_strength 4 (some .int) 3 := ⟨tt_c3 171 (by decide +kernel) rfl, tt_c2 165 (by decide +kernel) rfl, tt_c2 166 (by decide +kernel) rfl, tt_c1 11 (by decide +kernel) rfl, tt_c2 167 rfl rfl, by decide, by decide +kernel⟩
set_option maxRecDepth 100000 in
theorem lL_86 : LV "PaintedOverLaw" 86 RX11 yX11_wet cX11_wet 4 (some .int) 3 := ⟨tt_c3 172 (by decide +kernel) rfl, tt_c3 173 (by decide +kernel) rfl, tt_c3 174 (by decide +kernel) rfl, tt_c1 1 (by decide +kernel) rfl, tt_c3 175 rfl rfl, by decide, by decide +kernel⟩
set_option maxRecDepth 100000 in
theorem lL_90 : LV "PaintedOverLaw" 90 RX11 yX11_deep cX11_deep 3 (some .int) 2 := ⟨tt_c3 176 (by decide +kernel) rfl, tt_c3 177 (by decide +kernel) rfl, tt_c3 178 (by decide +kernel) rfl, tt_c1 1 (by decide +kernel) rfl, tt_c3 179 rfl rfl, by decide, by decide +kernel⟩
set_option maxRecDepth 100000 in
theorem lX11_234 : LV RX11 234 RX3 yX3_depth cX3_depth 2 (some .int) 1 := ⟨tt_c3 180 (by decide +kernel) rfl, tt_c2 186 (by decide +kernel) rfl, tt_c2 187 (by decide +kernel) rfl, tt_c1 12 (by decide +kernel) rfl, tt_c2 188 rfl rfl, by decide, by decide +kernel⟩
set_option maxRecDepth 100000 in
theorem lL_94 : LV "PaintedOverLaw" 94 RX11 yX11_skin cX11_skin 2 (some .int) 1 := ⟨tt_c3 181 (by decide +kernel) rfl, tt_c3 182 (by decide +kernel) rfl, tt_c3 183 (by decide +kernel) rfl, tt_c1 1 (by decide +kernel) rfl, tt_c3 184 rfl rfl, by decide, by decide +kernel⟩
set_option maxRecDepth 100000 in
theorem lL_98 : LV "PaintedOverLaw" 98 RX11 yX11_hailed cX11_hailed 4 (some .int) 3 := ⟨tt_c3 185 (by decide +kernel) rfl, tt_c3 186 (by decide +kernel) rfl, tt_c3 187 (by decide +kernel) rfl, tt_c1 1 (by decide +kernel) rfl, tt_c3 188 rfl rfl, by decide, by decide +kernel⟩
set_option maxRecDepth 100000 in
theorem lX11_237 : LV RX11 237 RX3 yX3_behindHail cX3_behindHail 6 (some .int) 2 := ⟨tt_c3 189 (by decide +kernel) rfl, tt_c3 139 (by decide +kernel) rfl, tt_c3 140 (by decide +kernel) rfl, tt_c1 12 (by decide +kernel) rfl, tt_c3 141 rfl rfl, by decide, by decide +kernel⟩
set_option maxRecDepth 100000 in
theorem lL_102 : LV "PaintedOverLaw" 102 RX11 yX11_razor cX11_razor 9 (some .int) 3 := ⟨tt_c3 190 (by decide +kernel) rfl, tt_c3 191 (by decide +kernel) rfl, tt_c3 192 (by decide +kernel) rfl, tt_c1 1 (by decide +kernel) rfl, tt_c3 193 rfl rfl, by decide, by decide +kernel⟩
set_option maxRecDepth 100000 in
theorem lX11_240 : LV RX11 240 RX3 yX3_lies cX3_lies 3 (some .boolean) 2 := ⟨tt_c3 194 (by decide +kernel) rfl, tt_c2 194 (by decide +kernel) rfl, tt_c2 195 (by decide +kernel) rfl, tt_c1 12 (by decide +kernel) rfl, tt_c2 196 rfl rfl, by decide, by decide +kernel⟩
set_option maxRecDepth 100000 in
theorem lX11_243 : LV RX11 243 RX3 yX3_depthFrom cX3_depthFrom 5 (some .int) 2 := ⟨tt_c3 195 (by decide +kernel) rfl, tt_c2 190 (by decide +kernel) rfl, tt_c2 191 (by decide +kernel) rfl, tt_c1 12 (by decide +kernel) rfl, tt_c2 192 rfl rfl, by decide, by decide +kernel⟩
set_option maxRecDepth 100000 in
theorem lL_106 : LV "PaintedOverLaw" 106 RX11 yX11_hidden cX11_hidden 4 (some .int) 2 := ⟨tt_c3 196 (by decide +kernel) rfl, tt_c3 197 (by decide +kernel) rfl, tt_c3 198 (by decide +kernel) rfl, tt_c1 1 (by decide +kernel) rfl, tt_c3 199 rfl rfl, by decide, by decide +kernel⟩
set_option maxRecDepth 100000 in
theorem lX11_246 : LV RX11 246 RX9 yX9_seenSomewhere cX9_seenSomewhere 6 (some .int) 2 := ⟨tt_c3 200 (by decide +kernel) rfl, tt_c3 201 (by decide +kernel) rfl, tt_c3 202 (by decide +kernel) rfl, tt_c1 11 (by decide +kernel) rfl, tt_c3 203 rfl rfl, by decide, by decide +kernel⟩
set_option maxRecDepth 100000 in
theorem lX9_100 : LV RX9 100 RX3 yX3_lyingIn cX3_lyingIn 4 (some .int) 1 := ⟨tt_c3 204 (by decide +kernel) rfl, tt_c3 135 (by decide +kernel) rfl, tt_c3 136 (by decide +kernel) rfl, tt_c1 12 (by decide +kernel) rfl, tt_c3 137 rfl rfl, by decide, by decide +kernel⟩
set_option maxRecDepth 100000 in
theorem lX9_103 : LV RX9 103 RX9 yX9_seenAmong cX9_seenAmong 8 (some .int) 4 := ⟨tt_c3 205 (by decide +kernel) rfl, tt_c3 167 (by decide +kernel) rfl, tt_c3 168 (by decide +kernel) rfl, tt_c1 11 (by decide +kernel) rfl, tt_c3 169 rfl rfl, by decide, by decide +kernel⟩
set_option maxRecDepth 100000 in
theorem lL_110 : LV "PaintedOverLaw" 110 RX11 yX11_shown cX11_shown 7 (some .int) 2 := ⟨tt_c3 206 (by decide +kernel) rfl, tt_c3 207 (by decide +kernel) rfl, tt_c3 208 (by decide +kernel) rfl, tt_c1 1 (by decide +kernel) rfl, tt_c3 209 rfl rfl, by decide, by decide +kernel⟩
set_option maxRecDepth 100000 in
theorem lL_114 : LV "PaintedOverLaw" 114 RX11 yX11_firstWet cX11_firstWet 5 (some .int) 2 := ⟨tt_c3 210 (by decide +kernel) rfl, tt_c3 211 (by decide +kernel) rfl, tt_c3 212 (by decide +kernel) rfl, tt_c1 1 (by decide +kernel) rfl, tt_c3 213 rfl rfl, by decide, by decide +kernel⟩
set_option maxRecDepth 100000 in
theorem lL_118 : LV "PaintedOverLaw" 118 RX11 yX11_paint cX11_paint 5 (some .int) 3 := ⟨tt_c3 214 (by decide +kernel) rfl, tt_c3 215 (by decide +kernel) rfl, tt_c3 216 (by decide +kernel) rfl, tt_c1 1 (by decide +kernel) rfl, tt_c3 217 rfl rfl, by decide, by decide +kernel⟩
set_option maxRecDepth 100000 in
theorem lX11_249 : LV RX11 249 RX3 yX3_wettestBut cX3_wettestBut 5 (some .int) 2 := ⟨tt_c3 218 (by decide +kernel) rfl, tt_c3 219 (by decide +kernel) rfl, tt_c3 220 (by decide +kernel) rfl, tt_c1 12 (by decide +kernel) rfl, tt_c3 221 rfl rfl, by decide, by decide +kernel⟩
set_option maxRecDepth 100000 in
theorem lX3_76 : LV RX3 76 RX3 yX3_wetness cX3_wetness 3 (some .int) 2 := ⟨tt_c3 222 (by decide +kernel) rfl, tt_c2 118 (by decide +kernel) rfl, tt_c2 119 (by decide +kernel) rfl, tt_c1 12 (by decide +kernel) rfl, tt_c2 120 rfl rfl, by decide, by decide +kernel⟩
set_option maxRecDepth 100000 in
theorem lX3_62 : LSt RX3 62 yJ9_max_7cf53 cJ9_max_7cf53 2 (some .int) 2 := ⟨tt_c3 223 (by decide +kernel) rfl, tt_c3 98 (by decide +kernel) rfl, tt_c1 15 (by decide +kernel) rfl, tt_c3 99 rfl rfl, by decide, by decide +kernel⟩
set_option maxRecDepth 100000 in
theorem lX11_252 : LV RX11 252 RX11 yX11_cheapest cX11_cheapest 8 (some .int) 2 := ⟨tt_c3 224 (by decide +kernel) rfl, tt_c3 226 (by decide +kernel) rfl, tt_in 21 (by decide +kernel) rfl, tt_c1 1 (by decide +kernel) rfl, tt_c3 227 rfl rfl, by decide, by decide +kernel⟩
set_option maxRecDepth 100000 in
theorem lL_122 : LV "PaintedOverLaw" 122 RX11 yX11_gap cX11_gap 9 (some .int) 2 := ⟨tt_c3 228 (by decide +kernel) rfl, tt_c3 229 (by decide +kernel) rfl, tt_c3 230 (by decide +kernel) rfl, tt_c1 1 (by decide +kernel) rfl, tt_c3 231 rfl rfl, by decide, by decide +kernel⟩
set_option maxRecDepth 100000 in
theorem lL_126 : LV "PaintedOverLaw" 126 RX11 yX11_moves cX11_moves 7 (some .int) 2 := ⟨tt_c3 232 (by decide +kernel) rfl, tt_c3 233 (by decide +kernel) rfl, tt_c3 234 (by decide +kernel) rfl, tt_c1 1 (by decide +kernel) rfl, tt_c3 235 rfl rfl, by decide, by decide +kernel⟩
set_option maxRecDepth 100000 in
theorem lX11_255 : LV RX11 255 RX3 yX3_coatsOf cX3_coatsOf 4 (some .int) 1 := ⟨tt_c3 236 (by decide +kernel) rfl, tt_c3 237 (by decide +kernel) rfl, tt_c3 238 (by decide +kernel) rfl, tt_c1 12 (by decide +kernel) rfl, tt_c3 239 rfl rfl, by decide, by decide +kernel⟩
set_option maxRecDepth 100000 in
theorem lL_130 : LV "PaintedOverLaw" 130 RX11 yX11_orders cX11_orders 6 (some .int) 3 := ⟨tt_c4 0 (by decide +kernel) rfl, tt_c4 1 (by decide +kernel) rfl, tt_c4 2 (by decide +kernel) rfl, tt_c1 1 (by decide +kernel) rfl, tt_c4 3 rfl rfl, by decide, by decide +kernel⟩
set_option maxRecDepth 100000 in
theorem lX11_258 : LV RX11 258 RX11 yX11_pairsTrouble cX11_pairsTrouble 6 (some .int) 3 := ⟨tt_c4 4 (by decide +kernel) rfl, tt_c4 6 (by decide +kernel) rfl, tt_in 22 (by decide +kernel) rfl, tt_c1 1 (by decide +kernel) rfl, tt_c4 7 rfl rfl, by decide, by decide +kernel⟩
set_option maxRecDepth 100000 in
theorem lX11_337 : LSt RX11 337 yX11_isPair cX11_isPair 1 (some .boolean) 1 := ⟨tt_c4 8 (by decide +kernel) rfl, tt_c4 9 (by decide +kernel) rfl, tt_c1 1 (by decide +kernel) rfl, tt_c4 10 rfl rfl, by decide, by decide +kernel⟩
set_option maxRecDepth 100000 in
theorem lX11_262 : LV RX11 262 RX11 yX11_forgetPairs cX11_forgetPairs 2 none 0 := ⟨tt_c4 11 (by decide +kernel) rfl, tt_c4 13 (by decide +kernel) rfl, tt_in 23 (by decide +kernel) rfl, tt_c1 1 (by decide +kernel) rfl, tt_c4 14 rfl rfl, by decide, by decide +kernel⟩
set_option maxRecDepth 100000 in
theorem lX11_265 : LV RX11 265 RX11 yX11_addPair cX11_addPair 2 none 1 := ⟨tt_c4 15 (by decide +kernel) rfl, tt_c4 17 (by decide +kernel) rfl, tt_in 24 (by decide +kernel) rfl, tt_c1 1 (by decide +kernel) rfl, tt_c4 18 rfl rfl, by decide, by decide +kernel⟩
set_option maxRecDepth 100000 in
theorem lX11_269 : LV RX11 269 RX11 yX11_countOrders cX11_countOrders 3 (some .int) 0 := ⟨tt_c4 19 (by decide +kernel) rfl, tt_c4 21 (by decide +kernel) rfl, tt_in 25 (by decide +kernel) rfl, tt_c1 1 (by decide +kernel) rfl, tt_c4 22 rfl rfl, by decide, by decide +kernel⟩
set_option maxRecDepth 100000 in
theorem lX11_340 : LV RX11 340 RX11 yX11_mayComeOn cX11_mayComeOn 3 (some .boolean) 2 := ⟨tt_c4 23 (by decide +kernel) rfl, tt_c4 25 (by decide +kernel) rfl, tt_in 26 (by decide +kernel) rfl, tt_c1 1 (by decide +kernel) rfl, tt_c4 26 rfl rfl, by decide, by decide +kernel⟩
set_option maxRecDepth 100000 in
theorem lX11_272 : LSt RX11 272 yJ6_bitCount_0f7a4 cJ6_bitCount_0f7a4 1 (some .int) 1 := ⟨tt_c4 27 (by decide +kernel) rfl, tt_c3 143 (by decide +kernel) rfl, tt_c1 20 (by decide +kernel) rfl, tt_c3 144 rfl rfl, by decide, by decide +kernel⟩
set_option maxRecDepth 100000 in
theorem lX11_277 : LV RX11 277 RX11 yX11_orderFits cX11_orderFits 4 (some .boolean) 0 := ⟨tt_c4 28 (by decide +kernel) rfl, tt_c4 30 (by decide +kernel) rfl, tt_in 27 (by decide +kernel) rfl, tt_c1 1 (by decide +kernel) rfl, tt_c4 31 rfl rfl, by decide, by decide +kernel⟩
set_option maxRecDepth 100000 in
theorem lX11_343 : LV RX11 343 RX11 yX11_lowestOn cX11_lowestOn 3 (some .int) 1 := ⟨tt_c4 32 (by decide +kernel) rfl, tt_c4 34 (by decide +kernel) rfl, tt_in 28 (by decide +kernel) rfl, tt_c1 1 (by decide +kernel) rfl, tt_c4 35 rfl rfl, by decide, by decide +kernel⟩
set_option maxRecDepth 100000 in
theorem lX11_281 : LV RX11 281 RX11 yX11_inFirstOrder cX11_inFirstOrder 5 (some .int) 1 := ⟨tt_c4 36 (by decide +kernel) rfl, tt_c4 38 (by decide +kernel) rfl, tt_in 29 (by decide +kernel) rfl, tt_c1 1 (by decide +kernel) rfl, tt_c4 39 rfl rfl, by decide, by decide +kernel⟩
set_option maxRecDepth 100000 in
theorem lL_134 : LV "PaintedOverLaw" 134 RX11 yX11_forged cX11_forged 5 (some .int) 2 := ⟨tt_c4 40 (by decide +kernel) rfl, tt_c4 41 (by decide +kernel) rfl, tt_c4 42 (by decide +kernel) rfl, tt_c1 1 (by decide +kernel) rfl, tt_c4 43 rfl rfl, by decide, by decide +kernel⟩
set_option maxRecDepth 100000 in
theorem lL_138 : LV "PaintedOverLaw" 138 RX11 yX11_lane cX11_lane 3 (some .int) 2 := ⟨tt_c4 44 (by decide +kernel) rfl, tt_c4 45 (by decide +kernel) rfl, tt_c4 46 (by decide +kernel) rfl, tt_c1 1 (by decide +kernel) rfl, tt_c4 47 rfl rfl, by decide, by decide +kernel⟩
set_option maxRecDepth 100000 in
theorem lX11_284 : LV RX11 284 RX3 yX3_greatestDepth cX3_greatestDepth 3 (some .int) 0 := ⟨tt_c4 48 (by decide +kernel) rfl, tt_c4 49 (by decide +kernel) rfl, tt_c4 50 (by decide +kernel) rfl, tt_c1 12 (by decide +kernel) rfl, tt_c4 51 rfl rfl, by decide, by decide +kernel⟩
set_option maxRecDepth 100000 in
theorem lL_142 : LV "PaintedOverLaw" 142 RX11 yX11_price cX11_price 8 (some .int) 2 := ⟨tt_c4 52 (by decide +kernel) rfl, tt_c4 53 (by decide +kernel) rfl, tt_c4 54 (by decide +kernel) rfl, tt_c1 1 (by decide +kernel) rfl, tt_c4 55 rfl rfl, by decide, by decide +kernel⟩
set_option maxRecDepth 100000 in
theorem lL_146 : LV "PaintedOverLaw" 146 RX11 yX11_hail cX11_hail 2 (some .int) 1 := ⟨tt_c4 56 (by decide +kernel) rfl, tt_c4 57 (by decide +kernel) rfl, tt_c4 58 (by decide +kernel) rfl, tt_c1 1 (by decide +kernel) rfl, tt_c4 59 rfl rfl, by decide, by decide +kernel⟩
set_option maxRecDepth 100000 in
theorem lX11_287 : LV RX11 287 RX9 yX9_hailOnAll cX9_hailOnAll 5 (some .int) 1 := ⟨tt_c4 60 (by decide +kernel) rfl, tt_c3 127 (by decide +kernel) rfl, tt_c3 128 (by decide +kernel) rfl, tt_c1 11 (by decide +kernel) rfl, tt_c3 129 rfl rfl, by decide, by decide +kernel⟩
set_option maxRecDepth 100000 in
theorem lL_150 : LV "PaintedOverLaw" 150 RX11 yX11_scratch cX11_scratch 4 (some .int) 2 := ⟨tt_c4 61 (by decide +kernel) rfl, tt_c4 62 (by decide +kernel) rfl, tt_c4 63 (by decide +kernel) rfl, tt_c1 1 (by decide +kernel) rfl, tt_c4 64 rfl rfl, by decide, by decide +kernel⟩
set_option maxRecDepth 100000 in
theorem lX11_290 : LV RX11 290 RX3 yX3_takeUppermost cX3_takeUppermost 3 (some .int) 1 := ⟨tt_c4 65 (by decide +kernel) rfl, tt_c3 153 (by decide +kernel) rfl, tt_c3 154 (by decide +kernel) rfl, tt_c1 12 (by decide +kernel) rfl, tt_c3 155 rfl rfl, by decide, by decide +kernel⟩
set_option maxRecDepth 100000 in
theorem lL_154 : LV "PaintedOverLaw" 154 RX11 yX11_falls cX11_falls 1 (some .int) 0 := ⟨tt_c4 66 (by decide +kernel) rfl, tt_c4 67 (by decide +kernel) rfl, tt_c4 68 (by decide +kernel) rfl, tt_c1 1 (by decide +kernel) rfl, tt_c4 69 rfl rfl, by decide, by decide +kernel⟩
set_option maxRecDepth 100000 in
theorem lX11_293 : LV RX11 293 RX9 yX9_letFall cX9_letFall 3 (some .int) 0 := ⟨tt_c4 70 (by decide +kernel) rfl, tt_c4 71 (by decide +kernel) rfl, tt_c4 72 (by decide +kernel) rfl, tt_c1 11 (by decide +kernel) rfl, tt_c4 73 rfl rfl, by decide, by decide +kernel⟩
set_option maxRecDepth 100000 in
theorem lX9_110 : LV RX9 110 RX3 yX3_wholeSkin cX3_wholeSkin 3 (some .int) 0 := ⟨tt_c4 74 (by decide +kernel) rfl, tt_c2 182 (by decide +kernel) rfl, tt_c2 183 (by decide +kernel) rfl, tt_c1 12 (by decide +kernel) rfl, tt_c2 184 rfl rfl, by decide, by decide +kernel⟩
set_option maxRecDepth 100000 in
theorem lL_158 : LV "PaintedOverLaw" 158 RX11 yX11_years cX11_years 4 (some .int) 1 := ⟨tt_c4 75 (by decide +kernel) rfl, tt_c4 76 (by decide +kernel) rfl, tt_c4 77 (by decide +kernel) rfl, tt_c1 1 (by decide +kernel) rfl, tt_c4 78 rfl rfl, by decide, by decide +kernel⟩
set_option maxRecDepth 100000 in
theorem lX11_299 : LV RX11 299 RX9 yX9_passYear cX9_passYear 6 none 0 := ⟨tt_c4 79 (by decide +kernel) rfl, tt_c4 80 (by decide +kernel) rfl, tt_c4 81 (by decide +kernel) rfl, tt_c1 11 (by decide +kernel) rfl, tt_c4 82 rfl rfl, by decide, by decide +kernel⟩
set_option maxRecDepth 100000 in
theorem lX9_115 : LV RX9 115 RX9 yX9_draw cX9_draw 2 (some .int) 1 := ⟨tt_c4 83 (by decide +kernel) rfl, tt_c4 85 (by decide +kernel) rfl, tt_in 30 (by decide +kernel) rfl, tt_c1 11 (by decide +kernel) rfl, tt_c4 86 rfl rfl, by decide, by decide +kernel⟩
set_option maxRecDepth 100000 in
theorem lX9_118 : LV RX9 118 RX3 yX3_putOn cX3_putOn 7 (some .int) 5 := ⟨tt_c4 88 (by decide +kernel) rfl, tt_c2 231 (by decide +kernel) rfl, tt_c2 232 (by decide +kernel) rfl, tt_c1 12 (by decide +kernel) rfl, tt_c2 233 rfl rfl, by decide, by decide +kernel⟩
set_option maxRecDepth 100000 in
theorem lX9_122 : LV RX9 122 RX9 yX9_hailOnAll cX9_hailOnAll 5 (some .int) 1 := ⟨tt_c4 89 (by decide +kernel) rfl, tt_c3 127 (by decide +kernel) rfl, tt_c3 128 (by decide +kernel) rfl, tt_c1 11 (by decide +kernel) rfl, tt_c3 129 rfl rfl, by decide, by decide +kernel⟩
set_option maxRecDepth 100000 in
theorem lX9_125 : LV RX9 125 RX9 yX9_letFall cX9_letFall 3 (some .int) 0 := ⟨tt_c4 90 (by decide +kernel) rfl, tt_c4 71 (by decide +kernel) rfl, tt_c4 72 (by decide +kernel) rfl, tt_c1 11 (by decide +kernel) rfl, tt_c4 73 rfl rfl, by decide, by decide +kernel⟩
set_option maxRecDepth 100000 in
theorem lL_162 : LV "PaintedOverLaw" 162 RX11 yX11_seed cX11_seed 3 (some .int) 1 := ⟨tt_c4 91 (by decide +kernel) rfl, tt_c4 92 (by decide +kernel) rfl, tt_c4 93 (by decide +kernel) rfl, tt_c1 1 (by decide +kernel) rfl, tt_c4 94 rfl rfl, by decide, by decide +kernel⟩
set_option maxRecDepth 100000 in
theorem lL_166 : LV "PaintedOverLaw" 166 RX11 yX11_act cX11_act 5 (some .int) 3 := ⟨tt_c4 95 (by decide +kernel) rfl, tt_c4 96 (by decide +kernel) rfl, tt_c4 97 (by decide +kernel) rfl, tt_c1 1 (by decide +kernel) rfl, tt_c4 98 rfl rfl, by decide, by decide +kernel⟩
set_option maxRecDepth 100000 in
theorem lX11_314 : LV RX11 314 RX4 yX4_actPaints cX4_actPaints 3 (some .int) 2 := ⟨tt_c4 99 (by decide +kernel) rfl, tt_c4 100 (by decide +kernel) rfl, tt_c4 101 (by decide +kernel) rfl, tt_c1 4 (by decide +kernel) rfl, tt_c4 126 rfl rfl, by decide, by decide +kernel⟩
set_option maxRecDepth 100000 in
theorem lX11_314_X0 : LU RX11 314 RX0 "PaintedOver$Kind" yX4_actPaints yX0_actPaints cX0_actPaints 3 (some .int) 2 := ⟨⟨tt_c4 99 (by decide +kernel) rfl, tt_c4 102 (by decide +kernel) rfl, tt_c4 103 (by decide +kernel) rfl, tt_c4 104 (by decide +kernel) rfl, tt_c1 10 (by decide +kernel) rfl, tt_c4 105 rfl rfl, by decide⟩, Or.inr ⟨tt_c4 100 (by decide +kernel) rfl, cX4_actPaints, 3, (some .int), tt_c4 126 rfl rfl⟩, by decide +kernel⟩
set_option maxRecDepth 100000 in
theorem lX11_314_X1 : LU RX11 314 RX1 "PaintedOver$Kind" yX4_actPaints yX2_actPaints cX2_actPaints 3 (some .int) 2 := ⟨⟨tt_c4 99 (by decide +kernel) rfl, tt_c4 102 (by decide +kernel) rfl, tt_c4 113 (by decide +kernel) rfl, tt_c4 114 (by decide +kernel) rfl, tt_c1 5 (by decide +kernel) rfl, tt_c4 115 rfl rfl, by decide⟩, Or.inr ⟨tt_c4 100 (by decide +kernel) rfl, cX4_actPaints, 3, (some .int), tt_c4 126 rfl rfl⟩, by decide +kernel⟩
set_option maxRecDepth 100000 in
theorem lX11_314_X2 : LU RX11 314 RX2 "PaintedOver$Kind" yX4_actPaints yX2_actPaints cX2_actPaints 3 (some .int) 2 := ⟨⟨tt_c4 99 (by decide +kernel) rfl, tt_c4 102 (by decide +kernel) rfl, tt_c4 118 (by decide +kernel) rfl, tt_c4 114 (by decide +kernel) rfl, tt_c1 5 (by decide +kernel) rfl, tt_c4 115 rfl rfl, by decide⟩, Or.inr ⟨tt_c4 100 (by decide +kernel) rfl, cX4_actPaints, 3, (some .int), tt_c4 126 rfl rfl⟩, by decide +kernel⟩
set_option maxRecDepth 100000 in
theorem lX11_314_X5 : LU RX11 314 RX5 "PaintedOver$Kind" yX4_actPaints yX4_actPaints cX4_actPaints 3 (some .int) 2 := ⟨⟨tt_c4 99 (by decide +kernel) rfl, tt_c4 102 (by decide +kernel) rfl, tt_c4 119 (by decide +kernel) rfl, tt_c4 100 (by decide +kernel) rfl, tt_c1 4 (by decide +kernel) rfl, tt_c4 126 rfl rfl, by decide⟩, Or.inl rfl, by decide +kernel⟩
set_option maxRecDepth 100000 in
theorem lX11_314_X7 : LU RX11 314 RX7 "PaintedOver$Kind" yX4_actPaints yX7_actPaints cX7_actPaints 3 (some .int) 2 := ⟨⟨tt_c4 99 (by decide +kernel) rfl, tt_c4 102 (by decide +kernel) rfl, tt_c4 120 (by decide +kernel) rfl, tt_c4 121 (by decide +kernel) rfl, tt_c1 8 (by decide +kernel) rfl, tt_c4 122 rfl rfl, by decide⟩, Or.inr ⟨tt_c4 100 (by decide +kernel) rfl, cX4_actPaints, 3, (some .int), tt_c4 126 rfl rfl⟩, by decide +kernel⟩
set_option maxRecDepth 100000 in
theorem lX11_314_X8 : LU RX11 314 RX8 "PaintedOver$Kind" yX4_actPaints yX4_actPaints cX4_actPaints 3 (some .int) 2 := ⟨⟨tt_c4 99 (by decide +kernel) rfl, tt_c4 102 (by decide +kernel) rfl, tt_c4 125 (by decide +kernel) rfl, tt_c4 100 (by decide +kernel) rfl, tt_c1 4 (by decide +kernel) rfl, tt_c4 126 rfl rfl, by decide⟩, Or.inl rfl, by decide +kernel⟩
set_option maxRecDepth 100000 in
theorem lX0_11 : LV RX0 11 RX10 yX10_begin cX10_begin 2 none 1 := ⟨tt_c4 106 (by decide +kernel) rfl, tt_c4 107 (by decide +kernel) rfl, tt_c4 108 (by decide +kernel) rfl, tt_c1 3 (by decide +kernel) rfl, tt_c4 109 rfl rfl, by decide, by decide +kernel⟩
set_option maxRecDepth 100000 in
theorem lX2_7 : LV RX2 7 RX10 yX10_begin cX10_begin 2 none 1 := ⟨tt_c4 116 (by decide +kernel) rfl, tt_c4 107 (by decide +kernel) rfl, tt_c4 108 (by decide +kernel) rfl, tt_c1 3 (by decide +kernel) rfl, tt_c4 109 rfl rfl, by decide, by decide +kernel⟩
set_option maxRecDepth 100000 in
theorem lX2_13 : LSU RX2 13 yX4_actPaints cX4_actPaints 3 (some .int) 2 := ⟨tt_c4 117 (by decide +kernel) rfl, tt_c4 102 (by decide +kernel) rfl, tt_c1 101 (by decide +kernel) rfl, tt_c4 100 (by decide +kernel) rfl, tt_c1 4 (by decide +kernel) rfl, tt_c4 126 rfl rfl, by decide, by decide +kernel⟩
set_option maxRecDepth 100000 in
theorem lX7_7 : LV RX7 7 RX10 yX10_begin cX10_begin 2 none 1 := ⟨tt_c4 123 (by decide +kernel) rfl, tt_c4 107 (by decide +kernel) rfl, tt_c4 108 (by decide +kernel) rfl, tt_c1 3 (by decide +kernel) rfl, tt_c4 109 rfl rfl, by decide, by decide +kernel⟩
set_option maxRecDepth 100000 in
theorem lX7_17 : LSU RX7 17 yX4_actPaints cX4_actPaints 3 (some .int) 2 := ⟨tt_c4 124 (by decide +kernel) rfl, tt_c4 102 (by decide +kernel) rfl, tt_c1 122 (by decide +kernel) rfl, tt_c4 100 (by decide +kernel) rfl, tt_c1 4 (by decide +kernel) rfl, tt_c4 126 rfl rfl, by decide, by decide +kernel⟩
set_option maxRecDepth 100000 in
theorem lX4_7 : LV RX4 7 RX10 yX10_begin cX10_begin 2 none 1 := ⟨tt_c4 127 (by decide +kernel) rfl, tt_c4 107 (by decide +kernel) rfl, tt_c4 108 (by decide +kernel) rfl, tt_c1 3 (by decide +kernel) rfl, tt_c4 109 rfl rfl, by decide, by decide +kernel⟩
set_option maxRecDepth 100000 in
theorem lX11_318 : LV RX11 318 RX4 yX4_actPeels cX4_actPeels 3 (some .int) 2 := ⟨tt_c4 128 (by decide +kernel) rfl, tt_c4 129 (by decide +kernel) rfl, tt_c4 130 (by decide +kernel) rfl, tt_c1 4 (by decide +kernel) rfl, tt_c4 151 rfl rfl, by decide, by decide +kernel⟩
set_option maxRecDepth 100000 in
theorem lX11_318_X0 : LU RX11 318 RX0 "PaintedOver$Kind" yX4_actPeels yX0_actPeels cX0_actPeels 3 (some .int) 2 := ⟨⟨tt_c4 128 (by decide +kernel) rfl, tt_c4 131 (by decide +kernel) rfl, tt_c4 132 (by decide +kernel) rfl, tt_c4 133 (by decide +kernel) rfl, tt_c1 10 (by decide +kernel) rfl, tt_c4 134 rfl rfl, by decide⟩, Or.inr ⟨tt_c4 129 (by decide +kernel) rfl, cX4_actPeels, 3, (some .int), tt_c4 151 rfl rfl⟩, by decide +kernel⟩
set_option maxRecDepth 100000 in
theorem lX11_318_X1 : LU RX11 318 RX1 "PaintedOver$Kind" yX4_actPeels yX1_actPeels cX1_actPeels 3 (some .int) 2 := ⟨⟨tt_c4 128 (by decide +kernel) rfl, tt_c4 131 (by decide +kernel) rfl, tt_c4 140 (by decide +kernel) rfl, tt_c4 141 (by decide +kernel) rfl, tt_c1 7 (by decide +kernel) rfl, tt_c4 142 rfl rfl, by decide⟩, Or.inr ⟨tt_c4 129 (by decide +kernel) rfl, cX4_actPeels, 3, (some .int), tt_c4 151 rfl rfl⟩, by decide +kernel⟩
set_option maxRecDepth 100000 in
theorem lX11_318_X2 : LU RX11 318 RX2 "PaintedOver$Kind" yX4_actPeels yX4_actPeels cX4_actPeels 3 (some .int) 2 := ⟨⟨tt_c4 128 (by decide +kernel) rfl, tt_c4 131 (by decide +kernel) rfl, tt_c4 147 (by decide +kernel) rfl, tt_c4 129 (by decide +kernel) rfl, tt_c1 4 (by decide +kernel) rfl, tt_c4 151 rfl rfl, by decide⟩, Or.inl rfl, by decide +kernel⟩
set_option maxRecDepth 100000 in
theorem lX11_318_X5 : LU RX11 318 RX5 "PaintedOver$Kind" yX4_actPeels yX5_actPeels cX5_actPeels 3 (some .int) 2 := ⟨⟨tt_c4 128 (by decide +kernel) rfl, tt_c4 131 (by decide +kernel) rfl, tt_c4 148 (by decide +kernel) rfl, tt_c4 136 (by decide +kernel) rfl, tt_c1 6 (by decide +kernel) rfl, tt_c4 137 rfl rfl, by decide⟩, Or.inr ⟨tt_c4 129 (by decide +kernel) rfl, cX4_actPeels, 3, (some .int), tt_c4 151 rfl rfl⟩, by decide +kernel⟩
set_option maxRecDepth 100000 in
theorem lX11_318_X7 : LU RX11 318 RX7 "PaintedOver$Kind" yX4_actPeels yX4_actPeels cX4_actPeels 3 (some .int) 2 := ⟨⟨tt_c4 128 (by decide +kernel) rfl, tt_c4 131 (by decide +kernel) rfl, tt_c4 149 (by decide +kernel) rfl, tt_c4 129 (by decide +kernel) rfl, tt_c1 4 (by decide +kernel) rfl, tt_c4 151 rfl rfl, by decide⟩, Or.inl rfl, by decide +kernel⟩
set_option maxRecDepth 100000 in
theorem lX11_318_X8 : LU RX11 318 RX8 "PaintedOver$Kind" yX4_actPeels yX5_actPeels cX5_actPeels 3 (some .int) 2 := ⟨⟨tt_c4 128 (by decide +kernel) rfl, tt_c4 131 (by decide +kernel) rfl, tt_c4 150 (by decide +kernel) rfl, tt_c4 136 (by decide +kernel) rfl, tt_c1 6 (by decide +kernel) rfl, tt_c4 137 rfl rfl, by decide⟩, Or.inr ⟨tt_c4 129 (by decide +kernel) rfl, cX4_actPeels, 3, (some .int), tt_c4 151 rfl rfl⟩, by decide +kernel⟩
set_option maxRecDepth 100000 in
theorem lX0_25 : LSU RX0 25 yX5_actPeels cX5_actPeels 3 (some .int) 2 := ⟨tt_c4 135 (by decide +kernel) rfl, tt_c6 185 (by decide +kernel) rfl, tt_c1 136 (by decide +kernel) rfl, tt_c4 136 (by decide +kernel) rfl, tt_c1 6 (by decide +kernel) rfl, tt_c4 137 rfl rfl, by decide, by decide +kernel⟩
set_option maxRecDepth 100000 in
theorem lX5_7 : LV RX5 7 RX10 yX10_begin cX10_begin 2 none 1 := ⟨tt_c4 138 (by decide +kernel) rfl, tt_c4 107 (by decide +kernel) rfl, tt_c4 108 (by decide +kernel) rfl, tt_c1 3 (by decide +kernel) rfl, tt_c4 109 rfl rfl, by decide, by decide +kernel⟩
set_option maxRecDepth 100000 in
theorem lX5_13 : LSU RX5 13 yX4_actPeels cX4_actPeels 3 (some .int) 2 := ⟨tt_c4 139 (by decide +kernel) rfl, tt_c4 131 (by decide +kernel) rfl, tt_c1 108 (by decide +kernel) rfl, tt_c4 129 (by decide +kernel) rfl, tt_c1 4 (by decide +kernel) rfl, tt_c4 151 rfl rfl, by decide, by decide +kernel⟩
set_option maxRecDepth 100000 in
theorem lX1_13 : LV RX1 13 RX10 yX10_begin cX10_begin 2 none 1 := ⟨tt_c4 143 (by decide +kernel) rfl, tt_c4 107 (by decide +kernel) rfl, tt_c4 108 (by decide +kernel) rfl, tt_c1 3 (by decide +kernel) rfl, tt_c4 109 rfl rfl, by decide, by decide +kernel⟩
set_option maxRecDepth 100000 in
theorem lX4_17 : LV RX4 17 RX4 yX4_actPaints cX4_actPaints 3 (some .int) 2 := ⟨tt_c4 152 (by decide +kernel) rfl, tt_c4 100 (by decide +kernel) rfl, tt_c4 101 (by decide +kernel) rfl, tt_c1 4 (by decide +kernel) rfl, tt_c4 126 rfl rfl, by decide, by decide +kernel⟩
set_option maxRecDepth 100000 in
theorem lX4_17_X0 : LU RX4 17 RX0 "PaintedOver$Kind" yX4_actPaints yX0_actPaints cX0_actPaints 3 (some .int) 2 := ⟨⟨tt_c4 152 (by decide +kernel) rfl, tt_c4 102 (by decide +kernel) rfl, tt_c4 103 (by decide +kernel) rfl, tt_c4 104 (by decide +kernel) rfl, tt_c1 10 (by decide +kernel) rfl, tt_c4 105 rfl rfl, by decide⟩, Or.inr ⟨tt_c4 100 (by decide +kernel) rfl, cX4_actPaints, 3, (some .int), tt_c4 126 rfl rfl⟩, by decide +kernel⟩
set_option maxRecDepth 100000 in
theorem lX4_17_X1 : LU RX4 17 RX1 "PaintedOver$Kind" yX4_actPaints yX2_actPaints cX2_actPaints 3 (some .int) 2 := ⟨⟨tt_c4 152 (by decide +kernel) rfl, tt_c4 102 (by decide +kernel) rfl, tt_c4 113 (by decide +kernel) rfl, tt_c4 114 (by decide +kernel) rfl, tt_c1 5 (by decide +kernel) rfl, tt_c4 115 rfl rfl, by decide⟩, Or.inr ⟨tt_c4 100 (by decide +kernel) rfl, cX4_actPaints, 3, (some .int), tt_c4 126 rfl rfl⟩, by decide +kernel⟩
set_option maxRecDepth 100000 in
theorem lX4_17_X2 : LU RX4 17 RX2 "PaintedOver$Kind" yX4_actPaints yX2_actPaints cX2_actPaints 3 (some .int) 2 := ⟨⟨tt_c4 152 (by decide +kernel) rfl, tt_c4 102 (by decide +kernel) rfl, tt_c4 118 (by decide +kernel) rfl, tt_c4 114 (by decide +kernel) rfl, tt_c1 5 (by decide +kernel) rfl, tt_c4 115 rfl rfl, by decide⟩, Or.inr ⟨tt_c4 100 (by decide +kernel) rfl, cX4_actPaints, 3, (some .int), tt_c4 126 rfl rfl⟩, by decide +kernel⟩
set_option maxRecDepth 100000 in
theorem lX4_17_X5 : LU RX4 17 RX5 "PaintedOver$Kind" yX4_actPaints yX4_actPaints cX4_actPaints 3 (some .int) 2 := ⟨⟨tt_c4 152 (by decide +kernel) rfl, tt_c4 102 (by decide +kernel) rfl, tt_c4 119 (by decide +kernel) rfl, tt_c4 100 (by decide +kernel) rfl, tt_c1 4 (by decide +kernel) rfl, tt_c4 126 rfl rfl, by decide⟩, Or.inl rfl, by decide +kernel⟩
set_option maxRecDepth 100000 in
theorem lX4_17_X7 : LU RX4 17 RX7 "PaintedOver$Kind" yX4_actPaints yX7_actPaints cX7_actPaints 3 (some .int) 2 := ⟨⟨tt_c4 152 (by decide +kernel) rfl, tt_c4 102 (by decide +kernel) rfl, tt_c4 120 (by decide +kernel) rfl, tt_c4 121 (by decide +kernel) rfl, tt_c1 8 (by decide +kernel) rfl, tt_c4 122 rfl rfl, by decide⟩, Or.inr ⟨tt_c4 100 (by decide +kernel) rfl, cX4_actPaints, 3, (some .int), tt_c4 126 rfl rfl⟩, by decide +kernel⟩
set_option maxRecDepth 100000 in
theorem lX4_17_X8 : LU RX4 17 RX8 "PaintedOver$Kind" yX4_actPaints yX4_actPaints cX4_actPaints 3 (some .int) 2 := ⟨⟨tt_c4 152 (by decide +kernel) rfl, tt_c4 102 (by decide +kernel) rfl, tt_c4 125 (by decide +kernel) rfl, tt_c4 100 (by decide +kernel) rfl, tt_c1 4 (by decide +kernel) rfl, tt_c4 126 rfl rfl, by decide⟩, Or.inl rfl, by decide +kernel⟩
set_option maxRecDepth 100000 in
theorem lX11_321 : LV RX11 321 RX4 yX4_actFalls cX4_actFalls 3 (some .int) 2 := ⟨tt_c4 153 (by decide +kernel) rfl, tt_c4 154 (by decide +kernel) rfl, tt_c4 155 (by decide +kernel) rfl, tt_c1 4 (by decide +kernel) rfl, tt_c4 172 rfl rfl, by decide, by decide +kernel⟩
set_option maxRecDepth 100000 in
theorem lX11_321_X0 : LU RX11 321 RX0 "PaintedOver$Kind" yX4_actFalls yX4_actFalls cX4_actFalls 3 (some .int) 2 := ⟨⟨tt_c4 153 (by decide +kernel) rfl, tt_c4 156 (by decide +kernel) rfl, tt_c4 157 (by decide +kernel) rfl, tt_c4 154 (by decide +kernel) rfl, tt_c1 4 (by decide +kernel) rfl, tt_c4 172 rfl rfl, by decide⟩, Or.inl rfl, by decide +kernel⟩
set_option maxRecDepth 100000 in
theorem lX11_321_X1 : LU RX11 321 RX1 "PaintedOver$Kind" yX4_actFalls yX4_actFalls cX4_actFalls 3 (some .int) 2 := ⟨⟨tt_c4 153 (by decide +kernel) rfl, tt_c4 156 (by decide +kernel) rfl, tt_c4 158 (by decide +kernel) rfl, tt_c4 154 (by decide +kernel) rfl, tt_c1 4 (by decide +kernel) rfl, tt_c4 172 rfl rfl, by decide⟩, Or.inl rfl, by decide +kernel⟩
set_option maxRecDepth 100000 in
theorem lX11_321_X2 : LU RX11 321 RX2 "PaintedOver$Kind" yX4_actFalls yX4_actFalls cX4_actFalls 3 (some .int) 2 := ⟨⟨tt_c4 153 (by decide +kernel) rfl, tt_c4 156 (by decide +kernel) rfl, tt_c4 159 (by decide +kernel) rfl, tt_c4 154 (by decide +kernel) rfl, tt_c1 4 (by decide +kernel) rfl, tt_c4 172 rfl rfl, by decide⟩, Or.inl rfl, by decide +kernel⟩
set_option maxRecDepth 100000 in
theorem lX11_321_X5 : LU RX11 321 RX5 "PaintedOver$Kind" yX4_actFalls yX4_actFalls cX4_actFalls 3 (some .int) 2 := ⟨⟨tt_c4 153 (by decide +kernel) rfl, tt_c4 156 (by decide +kernel) rfl, tt_c4 160 (by decide +kernel) rfl, tt_c4 154 (by decide +kernel) rfl, tt_c1 4 (by decide +kernel) rfl, tt_c4 172 rfl rfl, by decide⟩, Or.inl rfl, by decide +kernel⟩
set_option maxRecDepth 100000 in
theorem lX11_321_X7 : LU RX11 321 RX7 "PaintedOver$Kind" yX4_actFalls yX7_actFalls cX7_actFalls 3 (some .int) 2 := ⟨⟨tt_c4 153 (by decide +kernel) rfl, tt_c4 156 (by decide +kernel) rfl, tt_c4 161 (by decide +kernel) rfl, tt_c4 162 (by decide +kernel) rfl, tt_c1 8 (by decide +kernel) rfl, tt_c4 163 rfl rfl, by decide⟩, Or.inr ⟨tt_c4 154 (by decide +kernel) rfl, cX4_actFalls, 3, (some .int), tt_c4 172 rfl rfl⟩, by decide +kernel⟩
set_option maxRecDepth 100000 in
theorem lX11_321_X8 : LU RX11 321 RX8 "PaintedOver$Kind" yX4_actFalls yX8_actFalls cX8_actFalls 3 (some .int) 2 := ⟨⟨tt_c4 153 (by decide +kernel) rfl, tt_c4 156 (by decide +kernel) rfl, tt_c4 165 (by decide +kernel) rfl, tt_c4 166 (by decide +kernel) rfl, tt_c1 9 (by decide +kernel) rfl, tt_c4 167 rfl rfl, by decide⟩, Or.inr ⟨tt_c4 154 (by decide +kernel) rfl, cX4_actFalls, 3, (some .int), tt_c4 172 rfl rfl⟩, by decide +kernel⟩
set_option maxRecDepth 100000 in
theorem lX7_13 : LSU RX7 13 yX4_actFalls cX4_actFalls 3 (some .int) 2 := ⟨tt_c4 164 (by decide +kernel) rfl, tt_c4 156 (by decide +kernel) rfl, tt_c1 122 (by decide +kernel) rfl, tt_c4 154 (by decide +kernel) rfl, tt_c1 4 (by decide +kernel) rfl, tt_c4 172 rfl rfl, by decide, by decide +kernel⟩
set_option maxRecDepth 100000 in
theorem lX8_13 : LV RX8 13 RX10 yX10_begin cX10_begin 2 none 1 := ⟨tt_c4 168 (by decide +kernel) rfl, tt_c4 107 (by decide +kernel) rfl, tt_c4 108 (by decide +kernel) rfl, tt_c1 3 (by decide +kernel) rfl, tt_c4 109 rfl rfl, by decide, by decide +kernel⟩
set_option maxRecDepth 100000 in
theorem lX4_23 : LV RX4 23 RX4 yX4_actPeels cX4_actPeels 3 (some .int) 2 := ⟨tt_c4 173 (by decide +kernel) rfl, tt_c4 129 (by decide +kernel) rfl, tt_c4 130 (by decide +kernel) rfl, tt_c1 4 (by decide +kernel) rfl, tt_c4 151 rfl rfl, by decide, by decide +kernel⟩
set_option maxRecDepth 100000 in
theorem lX4_23_X0 : LU RX4 23 RX0 "PaintedOver$Kind" yX4_actPeels yX0_actPeels cX0_actPeels 3 (some .int) 2 := ⟨⟨tt_c4 173 (by decide +kernel) rfl, tt_c4 131 (by decide +kernel) rfl, tt_c4 132 (by decide +kernel) rfl, tt_c4 133 (by decide +kernel) rfl, tt_c1 10 (by decide +kernel) rfl, tt_c4 134 rfl rfl, by decide⟩, Or.inr ⟨tt_c4 129 (by decide +kernel) rfl, cX4_actPeels, 3, (some .int), tt_c4 151 rfl rfl⟩, by decide +kernel⟩
set_option maxRecDepth 100000 in
theorem lX4_23_X1 : LU RX4 23 RX1 "PaintedOver$Kind" yX4_actPeels yX1_actPeels cX1_actPeels 3 (some .int) 2 := ⟨⟨tt_c4 173 (by decide +kernel) rfl, tt_c4 131 (by decide +kernel) rfl, tt_c4 140 (by decide +kernel) rfl, tt_c4 141 (by decide +kernel) rfl, tt_c1 7 (by decide +kernel) rfl, tt_c4 142 rfl rfl, by decide⟩, Or.inr ⟨tt_c4 129 (by decide +kernel) rfl, cX4_actPeels, 3, (some .int), tt_c4 151 rfl rfl⟩, by decide +kernel⟩
set_option maxRecDepth 100000 in
theorem lX4_23_X2 : LU RX4 23 RX2 "PaintedOver$Kind" yX4_actPeels yX4_actPeels cX4_actPeels 3 (some .int) 2 := ⟨⟨tt_c4 173 (by decide +kernel) rfl, tt_c4 131 (by decide +kernel) rfl, tt_c4 147 (by decide +kernel) rfl, tt_c4 129 (by decide +kernel) rfl, tt_c1 4 (by decide +kernel) rfl, tt_c4 151 rfl rfl, by decide⟩, Or.inl rfl, by decide +kernel⟩
set_option maxRecDepth 100000 in
theorem lX4_23_X5 : LU RX4 23 RX5 "PaintedOver$Kind" yX4_actPeels yX5_actPeels cX5_actPeels 3 (some .int) 2 := ⟨⟨tt_c4 173 (by decide +kernel) rfl, tt_c4 131 (by decide +kernel) rfl, tt_c4 148 (by decide +kernel) rfl, tt_c4 136 (by decide +kernel) rfl, tt_c1 6 (by decide +kernel) rfl, tt_c4 137 rfl rfl, by decide⟩, Or.inr ⟨tt_c4 129 (by decide +kernel) rfl, cX4_actPeels, 3, (some .int), tt_c4 151 rfl rfl⟩, by decide +kernel⟩
set_option maxRecDepth 100000 in
theorem lX4_23_X7 : LU RX4 23 RX7 "PaintedOver$Kind" yX4_actPeels yX4_actPeels cX4_actPeels 3 (some .int) 2 := ⟨⟨tt_c4 173 (by decide +kernel) rfl, tt_c4 131 (by decide +kernel) rfl, tt_c4 149 (by decide +kernel) rfl, tt_c4 129 (by decide +kernel) rfl, tt_c1 4 (by decide +kernel) rfl, tt_c4 151 rfl rfl, by decide⟩, Or.inl rfl, by decide +kernel⟩
set_option maxRecDepth 100000 in
theorem lX4_23_X8 : LU RX4 23 RX8 "PaintedOver$Kind" yX4_actPeels yX5_actPeels cX5_actPeels 3 (some .int) 2 := ⟨⟨tt_c4 173 (by decide +kernel) rfl, tt_c4 131 (by decide +kernel) rfl, tt_c4 150 (by decide +kernel) rfl, tt_c4 136 (by decide +kernel) rfl, tt_c1 6 (by decide +kernel) rfl, tt_c4 137 rfl rfl, by decide⟩, Or.inr ⟨tt_c4 129 (by decide +kernel) rfl, cX4_actPeels, 3, (some .int), tt_c4 151 rfl rfl⟩, by decide +kernel⟩
set_option maxRecDepth 100000 in
theorem lL_170 : LV "PaintedOverLaw" 170 RX11 yX11_trace cX11_trace 2 (some .int) 1 := ⟨tt_c4 174 (by decide +kernel) rfl, tt_c4 175 (by decide +kernel) rfl, tt_c4 176 (by decide +kernel) rfl, tt_c1 1 (by decide +kernel) rfl, tt_c4 177 rfl rfl, by decide, by decide +kernel⟩
set_option maxRecDepth 100000 in
theorem lL_174 : LV "PaintedOverLaw" 174 RX11 yX11_image cX11_image 1 (some .int) 0 := ⟨tt_c4 178 (by decide +kernel) rfl, tt_c4 179 (by decide +kernel) rfl, tt_c4 180 (by decide +kernel) rfl, tt_c1 1 (by decide +kernel) rfl, tt_c4 181 rfl rfl, by decide, by decide +kernel⟩
set_option maxRecDepth 100000 in
theorem lL_178 : LV "PaintedOverLaw" 178 RX11 yX11_restore cX11_restore 2 (some .int) 0 := ⟨tt_c4 182 (by decide +kernel) rfl, tt_c4 183 (by decide +kernel) rfl, tt_c4 184 (by decide +kernel) rfl, tt_c1 1 (by decide +kernel) rfl, tt_c4 185 rfl rfl, by decide, by decide +kernel⟩
set_option maxRecDepth 100000 in
theorem lL_182 : LV "PaintedOverLaw" 182 RX11 yX11_status cX11_status 2 (some .int) 1 := ⟨tt_c4 186 (by decide +kernel) rfl, tt_c4 187 (by decide +kernel) rfl, tt_c4 188 (by decide +kernel) rfl, tt_c1 1 (by decide +kernel) rfl, tt_c4 189 rfl rfl, by decide, by decide +kernel⟩
set_option maxRecDepth 100000 in
theorem lX11_327 : LV RX11 327 RX9 yX9_coatsInAll cX9_coatsInAll 3 (some .int) 0 := ⟨tt_c4 190 (by decide +kernel) rfl, tt_c4 191 (by decide +kernel) rfl, tt_c4 192 (by decide +kernel) rfl, tt_c1 11 (by decide +kernel) rfl, tt_c4 193 rfl rfl, by decide, by decide +kernel⟩
set_option maxRecDepth 100000 in
theorem lL_12 : LI "PaintedOverLaw" 12 yX12_init cX12_init 2 0 := ⟨tt_c4 196 (by decide +kernel) rfl, tt_c4 197 (by decide +kernel) rfl, tt_c1 13 (by decide +kernel) rfl, tt_c4 198 rfl rfl, by decide, rfl, by decide +kernel⟩
theorem fX12_7 : GF RX12 7 12 0 RX12 TX12 := ⟨cfX12, by decide, tt_c4 200 (by decide +kernel) rfl⟩
theorem fX12_13 : GF RX12 13 12 1 RX12 TX12 := ⟨cfX12, by decide, tt_c4 201 (by decide +kernel) rfl⟩
theorem fX12_16 : GF RX12 16 12 2 RX12 TX12 := ⟨cfX12, by decide, tt_c4 202 (by decide +kernel) rfl⟩
theorem fX12_87 : GF RX12 87 12 3 RX12 TX12 := ⟨cfX12, by decide, tt_c4 203 (by decide +kernel) rfl⟩
theorem fX12_20 : GF RX12 20 12 4 RX12 TX12 := ⟨cfX12, by decide, tt_c4 204 (by decide +kernel) rfl⟩
theorem fX12_23 : GF RX12 23 12 5 RX12 TX12 := ⟨cfX12, by decide, tt_c4 205 (by decide +kernel) rfl⟩
theorem fX12_26 : GF RX12 26 12 6 RX12 TX12 := ⟨cfX12, by decide, tt_c4 206 (by decide +kernel) rfl⟩
theorem fX12_29 : GF RX12 29 12 7 RX12 TX12 := ⟨cfX12, by decide, tt_c4 207 (by decide +kernel) rfl⟩
theorem fX12_32 : GF RX12 32 12 8 RX12 TX12 := ⟨cfX12, by decide, tt_c4 208 (by decide +kernel) rfl⟩
theorem fX12_35 : GF RX12 35 12 9 RX12 TX12 := ⟨cfX12, by decide, tt_c4 209 (by decide +kernel) rfl⟩
theorem fX12_38 : GF RX12 38 12 10 RX12 TX12 := ⟨cfX12, by decide, tt_c4 210 (by decide +kernel) rfl⟩
theorem fX12_41 : GF RX12 41 12 11 RX12 TX12 := ⟨cfX12, by decide, tt_c4 211 (by decide +kernel) rfl⟩
theorem fX12_44 : GF RX12 44 12 12 RX12 TX12 := ⟨cfX12, by decide, tt_c4 212 (by decide +kernel) rfl⟩
theorem fX12_47 : GF RX12 47 12 13 RX12 TX12 := ⟨cfX12, by decide, tt_c4 213 (by decide +kernel) rfl⟩
theorem fX12_50 : GF RX12 50 12 14 RX12 TX12 := ⟨cfX12, by decide, tt_c4 214 (by decide +kernel) rfl⟩
theorem fX12_74 : GF RX12 74 12 15 RX12 TX12 := ⟨cfX12, by decide, tt_c4 215 (by decide +kernel) rfl⟩
theorem fX12_78 : GF RX12 78 12 16 RX12 TX12 := ⟨cfX12, by decide, tt_c4 216 (by decide +kernel) rfl⟩
theorem fX12_139 : GF RX12 139 12 17 RX12 TX12 := ⟨cfX12, by decide, tt_c4 217 (by decide +kernel) rfl⟩
theorem fX12_272 : GF RX12 272 12 18 RX12 TX12 := ⟨cfX12, by decide, tt_c4 218 (by decide +kernel) rfl⟩
theorem fX12_81 : GF RX12 81 12 19 RX12 TX12 := ⟨cfX12, by decide, tt_c4 219 (by decide +kernel) rfl⟩
theorem fX12_84 : GF RX12 84 12 20 RX12 TX12 := ⟨cfX12, by decide, tt_c4 220 (by decide +kernel) rfl⟩
theorem fX12_53 : GF RX12 53 12 21 RX12 TX12 := ⟨cfX12, by decide, tt_c4 221 (by decide +kernel) rfl⟩
theorem fX12_282 : GF RX12 282 12 22 RX12 TX12 := ⟨cfX12, by decide, tt_c4 222 (by decide +kernel) rfl⟩
theorem fX12_56 : GF RX12 56 12 23 RX12 TX12 := ⟨cfX12, by decide, tt_c4 223 (by decide +kernel) rfl⟩
theorem fX12_297 : GF RX12 297 12 24 RX12 TX12 := ⟨cfX12, by decide, tt_c4 224 (by decide +kernel) rfl⟩
theorem fX12_59 : GF RX12 59 12 25 RX12 TX12 := ⟨cfX12, by decide, tt_c4 225 (by decide +kernel) rfl⟩
theorem fX12_62 : GF RX12 62 12 26 RX12 TX12 := ⟨cfX12, by decide, tt_c4 226 (by decide +kernel) rfl⟩
theorem fX12_161 : GF RX12 161 12 27 RX12 TX12 := ⟨cfX12, by decide, tt_c4 227 (by decide +kernel) rfl⟩
theorem fX12_158 : GF RX12 158 12 28 RX12 TX12 := ⟨cfX12, by decide, tt_c4 228 (by decide +kernel) rfl⟩
theorem fX12_65 : GF RX12 65 12 29 RX12 TX12 := ⟨cfX12, by decide, tt_c4 229 (by decide +kernel) rfl⟩
theorem fX12_68 : GF RX12 68 12 30 RX12 TX12 := ⟨cfX12, by decide, tt_c4 230 (by decide +kernel) rfl⟩
theorem fX12_252 : GF RX12 252 12 31 RX12 TX12 := ⟨cfX12, by decide, tt_c4 231 (by decide +kernel) rfl⟩
theorem fX12_71 : GF RX12 71 12 32 RX12 TX12 := ⟨cfX12, by decide, tt_c4 232 (by decide +kernel) rfl⟩
set_option maxRecDepth 100000 in
theorem lL_17 : LV "PaintedOverLaw" 17 RX12 yX12_row cX12_row 5 (some .int) 3 := ⟨tt_c5 60 (by decide +kernel) rfl, tt_c5 61 (by decide +kernel) rfl, tt_c5 62 (by decide +kernel) rfl, tt_c1 13 (by decide +kernel) rfl, tt_c5 63 rfl rfl, by decide, by decide +kernel⟩
set_option maxRecDepth 100000 in
theorem lX12_90 : LSt RX12 90 yX12_within cX12_within 3 (some .boolean) 3 := ⟨tt_c5 64 (by decide +kernel) rfl, tt_c5 65 (by decide +kernel) rfl, tt_c1 13 (by decide +kernel) rfl, tt_c5 66 rfl rfl, by decide, by decide +kernel⟩
set_option maxRecDepth 100000 in
theorem lX12_98 : LV RX12 98 RX12 yX12_no cX12_no 2 (some .int) 1 := ⟨tt_c5 67 (by decide +kernel) rfl, tt_c5 69 (by decide +kernel) rfl, tt_in 31 (by decide +kernel) rfl, tt_c1 13 (by decide +kernel) rfl, tt_c5 70 rfl rfl, by decide, by decide +kernel⟩
set_option maxRecDepth 100000 in
theorem lL_24 : LV "PaintedOverLaw" 24 RX12 yX12_set cX12_set 7 (some .int) 3 := ⟨tt_c5 71 (by decide +kernel) rfl, tt_c5 72 (by decide +kernel) rfl, tt_c5 73 (by decide +kernel) rfl, tt_c1 13 (by decide +kernel) rfl, tt_c5 74 rfl rfl, by decide, by decide +kernel⟩
set_option maxRecDepth 100000 in
theorem lX12_105 : LV RX12 105 RX12 yX12_noRow cX12_noRow 2 (some .int) 1 := ⟨tt_c5 75 (by decide +kernel) rfl, tt_c5 77 (by decide +kernel) rfl, tt_in 32 (by decide +kernel) rfl, tt_c1 13 (by decide +kernel) rfl, tt_c5 78 rfl rfl, by decide, by decide +kernel⟩
set_option maxRecDepth 100000 in
theorem lX12_102 : LV RX12 102 RX12 yX12_isRow cX12_isRow 2 (some .boolean) 1 := ⟨tt_c5 79 (by decide +kernel) rfl, tt_c5 81 (by decide +kernel) rfl, tt_in 33 (by decide +kernel) rfl, tt_c1 13 (by decide +kernel) rfl, tt_c5 82 rfl rfl, by decide, by decide +kernel⟩
set_option maxRecDepth 100000 in
theorem lL_29 : LV "PaintedOverLaw" 29 RX12 yX12_copy cX12_copy 7 (some .int) 5 := ⟨tt_c5 83 (by decide +kernel) rfl, tt_c5 84 (by decide +kernel) rfl, tt_c5 85 (by decide +kernel) rfl, tt_c1 13 (by decide +kernel) rfl, tt_c5 86 rfl rfl, by decide, by decide +kernel⟩
set_option maxRecDepth 100000 in
theorem lL_34 : LV "PaintedOverLaw" 34 RX12 yX12_element cX12_element 3 (some .long) 2 := ⟨tt_c5 87 (by decide +kernel) rfl, tt_c5 88 (by decide +kernel) rfl, tt_c5 89 (by decide +kernel) rfl, tt_c1 13 (by decide +kernel) rfl, tt_c5 90 rfl rfl, by decide, by decide +kernel⟩
set_option maxRecDepth 100000 in
theorem lL_39 : LV "PaintedOverLaw" 39 RX12 yX12_show cX12_show 3 (some .int) 2 := ⟨tt_c5 91 (by decide +kernel) rfl, tt_c5 92 (by decide +kernel) rfl, tt_c5 93 (by decide +kernel) rfl, tt_c1 13 (by decide +kernel) rfl, tt_c5 94 rfl rfl, by decide, by decide +kernel⟩
set_option maxRecDepth 100000 in
theorem lX12_94 : LV RX12 94 RX12 yX12_isHouse cX12_isHouse 2 (some .boolean) 1 := ⟨tt_c5 95 (by decide +kernel) rfl, tt_c5 97 (by decide +kernel) rfl, tt_in 34 (by decide +kernel) rfl, tt_c1 13 (by decide +kernel) rfl, tt_c5 98 rfl rfl, by decide, by decide +kernel⟩
set_option maxRecDepth 100000 in
theorem lL_44 : LV "PaintedOverLaw" 44 RX12 yX12_holds cX12_holds 2 (some .int) 1 := ⟨tt_c5 99 (by decide +kernel) rfl, tt_c5 100 (by decide +kernel) rfl, tt_c5 101 (by decide +kernel) rfl, tt_c1 13 (by decide +kernel) rfl, tt_c5 102 rfl rfl, by decide, by decide +kernel⟩
set_option maxRecDepth 100000 in
theorem lL_48 : LV "PaintedOverLaw" 48 RX12 yX12_says cX12_says 4 (some .int) 2 := ⟨tt_c5 103 (by decide +kernel) rfl, tt_c5 104 (by decide +kernel) rfl, tt_c5 105 (by decide +kernel) rfl, tt_c1 13 (by decide +kernel) rfl, tt_c5 106 rfl rfl, by decide, by decide +kernel⟩
set_option maxRecDepth 100000 in
theorem lX12_111 : LSt RX12 111 yX12_isUnder cX12_isUnder 3 (some .boolean) 2 := ⟨tt_c5 107 (by decide +kernel) rfl, tt_c5 108 (by decide +kernel) rfl, tt_c1 13 (by decide +kernel) rfl, tt_c5 109 rfl rfl, by decide, by decide +kernel⟩
set_option maxRecDepth 100000 in
theorem lX12_108 : LSt RX12 108 yX12_above cX12_above 1 (some .int) 1 := ⟨tt_c5 110 (by decide +kernel) rfl, tt_c5 111 (by decide +kernel) rfl, tt_c1 13 (by decide +kernel) rfl, tt_c5 112 rfl rfl, by decide, by decide +kernel⟩
set_option maxRecDepth 100000 in
theorem lX12_115 : LV RX12 115 RX12 yX12_skinOf cX12_skinOf 4 (some .int) 1 := ⟨tt_c5 113 (by decide +kernel) rfl, tt_c5 115 (by decide +kernel) rfl, tt_in 35 (by decide +kernel) rfl, tt_c1 13 (by decide +kernel) rfl, tt_c5 116 rfl rfl, by decide, by decide +kernel⟩
set_option maxRecDepth 100000 in
theorem lX12_234 : LV RX12 234 RX12 yX12_deepOf cX12_deepOf 3 (some .int) 2 := ⟨tt_c5 117 (by decide +kernel) rfl, tt_c5 119 (by decide +kernel) rfl, tt_in 36 (by decide +kernel) rfl, tt_c1 13 (by decide +kernel) rfl, tt_c5 120 rfl rfl, by decide, by decide +kernel⟩
set_option maxRecDepth 100000 in
theorem lX12_152 : LV RX12 152 RX12 yX12_lies cX12_lies 5 (some .int) 2 := ⟨tt_c5 121 (by decide +kernel) rfl, tt_c5 123 (by decide +kernel) rfl, tt_in 37 (by decide +kernel) rfl, tt_c1 13 (by decide +kernel) rfl, tt_c5 124 rfl rfl, by decide, by decide +kernel⟩
set_option maxRecDepth 100000 in
theorem lX12_155 : LSt RX12 155 yX12_has cX12_has 2 (some .boolean) 2 := ⟨tt_c5 125 (by decide +kernel) rfl, tt_c5 126 (by decide +kernel) rfl, tt_c1 13 (by decide +kernel) rfl, tt_c5 127 rfl rfl, by decide, by decide +kernel⟩
set_option maxRecDepth 100000 in
theorem lX12_231 : LV RX12 231 RX12 yX12_sum cX12_sum 5 (some .int) 2 := ⟨tt_c5 128 (by decide +kernel) rfl, tt_c5 130 (by decide +kernel) rfl, tt_in 38 (by decide +kernel) rfl, tt_c1 13 (by decide +kernel) rfl, tt_c5 131 rfl rfl, by decide, by decide +kernel⟩
set_option maxRecDepth 100000 in
theorem lX12_118 : LV RX12 118 RX12 yX12_wetOf cX12_wetOf 6 (some .int) 3 := ⟨tt_c5 132 (by decide +kernel) rfl, tt_c5 134 (by decide +kernel) rfl, tt_in 39 (by decide +kernel) rfl, tt_c1 13 (by decide +kernel) rfl, tt_c5 135 rfl rfl, by decide, by decide +kernel⟩
set_option maxRecDepth 100000 in
theorem lX12_122 : LV RX12 122 RX12 yX12_hard cX12_hard 6 (some .int) 3 := ⟨tt_c5 136 (by decide +kernel) rfl, tt_c5 138 (by decide +kernel) rfl, tt_in 40 (by decide +kernel) rfl, tt_c1 13 (by decide +kernel) rfl, tt_c5 139 rfl rfl, by decide, by decide +kernel⟩
set_option maxRecDepth 100000 in
theorem lX12_223 : LSt RX12 223 yJ9_max_7cf53 cJ9_max_7cf53 2 (some .int) 2 := ⟨tt_c5 140 (by decide +kernel) rfl, tt_c3 98 (by decide +kernel) rfl, tt_c1 15 (by decide +kernel) rfl, tt_c3 99 rfl rfl, by decide, by decide +kernel⟩
set_option maxRecDepth 100000 in
theorem lX12_125 : LV RX12 125 RX12 yX12_strength cX12_strength 4 (some .int) 2 := ⟨tt_c5 141 (by decide +kernel) rfl, tt_c5 143 (by decide +kernel) rfl, tt_in 41 (by decide +kernel) rfl, tt_c1 13 (by decide +kernel) rfl, tt_c5 144 rfl rfl, by decide, by decide +kernel⟩
set_option maxRecDepth 100000 in
theorem lL_52 : LV "PaintedOverLaw" 52 RX12 yX12_house cX12_house 3 (some .int) 2 := ⟨tt_c5 145 (by decide +kernel) rfl, tt_c5 146 (by decide +kernel) rfl, tt_c5 147 (by decide +kernel) rfl, tt_c1 13 (by decide +kernel) rfl, tt_c5 148 rfl rfl, by decide, by decide +kernel⟩
set_option maxRecDepth 100000 in
theorem lX12_133 : LV RX12 133 RX12 yX12_newHouse cX12_newHouse 3 (some .int) 2 := ⟨tt_c5 149 (by decide +kernel) rfl, tt_c5 151 (by decide +kernel) rfl, tt_in 42 (by decide +kernel) rfl, tt_c1 13 (by decide +kernel) rfl, tt_c5 152 rfl rfl, by decide, by decide +kernel⟩
set_option maxRecDepth 100000 in
theorem lX12_129 : LV RX12 129 RX12 yX12_bare cX12_bare 3 none 1 := ⟨tt_c5 153 (by decide +kernel) rfl, tt_c5 155 (by decide +kernel) rfl, tt_in 43 (by decide +kernel) rfl, tt_c1 13 (by decide +kernel) rfl, tt_c5 156 rfl rfl, by decide, by decide +kernel⟩
set_option maxRecDepth 100000 in
theorem lL_56 : LV "PaintedOverLaw" 56 RX12 yX12_houseOf cX12_houseOf 3 (some .int) 2 := ⟨tt_c5 157 (by decide +kernel) rfl, tt_c5 158 (by decide +kernel) rfl, tt_c5 159 (by decide +kernel) rfl, tt_c1 13 (by decide +kernel) rfl, tt_c5 160 rfl rfl, by decide, by decide +kernel⟩
set_option maxRecDepth 100000 in
theorem lX12_136 : LV RX12 136 RX12 yX12_lived cX12_lived 4 (some .int) 1 := ⟨tt_c5 161 (by decide +kernel) rfl, tt_c5 163 (by decide +kernel) rfl, tt_in 44 (by decide +kernel) rfl, tt_c1 13 (by decide +kernel) rfl, tt_c5 164 rfl rfl, by decide, by decide +kernel⟩
set_option maxRecDepth 100000 in
theorem lL_60 : LV "PaintedOverLaw" 60 RX12 yX12_colour cX12_colour 5 (some .int) 3 := ⟨tt_c5 165 (by decide +kernel) rfl, tt_c5 166 (by decide +kernel) rfl, tt_c5 167 (by decide +kernel) rfl, tt_c1 13 (by decide +kernel) rfl, tt_c5 168 rfl rfl, by decide, by decide +kernel⟩
set_option maxRecDepth 100000 in
theorem lL_64 : LV "PaintedOverLaw" 64 RX12 yX12_ask cX12_ask 4 (some .int) 2 := ⟨tt_c5 169 (by decide +kernel) rfl, tt_c5 170 (by decide +kernel) rfl, tt_c5 171 (by decide +kernel) rfl, tt_c1 13 (by decide +kernel) rfl, tt_c5 172 rfl rfl, by decide, by decide +kernel⟩
set_option maxRecDepth 100000 in
theorem lL_68 : LV "PaintedOverLaw" 68 RX12 yX12_coat cX12_coat 6 (some .int) 5 := ⟨tt_c5 173 (by decide +kernel) rfl, tt_c5 174 (by decide +kernel) rfl, tt_c5 175 (by decide +kernel) rfl, tt_c1 13 (by decide +kernel) rfl, tt_c5 176 rfl rfl, by decide, by decide +kernel⟩
set_option maxRecDepth 100000 in
theorem lX12_142 : LSt RX12 142 yX12_isCell cX12_isCell 1 (some .boolean) 1 := ⟨tt_c5 177 (by decide +kernel) rfl, tt_c5 178 (by decide +kernel) rfl, tt_c1 13 (by decide +kernel) rfl, tt_c5 179 rfl rfl, by decide, by decide +kernel⟩
set_option maxRecDepth 100000 in
theorem lX12_145 : LV RX12 145 RX12 yX12_paints cX12_paints 7 (some .int) 5 := ⟨tt_c5 180 (by decide +kernel) rfl, tt_c5 182 (by decide +kernel) rfl, tt_in 45 (by decide +kernel) rfl, tt_c1 13 (by decide +kernel) rfl, tt_c5 183 rfl rfl, by decide, by decide +kernel⟩
set_option maxRecDepth 100000 in
theorem lL_72 : LV "PaintedOverLaw" 72 RX12 yX12_coatOf cX12_coatOf 7 (some .int) 3 := ⟨tt_c5 184 (by decide +kernel) rfl, tt_c5 185 (by decide +kernel) rfl, tt_c5 186 (by decide +kernel) rfl, tt_c1 13 (by decide +kernel) rfl, tt_c5 187 rfl rfl, by decide, by decide +kernel⟩
set_option maxRecDepth 100000 in
theorem lX12_149 : LV RX12 149 RX12 yX12_isCoat cX12_isCoat 3 (some .boolean) 2 := ⟨tt_c5 188 (by decide +kernel) rfl, tt_c5 190 (by decide +kernel) rfl, tt_in 46 (by decide +kernel) rfl, tt_c1 13 (by decide +kernel) rfl, tt_c5 191 rfl rfl, by decide, by decide +kernel⟩
set_option maxRecDepth 100000 in
theorem lL_76 : LV "PaintedOverLaw" 76 RX12 yX12_street cX12_street 5 (some .int) 1 := ⟨tt_c5 192 (by decide +kernel) rfl, tt_c5 193 (by decide +kernel) rfl, tt_c5 194 (by decide +kernel) rfl, tt_c1 13 (by decide +kernel) rfl, tt_c5 195 rfl rfl, by decide, by decide +kernel⟩
set_option maxRecDepth 100000 in
theorem lX12_209 : LV RX12 209 RX12 yX12_keep cX12_keep 3 none 1 := ⟨tt_c5 196 (by decide +kernel) rfl, tt_c5 198 (by decide +kernel) rfl, tt_in 47 (by decide +kernel) rfl, tt_c1 13 (by decide +kernel) rfl, tt_c5 199 rfl rfl, by decide, by decide +kernel⟩
set_option maxRecDepth 100000 in
theorem lX12_213 : LV RX12 213 RX12 yX12_item cX12_item 4 (some .boolean) 0 := ⟨tt_c5 200 (by decide +kernel) rfl, tt_c5 202 (by decide +kernel) rfl, tt_in 48 (by decide +kernel) rfl, tt_c1 13 (by decide +kernel) rfl, tt_c5 203 rfl rfl, by decide, by decide +kernel⟩
set_option maxRecDepth 100000 in
theorem lX12_177 : LV RX12 177 RX12 yX12_is cX12_is 2 (some .boolean) 1 := ⟨tt_c5 204 (by decide +kernel) rfl, tt_c5 206 (by decide +kernel) rfl, tt_in 49 (by decide +kernel) rfl, tt_c1 13 (by decide +kernel) rfl, tt_c5 207 rfl rfl, by decide, by decide +kernel⟩
set_option maxRecDepth 100000 in
theorem lX12_164 : LV RX12 164 RX12 yX12_sign cX12_sign 1 (some .int) 0 := ⟨tt_c5 208 (by decide +kernel) rfl, tt_c5 210 (by decide +kernel) rfl, tt_in 50 (by decide +kernel) rfl, tt_c1 13 (by decide +kernel) rfl, tt_c5 211 rfl rfl, by decide, by decide +kernel⟩
set_option maxRecDepth 100000 in
theorem lX12_183 : LV RX12 183 RX12 yX12_word cX12_word 3 (some .boolean) 1 := ⟨tt_c5 213 (by decide +kernel) rfl, tt_c5 215 (by decide +kernel) rfl, tt_in 51 (by decide +kernel) rfl, tt_c1 13 (by decide +kernel) rfl, tt_c5 216 rfl rfl, by decide, by decide +kernel⟩
set_option maxRecDepth 100000 in
theorem lX12_168 : LV RX12 168 RJ0 yJ0_length_8abf5 cJ0_length_8abf5 1 (some .int) 0 := ⟨tt_c5 217 (by decide +kernel) rfl, tt_c3 46 (by decide +kernel) rfl, tt_c3 47 (by decide +kernel) rfl, tt_c1 16 (by decide +kernel) rfl, tt_c3 48 rfl rfl, by decide, by decide +kernel⟩
set_option maxRecDepth 100000 in
theorem lX12_173 : LV RX12 173 RJ0 yJ0_charAt_5068e cJ0_charAt_5068e 2 (some .char) 1 := ⟨tt_c5 218 (by decide +kernel) rfl, tt_c3 60 (by decide +kernel) rfl, tt_c3 61 (by decide +kernel) rfl, tt_c1 16 (by decide +kernel) rfl, tt_c3 62 rfl rfl, by decide, by decide +kernel⟩
set_option maxRecDepth 100000 in
theorem lX12_187 : LV RX12 187 RX12 yX12_number cX12_number 6 (some .boolean) 3 := ⟨tt_c5 219 (by decide +kernel) rfl, tt_c5 221 (by decide +kernel) rfl, tt_in 52 (by decide +kernel) rfl, tt_c1 13 (by decide +kernel) rfl, tt_c5 222 rfl rfl, by decide, by decide +kernel⟩
set_option maxRecDepth 100000 in
theorem lX12_190 : LV RX12 190 RX12 yX12_sign_ cX12_sign_ 2 (some .int) 1 := ⟨tt_c5 223 (by decide +kernel) rfl, tt_c5 225 (by decide +kernel) rfl, tt_in 53 (by decide +kernel) rfl, tt_c1 13 (by decide +kernel) rfl, tt_c5 226 rfl rfl, by decide, by decide +kernel⟩
set_option maxRecDepth 100000 in
theorem lX12_192 : LSt RX12 192 yJ6_highestOneBit_0f7a4 cJ6_highestOneBit_0f7a4 1 (some .int) 1 := ⟨tt_c5 227 (by decide +kernel) rfl, tt_c5 228 (by decide +kernel) rfl, tt_c1 20 (by decide +kernel) rfl, tt_c5 229 rfl rfl, by decide, by decide +kernel⟩
set_option maxRecDepth 100000 in
theorem lJ6_51 : LSt RJ6 51 yJ6_numberOfLeadingZeros_0f7a4 cJ6_numberOfLeadingZeros_0f7a4 2 (some .int) 1 := ⟨tt_c5 231 (by decide +kernel) rfl, tt_c5 232 (by decide +kernel) rfl, tt_c1 20 (by decide +kernel) rfl, tt_c5 233 rfl rfl, by decide, by decide +kernel⟩
set_option maxRecDepth 100000 in
theorem lX12_204 : LV RX12 204 RX12 yX12_hailAll cX12_hailAll 6 (some .int) 1 := ⟨tt_c5 239 (by decide +kernel) rfl, tt_c6 1 (by decide +kernel) rfl, tt_in 54 (by decide +kernel) rfl, tt_c1 13 (by decide +kernel) rfl, tt_c6 2 rfl rfl, by decide, by decide +kernel⟩
set_option maxRecDepth 100000 in
theorem lX12_246 : LV RX12 246 RX12 yX12_behind cX12_behind 7 (some .int) 3 := ⟨tt_c6 3 (by decide +kernel) rfl, tt_c6 5 (by decide +kernel) rfl, tt_in 55 (by decide +kernel) rfl, tt_c1 13 (by decide +kernel) rfl, tt_c6 6 rfl rfl, by decide, by decide +kernel⟩
set_option maxRecDepth 100000 in
theorem lX12_228 : LSt RX12 228 yJ6_numberOfLeadingZeros_0f7a4 cJ6_numberOfLeadingZeros_0f7a4 2 (some .int) 1 := ⟨tt_c6 7 (by decide +kernel) rfl, tt_c5 232 (by decide +kernel) rfl, tt_c1 20 (by decide +kernel) rfl, tt_c5 233 rfl rfl, by decide, by decide +kernel⟩
set_option maxRecDepth 100000 in
theorem lX12_266 : LSt RX12 266 yJ6_bitCount_0f7a4 cJ6_bitCount_0f7a4 1 (some .int) 1 := ⟨tt_c6 8 (by decide +kernel) rfl, tt_c3 143 (by decide +kernel) rfl, tt_c1 20 (by decide +kernel) rfl, tt_c3 144 rfl rfl, by decide, by decide +kernel⟩
set_option maxRecDepth 100000 in
theorem lX12_217 : LV RX12 217 RX12 yX12_again cX12_again 3 none 1 := ⟨tt_c6 10 (by decide +kernel) rfl, tt_c6 12 (by decide +kernel) rfl, tt_in 56 (by decide +kernel) rfl, tt_c1 13 (by decide +kernel) rfl, tt_c6 13 rfl rfl, by decide, by decide +kernel⟩
set_option maxRecDepth 100000 in
theorem lL_81 : LV "PaintedOverLaw" 81 RX12 yX12_fault cX12_fault 1 (some .int) 0 := ⟨tt_c6 14 (by decide +kernel) rfl, tt_c6 15 (by decide +kernel) rfl, tt_c6 16 (by decide +kernel) rfl, tt_c1 13 (by decide +kernel) rfl, tt_c6 17 rfl rfl, by decide, by decide +kernel⟩
set_option maxRecDepth 100000 in
theorem lL_85 : LV "PaintedOverLaw" 85 RX12 yX12_seen cX12_seen 4 (some .int) 3 := ⟨tt_c6 18 (by decide +kernel) rfl, tt_c6 19 (by decide +kernel) rfl, tt_c6 20 (by decide +kernel) rfl, tt_c1 13 (by decide +kernel) rfl, tt_c6 21 rfl rfl, by decide, by decide +kernel⟩
set_option maxRecDepth 100000 in
theorem lX12_237 : LV RX12 237 RX12 yX12_no10 cX12_no10 2 (some .int) 1 := ⟨tt_c6 22 (by decide +kernel) rfl, tt_c6 24 (by decide +kernel) rfl, tt_in 57 (by decide +kernel) rfl, tt_c1 13 (by decide +kernel) rfl, tt_c6 25 rfl rfl, by decide, by decide +kernel⟩
set_option maxRecDepth 100000 in
theorem lX12_240 : LSt RX12 240 yX12_isWeather cX12_isWeather 1 (some .boolean) 1 := ⟨tt_c6 26 (by decide +kernel) rfl, tt_c6 27 (by decide +kernel) rfl, tt_c1 13 (by decide +kernel) rfl, tt_c6 28 rfl rfl, by decide, by decide +kernel⟩
set_option maxRecDepth 100000 in
theorem lX12_243 : LV RX12 243 RX12 yX12_seenAt cX12_seenAt 4 (some .int) 3 := ⟨tt_c6 29 (by decide +kernel) rfl, tt_c6 31 (by decide +kernel) rfl, tt_in 58 (by decide +kernel) rfl, tt_c1 13 (by decide +kernel) rfl, tt_c6 32 rfl rfl, by decide, by decide +kernel⟩
set_option maxRecDepth 100000 in
theorem lX12_220 : LV RX12 220 RX12 yX12_seenIn cX12_seenIn 5 (some .int) 3 := ⟨tt_c6 33 (by decide +kernel) rfl, tt_c6 35 (by decide +kernel) rfl, tt_in 59 (by decide +kernel) rfl, tt_c1 13 (by decide +kernel) rfl, tt_c6 36 rfl rfl, by decide, by decide +kernel⟩
set_option maxRecDepth 100000 in
theorem lL_89 : LV "PaintedOverLaw" 89 RX12 yX12_wet cX12_wet 4 (some .int) 3 := ⟨tt_c6 37 (by decide +kernel) rfl, tt_c6 38 (by decide +kernel) rfl, tt_c6 39 (by decide +kernel) rfl, tt_c1 13 (by decide +kernel) rfl, tt_c6 40 rfl rfl, by decide, by decide +kernel⟩
set_option maxRecDepth 100000 in
theorem lL_93 : LV "PaintedOverLaw" 93 RX12 yX12_deep cX12_deep 3 (some .int) 2 := ⟨tt_c6 41 (by decide +kernel) rfl, tt_c6 42 (by decide +kernel) rfl, tt_c6 43 (by decide +kernel) rfl, tt_c1 13 (by decide +kernel) rfl, tt_c6 44 rfl rfl, by decide, by decide +kernel⟩
set_option maxRecDepth 100000 in
theorem lL_97 : LV "PaintedOverLaw" 97 RX12 yX12_skin cX12_skin 2 (some .int) 1 := ⟨tt_c6 45 (by decide +kernel) rfl, tt_c6 46 (by decide +kernel) rfl, tt_c6 47 (by decide +kernel) rfl, tt_c1 13 (by decide +kernel) rfl, tt_c6 48 rfl rfl, by decide, by decide +kernel⟩
set_option maxRecDepth 100000 in
theorem lL_101 : LV "PaintedOverLaw" 101 RX12 yX12_hailed cX12_hailed 4 (some .int) 3 := ⟨tt_c6 49 (by decide +kernel) rfl, tt_c6 50 (by decide +kernel) rfl, tt_c6 51 (by decide +kernel) rfl, tt_c1 13 (by decide +kernel) rfl, tt_c6 52 rfl rfl, by decide, by decide +kernel⟩
set_option maxRecDepth 100000 in
theorem lL_105 : LV "PaintedOverLaw" 105 RX12 yX12_razor cX12_razor 9 (some .int) 3 := ⟨tt_c6 53 (by decide +kernel) rfl, tt_c6 54 (by decide +kernel) rfl, tt_c6 55 (by decide +kernel) rfl, tt_c1 13 (by decide +kernel) rfl, tt_c6 56 rfl rfl, by decide, by decide +kernel⟩
set_option maxRecDepth 100000 in
theorem lL_109 : LV "PaintedOverLaw" 109 RX12 yX12_hidden cX12_hidden 3 (some .int) 2 := ⟨tt_c6 57 (by decide +kernel) rfl, tt_c6 58 (by decide +kernel) rfl, tt_c6 59 (by decide +kernel) rfl, tt_c1 13 (by decide +kernel) rfl, tt_c6 60 rfl rfl, by decide, by decide +kernel⟩
set_option maxRecDepth 100000 in
theorem lX12_249 : LV RX12 249 RX12 yX12_seenAll cX12_seenAll 6 (some .int) 2 := ⟨tt_c6 61 (by decide +kernel) rfl, tt_c6 63 (by decide +kernel) rfl, tt_in 60 (by decide +kernel) rfl, tt_c1 13 (by decide +kernel) rfl, tt_c6 64 rfl rfl, by decide, by decide +kernel⟩
set_option maxRecDepth 100000 in
theorem lL_113 : LV "PaintedOverLaw" 113 RX12 yX12_shown cX12_shown 6 (some .int) 2 := ⟨tt_c6 65 (by decide +kernel) rfl, tt_c6 66 (by decide +kernel) rfl, tt_c6 67 (by decide +kernel) rfl, tt_c1 13 (by decide +kernel) rfl, tt_c6 68 rfl rfl, by decide, by decide +kernel⟩
set_option maxRecDepth 100000 in
theorem lL_117 : LV "PaintedOverLaw" 117 RX12 yX12_firstWet cX12_firstWet 4 (some .int) 2 := ⟨tt_c6 69 (by decide +kernel) rfl, tt_c6 70 (by decide +kernel) rfl, tt_c6 71 (by decide +kernel) rfl, tt_c1 13 (by decide +kernel) rfl, tt_c6 72 rfl rfl, by decide, by decide +kernel⟩
set_option maxRecDepth 100000 in
theorem lL_121 : LV "PaintedOverLaw" 121 RX12 yX12_paint cX12_paint 10 (some .int) 3 := ⟨tt_c6 73 (by decide +kernel) rfl, tt_c6 74 (by decide +kernel) rfl, tt_c6 75 (by decide +kernel) rfl, tt_c1 13 (by decide +kernel) rfl, tt_c6 76 rfl rfl, by decide, by decide +kernel⟩
set_option maxRecDepth 100000 in
theorem lL_125 : LV "PaintedOverLaw" 125 RX12 yX12_gap cX12_gap 6 (some .int) 2 := ⟨tt_c6 77 (by decide +kernel) rfl, tt_c6 78 (by decide +kernel) rfl, tt_c6 79 (by decide +kernel) rfl, tt_c1 13 (by decide +kernel) rfl, tt_c6 80 rfl rfl, by decide, by decide +kernel⟩
set_option maxRecDepth 100000 in
theorem lL_129 : LV "PaintedOverLaw" 129 RX12 yX12_moves cX12_moves 7 (some .int) 2 := ⟨tt_c6 81 (by decide +kernel) rfl, tt_c6 82 (by decide +kernel) rfl, tt_c6 83 (by decide +kernel) rfl, tt_c1 13 (by decide +kernel) rfl, tt_c6 84 rfl rfl, by decide, by decide +kernel⟩
set_option maxRecDepth 100000 in
theorem lL_133 : LV "PaintedOverLaw" 133 RX12 yX12_orders cX12_orders 9 (some .int) 3 := ⟨tt_c6 85 (by decide +kernel) rfl, tt_c6 86 (by decide +kernel) rfl, tt_c6 87 (by decide +kernel) rfl, tt_c1 13 (by decide +kernel) rfl, tt_c6 88 rfl rfl, by decide, by decide +kernel⟩
set_option maxRecDepth 100000 in
theorem lX12_258 : LV RX12 258 RX12 yX12_noPairs cX12_noPairs 7 (some .int) 3 := ⟨tt_c6 89 (by decide +kernel) rfl, tt_c6 91 (by decide +kernel) rfl, tt_in 61 (by decide +kernel) rfl, tt_c1 13 (by decide +kernel) rfl, tt_c6 92 rfl rfl, by decide, by decide +kernel⟩
set_option maxRecDepth 100000 in
theorem lX12_262 : LV RX12 262 RX12 yX12_pairs cX12_pairs 5 none 2 := ⟨tt_c6 93 (by decide +kernel) rfl, tt_c6 95 (by decide +kernel) rfl, tt_in 62 (by decide +kernel) rfl, tt_c1 13 (by decide +kernel) rfl, tt_c6 96 rfl rfl, by decide, by decide +kernel⟩
set_option maxRecDepth 100000 in
theorem lX12_255 : LV RX12 255 RX12 yX12_ordersFrom cX12_ordersFrom 4 (some .int) 1 := ⟨tt_c6 97 (by decide +kernel) rfl, tt_c6 99 (by decide +kernel) rfl, tt_in 63 (by decide +kernel) rfl, tt_c1 13 (by decide +kernel) rfl, tt_c6 100 rfl rfl, by decide, by decide +kernel⟩
set_option maxRecDepth 100000 in
theorem lL_137 : LV "PaintedOverLaw" 137 RX12 yX12_forged cX12_forged 5 (some .int) 2 := ⟨tt_c6 101 (by decide +kernel) rfl, tt_c6 102 (by decide +kernel) rfl, tt_c6 103 (by decide +kernel) rfl, tt_c1 13 (by decide +kernel) rfl, tt_c6 104 rfl rfl, by decide, by decide +kernel⟩
set_option maxRecDepth 100000 in
theorem lL_141 : LV "PaintedOverLaw" 141 RX12 yX12_lane cX12_lane 3 (some .int) 2 := ⟨tt_c6 105 (by decide +kernel) rfl, tt_c6 106 (by decide +kernel) rfl, tt_c6 107 (by decide +kernel) rfl, tt_c1 13 (by decide +kernel) rfl, tt_c6 108 rfl rfl, by decide, by decide +kernel⟩
set_option maxRecDepth 100000 in
theorem lX12_269 : LV RX12 269 RX12 yX12_deepest cX12_deepest 4 (some .int) 1 := ⟨tt_c6 109 (by decide +kernel) rfl, tt_c6 111 (by decide +kernel) rfl, tt_in 64 (by decide +kernel) rfl, tt_c1 13 (by decide +kernel) rfl, tt_c6 112 rfl rfl, by decide, by decide +kernel⟩
set_option maxRecDepth 100000 in
theorem lL_145 : LV "PaintedOverLaw" 145 RX12 yX12_price cX12_price 7 (some .int) 2 := ⟨tt_c6 113 (by decide +kernel) rfl, tt_c6 114 (by decide +kernel) rfl, tt_c6 115 (by decide +kernel) rfl, tt_c1 13 (by decide +kernel) rfl, tt_c6 116 rfl rfl, by decide, by decide +kernel⟩
set_option maxRecDepth 100000 in
theorem lL_149 : LV "PaintedOverLaw" 149 RX12 yX12_hail cX12_hail 2 (some .int) 1 := ⟨tt_c6 117 (by decide +kernel) rfl, tt_c6 118 (by decide +kernel) rfl, tt_c6 119 (by decide +kernel) rfl, tt_c1 13 (by decide +kernel) rfl, tt_c6 120 rfl rfl, by decide, by decide +kernel⟩
set_option maxRecDepth 100000 in
theorem lL_153 : LV "PaintedOverLaw" 153 RX12 yX12_scratch cX12_scratch 5 (some .int) 2 := ⟨tt_c6 121 (by decide +kernel) rfl, tt_c6 122 (by decide +kernel) rfl, tt_c6 123 (by decide +kernel) rfl, tt_c1 13 (by decide +kernel) rfl, tt_c6 124 rfl rfl, by decide, by decide +kernel⟩
set_option maxRecDepth 100000 in
theorem lL_157 : LV "PaintedOverLaw" 157 RX12 yX12_falls cX12_falls 1 (some .int) 0 := ⟨tt_c6 125 (by decide +kernel) rfl, tt_c6 126 (by decide +kernel) rfl, tt_c6 127 (by decide +kernel) rfl, tt_c1 13 (by decide +kernel) rfl, tt_c6 128 rfl rfl, by decide, by decide +kernel⟩
set_option maxRecDepth 100000 in
theorem lX12_275 : LV RX12 275 RX12 yX12_fall cX12_fall 3 (some .int) 0 := ⟨tt_c6 129 (by decide +kernel) rfl, tt_c6 131 (by decide +kernel) rfl, tt_in 65 (by decide +kernel) rfl, tt_c1 13 (by decide +kernel) rfl, tt_c6 132 rfl rfl, by decide, by decide +kernel⟩
set_option maxRecDepth 100000 in
theorem lL_161 : LV "PaintedOverLaw" 161 RX12 yX12_years cX12_years 9 (some .int) 1 := ⟨tt_c6 133 (by decide +kernel) rfl, tt_c6 134 (by decide +kernel) rfl, tt_c6 135 (by decide +kernel) rfl, tt_c1 13 (by decide +kernel) rfl, tt_c6 136 rfl rfl, by decide, by decide +kernel⟩
set_option maxRecDepth 100000 in
theorem lX12_279 : LV RX12 279 RX12 yX12_draw cX12_draw 2 (some .int) 1 := ⟨tt_c6 137 (by decide +kernel) rfl, tt_c6 139 (by decide +kernel) rfl, tt_in 66 (by decide +kernel) rfl, tt_c1 13 (by decide +kernel) rfl, tt_c6 140 rfl rfl, by decide, by decide +kernel⟩
set_option maxRecDepth 100000 in
theorem lL_165 : LV "PaintedOverLaw" 165 RX12 yX12_seed cX12_seed 3 (some .int) 1 := ⟨tt_c6 142 (by decide +kernel) rfl, tt_c6 143 (by decide +kernel) rfl, tt_c6 144 (by decide +kernel) rfl, tt_c1 13 (by decide +kernel) rfl, tt_c6 145 rfl rfl, by decide, by decide +kernel⟩
set_option maxRecDepth 100000 in
theorem lL_169 : LV "PaintedOverLaw" 169 RX12 yX12_act cX12_act 4 (some .int) 3 := ⟨tt_c6 146 (by decide +kernel) rfl, tt_c6 147 (by decide +kernel) rfl, tt_c6 148 (by decide +kernel) rfl, tt_c1 13 (by decide +kernel) rfl, tt_c6 149 rfl rfl, by decide, by decide +kernel⟩
set_option maxRecDepth 100000 in
theorem lX12_288 : LV RX12 288 RX12 yX12_paintsAct cX12_paintsAct 5 (some .int) 2 := ⟨tt_c6 150 (by decide +kernel) rfl, tt_c6 152 (by decide +kernel) rfl, tt_in 67 (by decide +kernel) rfl, tt_c1 13 (by decide +kernel) rfl, tt_c6 153 rfl rfl, by decide, by decide +kernel⟩
set_option maxRecDepth 100000 in
theorem lX12_285 : LV RX12 285 RX12 yX12_ran cX12_ran 2 none 1 := ⟨tt_c6 154 (by decide +kernel) rfl, tt_c6 156 (by decide +kernel) rfl, tt_in 68 (by decide +kernel) rfl, tt_c1 13 (by decide +kernel) rfl, tt_c6 157 rfl rfl, by decide, by decide +kernel⟩
set_option maxRecDepth 100000 in
theorem lX12_291 : LV RX12 291 RX12 yX12_peels cX12_peels 7 (some .int) 2 := ⟨tt_c6 158 (by decide +kernel) rfl, tt_c6 160 (by decide +kernel) rfl, tt_in 69 (by decide +kernel) rfl, tt_c1 13 (by decide +kernel) rfl, tt_c6 161 rfl rfl, by decide, by decide +kernel⟩
set_option maxRecDepth 100000 in
theorem lX12_294 : LV RX12 294 RX12 yX12_fallsAct cX12_fallsAct 5 (some .int) 2 := ⟨tt_c6 162 (by decide +kernel) rfl, tt_c6 164 (by decide +kernel) rfl, tt_in 70 (by decide +kernel) rfl, tt_c1 13 (by decide +kernel) rfl, tt_c6 165 rfl rfl, by decide, by decide +kernel⟩
set_option maxRecDepth 100000 in
theorem lL_173 : LV "PaintedOverLaw" 173 RX12 yX12_trace cX12_trace 2 (some .int) 1 := ⟨tt_c6 166 (by decide +kernel) rfl, tt_c6 167 (by decide +kernel) rfl, tt_c6 168 (by decide +kernel) rfl, tt_c1 13 (by decide +kernel) rfl, tt_c6 169 rfl rfl, by decide, by decide +kernel⟩
set_option maxRecDepth 100000 in
theorem lL_177 : LV "PaintedOverLaw" 177 RX12 yX12_image cX12_image 1 (some .int) 0 := ⟨tt_c6 170 (by decide +kernel) rfl, tt_c6 171 (by decide +kernel) rfl, tt_c6 172 (by decide +kernel) rfl, tt_c1 13 (by decide +kernel) rfl, tt_c6 173 rfl rfl, by decide, by decide +kernel⟩
set_option maxRecDepth 100000 in
theorem lL_181 : LV "PaintedOverLaw" 181 RX12 yX12_restore cX12_restore 2 (some .int) 0 := ⟨tt_c6 174 (by decide +kernel) rfl, tt_c6 175 (by decide +kernel) rfl, tt_c6 176 (by decide +kernel) rfl, tt_c1 13 (by decide +kernel) rfl, tt_c6 177 rfl rfl, by decide, by decide +kernel⟩
set_option maxRecDepth 100000 in
theorem lL_185 : LV "PaintedOverLaw" 185 RX12 yX12_status cX12_status 4 (some .int) 1 := ⟨tt_c6 178 (by decide +kernel) rfl, tt_c6 179 (by decide +kernel) rfl, tt_c6 180 (by decide +kernel) rfl, tt_c1 13 (by decide +kernel) rfl, tt_c6 181 rfl rfl, by decide, by decide +kernel⟩
end
