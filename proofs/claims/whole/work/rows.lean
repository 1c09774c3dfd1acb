section
-- ===== PART A: goes FIRST, ahead of the names: the tables' words, and 'selects' of the private methods out of them =====
/-- a private method of a class that the tables say can be made, by its rows of tables_1 -/
def lw_okq (q : MethodName × Nat) : Prop := (q.1.cls ≠ "java/lang/invoke/MethodHandle" ∧ q.1.cls ≠ "java/lang/invoke/VarHandle") ∧ Cond.instantiable q.1.cls q.2 ∈ tables_1 ∧ Cond.privateMethod q.1 ∈ tables_1 ∧ Cond.instanceMethod q.1 ∈ tables_1
theorem lw_p0 : lw_okq (⟨"PaintedOver", "refuse", "(I)I"⟩, 14) := ⟨⟨by decide +kernel, by decide +kernel⟩, List.mem_of_getElem? (i := 22) (by decide +kernel), List.mem_of_getElem? (i := 293) (by decide +kernel), List.mem_of_getElem? (i := 294) (by decide +kernel)⟩
theorem lw_p1 : lw_okq (⟨"PaintedOver", "refuseDown", "(II)I"⟩, 14) := ⟨⟨by decide +kernel, by decide +kernel⟩, List.mem_of_getElem? (i := 22) (by decide +kernel), List.mem_of_getElem? (i := 297) (by decide +kernel), List.mem_of_getElem? (i := 298) (by decide +kernel)⟩
theorem lw_p2 : lw_okq (⟨"PaintedOver", "rowTrouble", "(I)I"⟩, 14) := ⟨⟨by decide +kernel, by decide +kernel⟩, List.mem_of_getElem? (i := 22) (by decide +kernel), List.mem_of_getElem? (i := 305) (by decide +kernel), List.mem_of_getElem? (i := 306) (by decide +kernel)⟩
theorem lw_p3 : lw_okq (⟨"PaintedOver", "holdsHouse", "(I)Z"⟩, 14) := ⟨⟨by decide +kernel, by decide +kernel⟩, List.mem_of_getElem? (i := 22) (by decide +kernel), List.mem_of_getElem? (i := 309) (by decide +kernel), List.mem_of_getElem? (i := 310) (by decide +kernel)⟩
theorem lw_p4 : lw_okq (⟨"PaintedOver", "holdsRow", "(I)Z"⟩, 14) := ⟨⟨by decide +kernel, by decide +kernel⟩, List.mem_of_getElem? (i := 22) (by decide +kernel), List.mem_of_getElem? (i := 313) (by decide +kernel), List.mem_of_getElem? (i := 314) (by decide +kernel)⟩
theorem lw_p5 : lw_okq (⟨"PaintedOver", "noSuchPart", "(III)Z"⟩, 14) := ⟨⟨by decide +kernel, by decide +kernel⟩, List.mem_of_getElem? (i := 22) (by decide +kernel), List.mem_of_getElem? (i := 324) (by decide +kernel), List.mem_of_getElem? (i := 325) (by decide +kernel)⟩
theorem lw_p6 : lw_okq (⟨"PaintedOver", "noHouse", "(I)Z"⟩, 14) := ⟨⟨by decide +kernel, by decide +kernel⟩, List.mem_of_getElem? (i := 22) (by decide +kernel), List.mem_of_getElem? (i := 339) (by decide +kernel), List.mem_of_getElem? (i := 340) (by decide +kernel)⟩
theorem lw_p7 : lw_okq (⟨"PaintedOver", "saidBy", "(LPaintedOver$Front;I)I"⟩, 14) := ⟨⟨by decide +kernel, by decide +kernel⟩, List.mem_of_getElem? (i := 22) (by decide +kernel), List.mem_of_getElem? (i := 354) (by decide +kernel), List.mem_of_getElem? (i := 355) (by decide +kernel)⟩
theorem lw_p8 : lw_okq (⟨"PaintedOver", "strengthOfHighest", "(LPaintedOver$Front;)I"⟩, 14) := ⟨⟨by decide +kernel, by decide +kernel⟩, List.mem_of_getElem? (i := 22) (by decide +kernel), List.mem_of_getElem? (i := 401) (by decide +kernel), List.mem_of_getElem? (i := 402) (by decide +kernel)⟩
theorem lw_p9 : lw_okq (⟨"PaintedOver", "noCoat", "(II)Z"⟩, 14) := ⟨⟨by decide +kernel, by decide +kernel⟩, List.mem_of_getElem? (i := 22) (by decide +kernel), List.mem_of_getElem? (i := 479) (by decide +kernel), List.mem_of_getElem? (i := 480) (by decide +kernel)⟩
theorem lw_p10 : lw_okq (⟨"PaintedOver$Reader", "readItem", "()V"⟩, 6) := ⟨⟨by decide +kernel, by decide +kernel⟩, List.mem_of_getElem? (i := 32) (by decide +kernel), List.mem_of_getElem? (i := 505) (by decide +kernel), List.mem_of_getElem? (i := 506) (by decide +kernel)⟩
theorem lw_p11 : lw_okq (⟨"PaintedOver$Reader", "readWord", "()I"⟩, 6) := ⟨⟨by decide +kernel, by decide +kernel⟩, List.mem_of_getElem? (i := 32) (by decide +kernel), List.mem_of_getElem? (i := 509) (by decide +kernel), List.mem_of_getElem? (i := 510) (by decide +kernel)⟩
theorem lw_p12 : lw_okq (⟨"PaintedOver$Reader", "sameLetters", "(Ljava/lang/String;)I"⟩, 6) := ⟨⟨by decide +kernel, by decide +kernel⟩, List.mem_of_getElem? (i := 32) (by decide +kernel), List.mem_of_getElem? (i := 522) (by decide +kernel), List.mem_of_getElem? (i := 523) (by decide +kernel)⟩
theorem lw_p13 : lw_okq (⟨"PaintedOver$Reader", "elementAt", "(I)I"⟩, 6) := ⟨⟨by decide +kernel, by decide +kernel⟩, List.mem_of_getElem? (i := 32) (by decide +kernel), List.mem_of_getElem? (i := 536) (by decide +kernel), List.mem_of_getElem? (i := 537) (by decide +kernel)⟩
theorem lw_p14 : lw_okq (⟨"PaintedOver$Reader", "readHouse", "(I)V"⟩, 6) := ⟨⟨by decide +kernel, by decide +kernel⟩, List.mem_of_getElem? (i := 32) (by decide +kernel), List.mem_of_getElem? (i := 581) (by decide +kernel), List.mem_of_getElem? (i := 582) (by decide +kernel)⟩
theorem lw_p15 : lw_okq (⟨"PaintedOver$Reader", "readNumber", "(II)I"⟩, 6) := ⟨⟨by decide +kernel, by decide +kernel⟩, List.mem_of_getElem? (i := 32) (by decide +kernel), List.mem_of_getElem? (i := 585) (by decide +kernel), List.mem_of_getElem? (i := 586) (by decide +kernel)⟩
def lw_privs_1 : List (MethodName × Nat) := [(⟨"PaintedOver", "refuse", "(I)I"⟩, 14), (⟨"PaintedOver", "refuseDown", "(II)I"⟩, 14), (⟨"PaintedOver", "rowTrouble", "(I)I"⟩, 14), (⟨"PaintedOver", "holdsHouse", "(I)Z"⟩, 14), (⟨"PaintedOver", "holdsRow", "(I)Z"⟩, 14), (⟨"PaintedOver", "noSuchPart", "(III)Z"⟩, 14), (⟨"PaintedOver", "noHouse", "(I)Z"⟩, 14), (⟨"PaintedOver", "saidBy", "(LPaintedOver$Front;I)I"⟩, 14), (⟨"PaintedOver", "strengthOfHighest", "(LPaintedOver$Front;)I"⟩, 14), (⟨"PaintedOver", "noCoat", "(II)Z"⟩, 14), (⟨"PaintedOver$Reader", "readItem", "()V"⟩, 6), (⟨"PaintedOver$Reader", "readWord", "()I"⟩, 6), (⟨"PaintedOver$Reader", "sameLetters", "(Ljava/lang/String;)I"⟩, 6), (⟨"PaintedOver$Reader", "elementAt", "(I)I"⟩, 6), (⟨"PaintedOver$Reader", "readHouse", "(I)V"⟩, 6), (⟨"PaintedOver$Reader", "readNumber", "(II)I"⟩, 6)]
theorem lw_r1 : ∀ q ∈ lw_privs_1, lw_okq q := List.forall_mem_cons.mpr ⟨lw_p0, List.forall_mem_cons.mpr ⟨lw_p1, List.forall_mem_cons.mpr ⟨lw_p2, List.forall_mem_cons.mpr ⟨lw_p3, List.forall_mem_cons.mpr ⟨lw_p4, List.forall_mem_cons.mpr ⟨lw_p5, List.forall_mem_cons.mpr ⟨lw_p6, List.forall_mem_cons.mpr ⟨lw_p7, List.forall_mem_cons.mpr ⟨lw_p8, List.forall_mem_cons.mpr ⟨lw_p9, List.forall_mem_cons.mpr ⟨lw_p10, List.forall_mem_cons.mpr ⟨lw_p11, List.forall_mem_cons.mpr ⟨lw_p12, List.forall_mem_cons.mpr ⟨lw_p13, List.forall_mem_cons.mpr ⟨lw_p14, List.forall_mem_cons.mpr ⟨lw_p15, fun _ h => absurd h List.not_mem_nil⟩⟩⟩⟩⟩⟩⟩⟩⟩⟩⟩⟩⟩⟩⟩⟩
theorem lw_p16 : lw_okq (⟨"PaintedOver$Reader", "stands", "(I)Z"⟩, 6) := ⟨⟨by decide +kernel, by decide +kernel⟩, List.mem_of_getElem? (i := 32) (by decide +kernel), List.mem_of_getElem? (i := 589) (by decide +kernel), List.mem_of_getElem? (i := 590) (by decide +kernel)⟩
theorem lw_p17 : lw_okq (⟨"PaintedOver$Reader", "isDigit", "(I)Z"⟩, 6) := ⟨⟨by decide +kernel, by decide +kernel⟩, List.mem_of_getElem? (i := 32) (by decide +kernel), List.mem_of_getElem? (i := 593) (by decide +kernel), List.mem_of_getElem? (i := 594) (by decide +kernel)⟩
theorem lw_p18 : lw_okq (⟨"PaintedOver$Reader", "readCoat", "()V"⟩, 6) := ⟨⟨by decide +kernel, by decide +kernel⟩, List.mem_of_getElem? (i := 32) (by decide +kernel), List.mem_of_getElem? (i := 598) (by decide +kernel), List.mem_of_getElem? (i := 599) (by decide +kernel)⟩
theorem lw_p19 : lw_okq (⟨"PaintedOver$Reader", "readColour", "([II)V"⟩, 6) := ⟨⟨by decide +kernel, by decide +kernel⟩, List.mem_of_getElem? (i := 32) (by decide +kernel), List.mem_of_getElem? (i := 603) (by decide +kernel), List.mem_of_getElem? (i := 604) (by decide +kernel)⟩
theorem lw_p20 : lw_okq (⟨"PaintedOver$Reader", "readScratch", "()V"⟩, 6) := ⟨⟨by decide +kernel, by decide +kernel⟩, List.mem_of_getElem? (i := 32) (by decide +kernel), List.mem_of_getElem? (i := 629) (by decide +kernel), List.mem_of_getElem? (i := 630) (by decide +kernel)⟩
theorem lw_p21 : lw_okq (⟨"PaintedOver", "cheapest", "(LPaintedOver$Front;I)I"⟩, 14) := ⟨⟨by decide +kernel, by decide +kernel⟩, List.mem_of_getElem? (i := 22) (by decide +kernel), List.mem_of_getElem? (i := 705) (by decide +kernel), List.mem_of_getElem? (i := 706) (by decide +kernel)⟩
theorem lw_p22 : lw_okq (⟨"PaintedOver", "pairsTrouble", "(IIZ)I"⟩, 14) := ⟨⟨by decide +kernel, by decide +kernel⟩, List.mem_of_getElem? (i := 22) (by decide +kernel), List.mem_of_getElem? (i := 725) (by decide +kernel), List.mem_of_getElem? (i := 726) (by decide +kernel)⟩
theorem lw_p23 : lw_okq (⟨"PaintedOver", "forgetPairs", "()V"⟩, 14) := ⟨⟨by decide +kernel, by decide +kernel⟩, List.mem_of_getElem? (i := 22) (by decide +kernel), List.mem_of_getElem? (i := 732) (by decide +kernel), List.mem_of_getElem? (i := 733) (by decide +kernel)⟩
theorem lw_p24 : lw_okq (⟨"PaintedOver", "addPair", "(I)V"⟩, 14) := ⟨⟨by decide +kernel, by decide +kernel⟩, List.mem_of_getElem? (i := 22) (by decide +kernel), List.mem_of_getElem? (i := 736) (by decide +kernel), List.mem_of_getElem? (i := 737) (by decide +kernel)⟩
theorem lw_p25 : lw_okq (⟨"PaintedOver", "countOrders", "()I"⟩, 14) := ⟨⟨by decide +kernel, by decide +kernel⟩, List.mem_of_getElem? (i := 22) (by decide +kernel), List.mem_of_getElem? (i := 740) (by decide +kernel), List.mem_of_getElem? (i := 741) (by decide +kernel)⟩
theorem lw_p26 : lw_okq (⟨"PaintedOver", "mayComeOn", "(II)Z"⟩, 14) := ⟨⟨by decide +kernel, by decide +kernel⟩, List.mem_of_getElem? (i := 22) (by decide +kernel), List.mem_of_getElem? (i := 744) (by decide +kernel), List.mem_of_getElem? (i := 745) (by decide +kernel)⟩
theorem lw_p27 : lw_okq (⟨"PaintedOver", "orderFits", "()Z"⟩, 14) := ⟨⟨by decide +kernel, by decide +kernel⟩, List.mem_of_getElem? (i := 22) (by decide +kernel), List.mem_of_getElem? (i := 749) (by decide +kernel), List.mem_of_getElem? (i := 750) (by decide +kernel)⟩
theorem lw_p28 : lw_okq (⟨"PaintedOver", "lowestOn", "(I)I"⟩, 14) := ⟨⟨by decide +kernel, by decide +kernel⟩, List.mem_of_getElem? (i := 22) (by decide +kernel), List.mem_of_getElem? (i := 753) (by decide +kernel), List.mem_of_getElem? (i := 754) (by decide +kernel)⟩
theorem lw_p29 : lw_okq (⟨"PaintedOver", "inFirstOrder", "(I)I"⟩, 14) := ⟨⟨by decide +kernel, by decide +kernel⟩, List.mem_of_getElem? (i := 22) (by decide +kernel), List.mem_of_getElem? (i := 757) (by decide +kernel), List.mem_of_getElem? (i := 758) (by decide +kernel)⟩
theorem lw_p30 : lw_okq (⟨"PaintedOver$Town", "draw", "(I)I"⟩, 10) := ⟨⟨by decide +kernel, by decide +kernel⟩, List.mem_of_getElem? (i := 138) (by decide +kernel), List.mem_of_getElem? (i := 804) (by decide +kernel), List.mem_of_getElem? (i := 805) (by decide +kernel)⟩
theorem lw_p31 : lw_okq (⟨"PaintedOverModel", "no", "(I)I"⟩, 33) := ⟨⟨by decide +kernel, by decide +kernel⟩, List.mem_of_getElem? (i := 915) (by decide +kernel), List.mem_of_getElem? (i := 1028) (by decide +kernel), List.mem_of_getElem? (i := 1029) (by decide +kernel)⟩
def lw_privs_2 : List (MethodName × Nat) := [(⟨"PaintedOver$Reader", "stands", "(I)Z"⟩, 6), (⟨"PaintedOver$Reader", "isDigit", "(I)Z"⟩, 6), (⟨"PaintedOver$Reader", "readCoat", "()V"⟩, 6), (⟨"PaintedOver$Reader", "readColour", "([II)V"⟩, 6), (⟨"PaintedOver$Reader", "readScratch", "()V"⟩, 6), (⟨"PaintedOver", "cheapest", "(LPaintedOver$Front;I)I"⟩, 14), (⟨"PaintedOver", "pairsTrouble", "(IIZ)I"⟩, 14), (⟨"PaintedOver", "forgetPairs", "()V"⟩, 14), (⟨"PaintedOver", "addPair", "(I)V"⟩, 14), (⟨"PaintedOver", "countOrders", "()I"⟩, 14), (⟨"PaintedOver", "mayComeOn", "(II)Z"⟩, 14), (⟨"PaintedOver", "orderFits", "()Z"⟩, 14), (⟨"PaintedOver", "lowestOn", "(I)I"⟩, 14), (⟨"PaintedOver", "inFirstOrder", "(I)I"⟩, 14), (⟨"PaintedOver$Town", "draw", "(I)I"⟩, 10), (⟨"PaintedOverModel", "no", "(I)I"⟩, 33)]
theorem lw_r2 : ∀ q ∈ lw_privs_2, lw_okq q := List.forall_mem_cons.mpr ⟨lw_p16, List.forall_mem_cons.mpr ⟨lw_p17, List.forall_mem_cons.mpr ⟨lw_p18, List.forall_mem_cons.mpr ⟨lw_p19, List.forall_mem_cons.mpr ⟨lw_p20, List.forall_mem_cons.mpr ⟨lw_p21, List.forall_mem_cons.mpr ⟨lw_p22, List.forall_mem_cons.mpr ⟨lw_p23, List.forall_mem_cons.mpr ⟨lw_p24, List.forall_mem_cons.mpr ⟨lw_p25, List.forall_mem_cons.mpr ⟨lw_p26, List.forall_mem_cons.mpr ⟨lw_p27, List.forall_mem_cons.mpr ⟨lw_p28, List.forall_mem_cons.mpr ⟨lw_p29, List.forall_mem_cons.mpr ⟨lw_p30, List.forall_mem_cons.mpr ⟨lw_p31, fun _ h => absurd h List.not_mem_nil⟩⟩⟩⟩⟩⟩⟩⟩⟩⟩⟩⟩⟩⟩⟩⟩
theorem lw_p32 : lw_okq (⟨"PaintedOverModel", "noRow", "(I)I"⟩, 33) := ⟨⟨by decide +kernel, by decide +kernel⟩, List.mem_of_getElem? (i := 915) (by decide +kernel), List.mem_of_getElem? (i := 1036) (by decide +kernel), List.mem_of_getElem? (i := 1037) (by decide +kernel)⟩
theorem lw_p33 : lw_okq (⟨"PaintedOverModel", "isRow", "(I)Z"⟩, 33) := ⟨⟨by decide +kernel, by decide +kernel⟩, List.mem_of_getElem? (i := 915) (by decide +kernel), List.mem_of_getElem? (i := 1040) (by decide +kernel), List.mem_of_getElem? (i := 1041) (by decide +kernel)⟩
theorem lw_p34 : lw_okq (⟨"PaintedOverModel", "isHouse", "(I)Z"⟩, 33) := ⟨⟨by decide +kernel, by decide +kernel⟩, List.mem_of_getElem? (i := 915) (by decide +kernel), List.mem_of_getElem? (i := 1056) (by decide +kernel), List.mem_of_getElem? (i := 1057) (by decide +kernel)⟩
theorem lw_p35 : lw_okq (⟨"PaintedOverModel", "skinOf", "(I)I"⟩, 33) := ⟨⟨by decide +kernel, by decide +kernel⟩, List.mem_of_getElem? (i := 915) (by decide +kernel), List.mem_of_getElem? (i := 1074) (by decide +kernel), List.mem_of_getElem? (i := 1075) (by decide +kernel)⟩
theorem lw_p36 : lw_okq (⟨"PaintedOverModel", "deepOf", "(II)I"⟩, 33) := ⟨⟨by decide +kernel, by decide +kernel⟩, List.mem_of_getElem? (i := 915) (by decide +kernel), List.mem_of_getElem? (i := 1078) (by decide +kernel), List.mem_of_getElem? (i := 1079) (by decide +kernel)⟩
theorem lw_p37 : lw_okq (⟨"PaintedOverModel", "lies", "(II)I"⟩, 33) := ⟨⟨by decide +kernel, by decide +kernel⟩, List.mem_of_getElem? (i := 915) (by decide +kernel), List.mem_of_getElem? (i := 1082) (by decide +kernel), List.mem_of_getElem? (i := 1083) (by decide +kernel)⟩
theorem lw_p38 : lw_okq (⟨"PaintedOverModel", "sum", "(II)I"⟩, 33) := ⟨⟨by decide +kernel, by decide +kernel⟩, List.mem_of_getElem? (i := 915) (by decide +kernel), List.mem_of_getElem? (i := 1089) (by decide +kernel), List.mem_of_getElem? (i := 1090) (by decide +kernel)⟩
theorem lw_p39 : lw_okq (⟨"PaintedOverModel", "wetOf", "(III)I"⟩, 33) := ⟨⟨by decide +kernel, by decide +kernel⟩, List.mem_of_getElem? (i := 915) (by decide +kernel), List.mem_of_getElem? (i := 1093) (by decide +kernel), List.mem_of_getElem? (i := 1094) (by decide +kernel)⟩
theorem lw_p40 : lw_okq (⟨"PaintedOverModel", "hard", "(III)I"⟩, 33) := ⟨⟨by decide +kernel, by decide +kernel⟩, List.mem_of_getElem? (i := 915) (by decide +kernel), List.mem_of_getElem? (i := 1097) (by decide +kernel), List.mem_of_getElem? (i := 1098) (by decide +kernel)⟩
theorem lw_p41 : lw_okq (⟨"PaintedOverModel", "strength", "(II)I"⟩, 33) := ⟨⟨by decide +kernel, by decide +kernel⟩, List.mem_of_getElem? (i := 915) (by decide +kernel), List.mem_of_getElem? (i := 1102) (by decide +kernel), List.mem_of_getElem? (i := 1103) (by decide +kernel)⟩
theorem lw_p42 : lw_okq (⟨"PaintedOverModel", "newHouse", "(II)I"⟩, 33) := ⟨⟨by decide +kernel, by decide +kernel⟩, List.mem_of_getElem? (i := 915) (by decide +kernel), List.mem_of_getElem? (i := 1110) (by decide +kernel), List.mem_of_getElem? (i := 1111) (by decide +kernel)⟩
theorem lw_p43 : lw_okq (⟨"PaintedOverModel", "bare", "(I)V"⟩, 33) := ⟨⟨by decide +kernel, by decide +kernel⟩, List.mem_of_getElem? (i := 915) (by decide +kernel), List.mem_of_getElem? (i := 1114) (by decide +kernel), List.mem_of_getElem? (i := 1115) (by decide +kernel)⟩
theorem lw_p44 : lw_okq (⟨"PaintedOverModel", "lived", "(I)I"⟩, 33) := ⟨⟨by decide +kernel, by decide +kernel⟩, List.mem_of_getElem? (i := 915) (by decide +kernel), List.mem_of_getElem? (i := 1122) (by decide +kernel), List.mem_of_getElem? (i := 1123) (by decide +kernel)⟩
theorem lw_p45 : lw_okq (⟨"PaintedOverModel", "paints", "(IIIII)I"⟩, 33) := ⟨⟨by decide +kernel, by decide +kernel⟩, List.mem_of_getElem? (i := 915) (by decide +kernel), List.mem_of_getElem? (i := 1141) (by decide +kernel), List.mem_of_getElem? (i := 1142) (by decide +kernel)⟩
theorem lw_p46 : lw_okq (⟨"PaintedOverModel", "isCoat", "(II)Z"⟩, 33) := ⟨⟨by decide +kernel, by decide +kernel⟩, List.mem_of_getElem? (i := 915) (by decide +kernel), List.mem_of_getElem? (i := 1149) (by decide +kernel), List.mem_of_getElem? (i := 1150) (by decide +kernel)⟩
theorem lw_p47 : lw_okq (⟨"PaintedOverModel", "keep", "([I)V"⟩, 33) := ⟨⟨by decide +kernel, by decide +kernel⟩, List.mem_of_getElem? (i := 915) (by decide +kernel), List.mem_of_getElem? (i := 1157) (by decide +kernel), List.mem_of_getElem? (i := 1158) (by decide +kernel)⟩
def lw_privs_3 : List (MethodName × Nat) := [(⟨"PaintedOverModel", "noRow", "(I)I"⟩, 33), (⟨"PaintedOverModel", "isRow", "(I)Z"⟩, 33), (⟨"PaintedOverModel", "isHouse", "(I)Z"⟩, 33), (⟨"PaintedOverModel", "skinOf", "(I)I"⟩, 33), (⟨"PaintedOverModel", "deepOf", "(II)I"⟩, 33), (⟨"PaintedOverModel", "lies", "(II)I"⟩, 33), (⟨"PaintedOverModel", "sum", "(II)I"⟩, 33), (⟨"PaintedOverModel", "wetOf", "(III)I"⟩, 33), (⟨"PaintedOverModel", "hard", "(III)I"⟩, 33), (⟨"PaintedOverModel", "strength", "(II)I"⟩, 33), (⟨"PaintedOverModel", "newHouse", "(II)I"⟩, 33), (⟨"PaintedOverModel", "bare", "(I)V"⟩, 33), (⟨"PaintedOverModel", "lived", "(I)I"⟩, 33), (⟨"PaintedOverModel", "paints", "(IIIII)I"⟩, 33), (⟨"PaintedOverModel", "isCoat", "(II)Z"⟩, 33), (⟨"PaintedOverModel", "keep", "([I)V"⟩, 33)]
theorem lw_r3 : ∀ q ∈ lw_privs_3, lw_okq q := List.forall_mem_cons.mpr ⟨lw_p32, List.forall_mem_cons.mpr ⟨lw_p33, List.forall_mem_cons.mpr ⟨lw_p34, List.forall_mem_cons.mpr ⟨lw_p35, List.forall_mem_cons.mpr ⟨lw_p36, List.forall_mem_cons.mpr ⟨lw_p37, List.forall_mem_cons.mpr ⟨lw_p38, List.forall_mem_cons.mpr ⟨lw_p39, List.forall_mem_cons.mpr ⟨lw_p40, List.forall_mem_cons.mpr ⟨lw_p41, List.forall_mem_cons.mpr ⟨lw_p42, List.forall_mem_cons.mpr ⟨lw_p43, List.forall_mem_cons.mpr ⟨lw_p44, List.forall_mem_cons.mpr ⟨lw_p45, List.forall_mem_cons.mpr ⟨lw_p46, List.forall_mem_cons.mpr ⟨lw_p47, fun _ h => absurd h List.not_mem_nil⟩⟩⟩⟩⟩⟩⟩⟩⟩⟩⟩⟩⟩⟩⟩⟩
theorem lw_p48 : lw_okq (⟨"PaintedOverModel", "item", "()Z"⟩, 33) := ⟨⟨by decide +kernel, by decide +kernel⟩, List.mem_of_getElem? (i := 915) (by decide +kernel), List.mem_of_getElem? (i := 1161) (by decide +kernel), List.mem_of_getElem? (i := 1162) (by decide +kernel)⟩
theorem lw_p49 : lw_okq (⟨"PaintedOverModel", "is", "(C)Z"⟩, 33) := ⟨⟨by decide +kernel, by decide +kernel⟩, List.mem_of_getElem? (i := 915) (by decide +kernel), List.mem_of_getElem? (i := 1165) (by decide +kernel), List.mem_of_getElem? (i := 1166) (by decide +kernel)⟩
theorem lw_p50 : lw_okq (⟨"PaintedOverModel", "sign", "()I"⟩, 33) := ⟨⟨by decide +kernel, by decide +kernel⟩, List.mem_of_getElem? (i := 915) (by decide +kernel), List.mem_of_getElem? (i := 1169) (by decide +kernel), List.mem_of_getElem? (i := 1170) (by decide +kernel)⟩
theorem lw_p51 : lw_okq (⟨"PaintedOverModel", "word", "(Ljava/lang/String;)Z"⟩, 33) := ⟨⟨by decide +kernel, by decide +kernel⟩, List.mem_of_getElem? (i := 915) (by decide +kernel), List.mem_of_getElem? (i := 1174) (by decide +kernel), List.mem_of_getElem? (i := 1175) (by decide +kernel)⟩
theorem lw_p52 : lw_okq (⟨"PaintedOverModel", "number", "(III)Z"⟩, 33) := ⟨⟨by decide +kernel, by decide +kernel⟩, List.mem_of_getElem? (i := 915) (by decide +kernel), List.mem_of_getElem? (i := 1180) (by decide +kernel), List.mem_of_getElem? (i := 1181) (by decide +kernel)⟩
theorem lw_p53 : lw_okq (⟨"PaintedOverModel", "sign", "(I)I"⟩, 33) := ⟨⟨by decide +kernel, by decide +kernel⟩, List.mem_of_getElem? (i := 915) (by decide +kernel), List.mem_of_getElem? (i := 1184) (by decide +kernel), List.mem_of_getElem? (i := 1185) (by decide +kernel)⟩
theorem lw_p54 : lw_okq (⟨"PaintedOverModel", "hailAll", "(I)I"⟩, 33) := ⟨⟨by decide +kernel, by decide +kernel⟩, List.mem_of_getElem? (i := 915) (by decide +kernel), List.mem_of_getElem? (i := 1200) (by decide +kernel), List.mem_of_getElem? (i := 1201) (by decide +kernel)⟩
theorem lw_p55 : lw_okq (⟨"PaintedOverModel", "behind", "(III)I"⟩, 33) := ⟨⟨by decide +kernel, by decide +kernel⟩, List.mem_of_getElem? (i := 915) (by decide +kernel), List.mem_of_getElem? (i := 1204) (by decide +kernel), List.mem_of_getElem? (i := 1205) (by decide +kernel)⟩
theorem lw_p56 : lw_okq (⟨"PaintedOverModel", "again", "([I)V"⟩, 33) := ⟨⟨by decide +kernel, by decide +kernel⟩, List.mem_of_getElem? (i := 915) (by decide +kernel), List.mem_of_getElem? (i := 1211) (by decide +kernel), List.mem_of_getElem? (i := 1212) (by decide +kernel)⟩
theorem lw_p57 : lw_okq (⟨"PaintedOverModel", "no10", "(I)I"⟩, 33) := ⟨⟨by decide +kernel, by decide +kernel⟩, List.mem_of_getElem? (i := 915) (by decide +kernel), List.mem_of_getElem? (i := 1223) (by decide +kernel), List.mem_of_getElem? (i := 1224) (by decide +kernel)⟩
theorem lw_p58 : lw_okq (⟨"PaintedOverModel", "seenAt", "(III)I"⟩, 33) := ⟨⟨by decide +kernel, by decide +kernel⟩, List.mem_of_getElem? (i := 915) (by decide +kernel), List.mem_of_getElem? (i := 1230) (by decide +kernel), List.mem_of_getElem? (i := 1231) (by decide +kernel)⟩
theorem lw_p59 : lw_okq (⟨"PaintedOverModel", "seenIn", "(III)I"⟩, 33) := ⟨⟨by decide +kernel, by decide +kernel⟩, List.mem_of_getElem? (i := 915) (by decide +kernel), List.mem_of_getElem? (i := 1234) (by decide +kernel), List.mem_of_getElem? (i := 1235) (by decide +kernel)⟩
theorem lw_p60 : lw_okq (⟨"PaintedOverModel", "seenAll", "(II)I"⟩, 33) := ⟨⟨by decide +kernel, by decide +kernel⟩, List.mem_of_getElem? (i := 915) (by decide +kernel), List.mem_of_getElem? (i := 1262) (by decide +kernel), List.mem_of_getElem? (i := 1263) (by decide +kernel)⟩
theorem lw_p61 : lw_okq (⟨"PaintedOverModel", "noPairs", "(IIZ)I"⟩, 33) := ⟨⟨by decide +kernel, by decide +kernel⟩, List.mem_of_getElem? (i := 915) (by decide +kernel), List.mem_of_getElem? (i := 1290) (by decide +kernel), List.mem_of_getElem? (i := 1291) (by decide +kernel)⟩
theorem lw_p62 : lw_okq (⟨"PaintedOverModel", "pairs", "(II)V"⟩, 33) := ⟨⟨by decide +kernel, by decide +kernel⟩, List.mem_of_getElem? (i := 915) (by decide +kernel), List.mem_of_getElem? (i := 1294) (by decide +kernel), List.mem_of_getElem? (i := 1295) (by decide +kernel)⟩
theorem lw_p63 : lw_okq (⟨"PaintedOverModel", "ordersFrom", "(I)I"⟩, 33) := ⟨⟨by decide +kernel, by decide +kernel⟩, List.mem_of_getElem? (i := 915) (by decide +kernel), List.mem_of_getElem? (i := 1298) (by decide +kernel), List.mem_of_getElem? (i := 1299) (by decide +kernel)⟩
def lw_privs_4 : List (MethodName × Nat) := [(⟨"PaintedOverModel", "item", "()Z"⟩, 33), (⟨"PaintedOverModel", "is", "(C)Z"⟩, 33), (⟨"PaintedOverModel", "sign", "()I"⟩, 33), (⟨"PaintedOverModel", "word", "(Ljava/lang/String;)Z"⟩, 33), (⟨"PaintedOverModel", "number", "(III)Z"⟩, 33), (⟨"PaintedOverModel", "sign", "(I)I"⟩, 33), (⟨"PaintedOverModel", "hailAll", "(I)I"⟩, 33), (⟨"PaintedOverModel", "behind", "(III)I"⟩, 33), (⟨"PaintedOverModel", "again", "([I)V"⟩, 33), (⟨"PaintedOverModel", "no10", "(I)I"⟩, 33), (⟨"PaintedOverModel", "seenAt", "(III)I"⟩, 33), (⟨"PaintedOverModel", "seenIn", "(III)I"⟩, 33), (⟨"PaintedOverModel", "seenAll", "(II)I"⟩, 33), (⟨"PaintedOverModel", "noPairs", "(IIZ)I"⟩, 33), (⟨"PaintedOverModel", "pairs", "(II)V"⟩, 33), (⟨"PaintedOverModel", "ordersFrom", "(I)I"⟩, 33)]
theorem lw_r4 : ∀ q ∈ lw_privs_4, lw_okq q := List.forall_mem_cons.mpr ⟨lw_p48, List.forall_mem_cons.mpr ⟨lw_p49, List.forall_mem_cons.mpr ⟨lw_p50, List.forall_mem_cons.mpr ⟨lw_p51, List.forall_mem_cons.mpr ⟨lw_p52, List.forall_mem_cons.mpr ⟨lw_p53, List.forall_mem_cons.mpr ⟨lw_p54, List.forall_mem_cons.mpr ⟨lw_p55, List.forall_mem_cons.mpr ⟨lw_p56, List.forall_mem_cons.mpr ⟨lw_p57, List.forall_mem_cons.mpr ⟨lw_p58, List.forall_mem_cons.mpr ⟨lw_p59, List.forall_mem_cons.mpr ⟨lw_p60, List.forall_mem_cons.mpr ⟨lw_p61, List.forall_mem_cons.mpr ⟨lw_p62, List.forall_mem_cons.mpr ⟨lw_p63, fun _ h => absurd h List.not_mem_nil⟩⟩⟩⟩⟩⟩⟩⟩⟩⟩⟩⟩⟩⟩⟩⟩
theorem lw_p64 : lw_okq (⟨"PaintedOverModel", "deepest", "(I)I"⟩, 33) := ⟨⟨by decide +kernel, by decide +kernel⟩, List.mem_of_getElem? (i := 915) (by decide +kernel), List.mem_of_getElem? (i := 1310) (by decide +kernel), List.mem_of_getElem? (i := 1311) (by decide +kernel)⟩
theorem lw_p65 : lw_okq (⟨"PaintedOverModel", "fall", "()I"⟩, 33) := ⟨⟨by decide +kernel, by decide +kernel⟩, List.mem_of_getElem? (i := 915) (by decide +kernel), List.mem_of_getElem? (i := 1330) (by decide +kernel), List.mem_of_getElem? (i := 1331) (by decide +kernel)⟩
theorem lw_p66 : lw_okq (⟨"PaintedOverModel", "draw", "(I)I"⟩, 33) := ⟨⟨by decide +kernel, by decide +kernel⟩, List.mem_of_getElem? (i := 915) (by decide +kernel), List.mem_of_getElem? (i := 1338) (by decide +kernel), List.mem_of_getElem? (i := 1339) (by decide +kernel)⟩
theorem lw_p67 : lw_okq (⟨"PaintedOverModel", "paintsAct", "(II)I"⟩, 33) := ⟨⟨by decide +kernel, by decide +kernel⟩, List.mem_of_getElem? (i := 915) (by decide +kernel), List.mem_of_getElem? (i := 1351) (by decide +kernel), List.mem_of_getElem? (i := 1352) (by decide +kernel)⟩
theorem lw_p68 : lw_okq (⟨"PaintedOverModel", "ran", "(I)V"⟩, 33) := ⟨⟨by decide +kernel, by decide +kernel⟩, List.mem_of_getElem? (i := 915) (by decide +kernel), List.mem_of_getElem? (i := 1355) (by decide +kernel), List.mem_of_getElem? (i := 1356) (by decide +kernel)⟩
theorem lw_p69 : lw_okq (⟨"PaintedOverModel", "peels", "(II)I"⟩, 33) := ⟨⟨by decide +kernel, by decide +kernel⟩, List.mem_of_getElem? (i := 915) (by decide +kernel), List.mem_of_getElem? (i := 1359) (by decide +kernel), List.mem_of_getElem? (i := 1360) (by decide +kernel)⟩
theorem lw_p70 : lw_okq (⟨"PaintedOverModel", "fallsAct", "(II)I"⟩, 33) := ⟨⟨by decide +kernel, by decide +kernel⟩, List.mem_of_getElem? (i := 915) (by decide +kernel), List.mem_of_getElem? (i := 1363) (by decide +kernel), List.mem_of_getElem? (i := 1364) (by decide +kernel)⟩
def lw_privs_5 : List (MethodName × Nat) := [(⟨"PaintedOverModel", "deepest", "(I)I"⟩, 33), (⟨"PaintedOverModel", "fall", "()I"⟩, 33), (⟨"PaintedOverModel", "draw", "(I)I"⟩, 33), (⟨"PaintedOverModel", "paintsAct", "(II)I"⟩, 33), (⟨"PaintedOverModel", "ran", "(I)V"⟩, 33), (⟨"PaintedOverModel", "peels", "(II)I"⟩, 33), (⟨"PaintedOverModel", "fallsAct", "(II)I"⟩, 33)]
theorem lw_r5 : ∀ q ∈ lw_privs_5, lw_okq q := List.forall_mem_cons.mpr ⟨lw_p64, List.forall_mem_cons.mpr ⟨lw_p65, List.forall_mem_cons.mpr ⟨lw_p66, List.forall_mem_cons.mpr ⟨lw_p67, List.forall_mem_cons.mpr ⟨lw_p68, List.forall_mem_cons.mpr ⟨lw_p69, List.forall_mem_cons.mpr ⟨lw_p70, fun _ h => absurd h List.not_mem_nil⟩⟩⟩⟩⟩⟩⟩
def lw_privs : List (MethodName × Nat) := lw_privs_1 ++ (lw_privs_2 ++ (lw_privs_3 ++ (lw_privs_4 ++ (lw_privs_5))))
def lw_tbl : List Cond := k2_sels lw_privs ++ tables_1
theorem lw_privs_ok : ∀ q ∈ lw_privs, lw_okq q := by
  show ∀ q ∈ lw_privs_1 ++ (lw_privs_2 ++ (lw_privs_3 ++ (lw_privs_4 ++ (lw_privs_5)))), lw_okq q
  exact List.forall_mem_append.mpr ⟨lw_r1, List.forall_mem_append.mpr ⟨lw_r2, List.forall_mem_append.mpr ⟨lw_r3, List.forall_mem_append.mpr ⟨lw_r4, lw_r5⟩⟩⟩⟩
-- ===== end of PART A; then your names; then what follows =====
def RX0 : String := "PaintedOver$Bare"
def TX0 : u_T := fun k => match k with
  | _ => ("", "", "", false)
def tyX0 : Nat → FieldType := fun k => match k with
  | _ => .int
theorem nmX0 : ∀ a, a < 0 → ∀ b, b < 0 → a ≠ b → (TX0 a).2.1 ≠ (TX0 b).2.1 := by decide +kernel
theorem tyX0_ok : ∀ k, k < 0 → parseFieldDescriptor (TX0 k).2.2.1 = some (tyX0 k) := by decide +kernel
abbrev cX0_init : ByteArray := prog_2_method_1_code
def yX0_init : MethodName := ⟨RX0, "<init>", "()V"⟩
abbrev cX0_hardness : ByteArray := prog_2_method_2_code
def yX0_hardness : MethodName := ⟨RX0, "hardness", "(III)I"⟩
abbrev cX0_actPaints : ByteArray := prog_2_method_3_code
def yX0_actPaints : MethodName := ⟨RX0, "actPaints", "(LPaintedOver$Trace;I)I"⟩
abbrev cX0_actPeels : ByteArray := prog_2_method_4_code
def yX0_actPeels : MethodName := ⟨RX0, "actPeels", "(LPaintedOver$Trace;I)I"⟩
def RX1 : String := "PaintedOver$Cellar"
def TX1 : u_T := fun k => match k with
  | _ => ("", "", "", false)
def tyX1 : Nat → FieldType := fun k => match k with
  | _ => .int
theorem nmX1 : ∀ a, a < 0 → ∀ b, b < 0 → a ≠ b → (TX1 a).2.1 ≠ (TX1 b).2.1 := by decide +kernel
theorem tyX1_ok : ∀ k, k < 0 → parseFieldDescriptor (TX1 k).2.2.1 = some (tyX1 k) := by decide +kernel
abbrev cX1_init : ByteArray := prog_3_method_1_code
def yX1_init : MethodName := ⟨RX1, "<init>", "()V"⟩
abbrev cX1_wetness : ByteArray := prog_3_method_2_code
def yX1_wetness : MethodName := ⟨RX1, "wetness", "(III)I"⟩
abbrev cX1_actPeels : ByteArray := prog_3_method_3_code
def yX1_actPeels : MethodName := ⟨RX1, "actPeels", "(LPaintedOver$Trace;I)I"⟩
def RX2 : String := "PaintedOver$Damp"
def TX2 : u_T := fun k => match k with
  | _ => ("", "", "", false)
def tyX2 : Nat → FieldType := fun k => match k with
  | _ => .int
theorem nmX2 : ∀ a, a < 0 → ∀ b, b < 0 → a ≠ b → (TX2 a).2.1 ≠ (TX2 b).2.1 := by decide +kernel
theorem tyX2_ok : ∀ k, k < 0 → parseFieldDescriptor (TX2 k).2.2.1 = some (tyX2 k) := by decide +kernel
abbrev cX2_init : ByteArray := prog_4_method_1_code
def yX2_init : MethodName := ⟨RX2, "<init>", "()V"⟩
abbrev cX2_wetness : ByteArray := prog_4_method_2_code
def yX2_wetness : MethodName := ⟨RX2, "wetness", "(III)I"⟩
abbrev cX2_actPaints : ByteArray := prog_4_method_3_code
def yX2_actPaints : MethodName := ⟨RX2, "actPaints", "(LPaintedOver$Trace;I)I"⟩
def RX3 : String := "PaintedOver$Front"
def TX3 : u_T := fun k => match k with
  | 0 => ("PaintedOver$Front", "kind", "LPaintedOver$Kind;", false)
  | 1 => ("PaintedOver$Front", "kindNumber", "I", false)
  | 2 => ("PaintedOver$Front", "a", "I", false)
  | 3 => ("PaintedOver$Front", "coats", "I", false)
  | 4 => ("PaintedOver$Front", "tenant", "[I", true)
  | 5 => ("PaintedOver$Front", "colour", "[I", true)
  | 6 => ("PaintedOver$Front", "thick", "[I", true)
  | 7 => ("PaintedOver$Front", "gap", "[I", true)
  | 8 => ("PaintedOver$Front", "year", "[I", true)
  | _ => ("PaintedOver$Front", "gone", "[I", true)
def tyX3 : Nat → FieldType := fun k => match k with
  | 0 => .object "PaintedOver$Kind"
  | 1 => .int
  | 2 => .int
  | 3 => .int
  | 4 => .array .int
  | 5 => .array .int
  | 6 => .array .int
  | 7 => .array .int
  | 8 => .array .int
  | _ => .array .int
theorem nmX3 : ∀ a, a < 10 → ∀ b, b < 10 → a ≠ b → (TX3 a).2.1 ≠ (TX3 b).2.1 := by decide +kernel
theorem tyX3_ok : ∀ k, k < 10 → parseFieldDescriptor (TX3 k).2.2.1 = some (tyX3 k) := by decide +kernel
abbrev cX3_init : ByteArray := prog_5_method_1_code
def yX3_init : MethodName := ⟨RX3, "<init>", "(LPaintedOver$Kind;)V"⟩
abbrev cX3_become : ByteArray := prog_5_method_2_code
def yX3_become : MethodName := ⟨RX3, "become", "(LPaintedOver$Front;)V"⟩
abbrev cX3_clear : ByteArray := prog_5_method_3_code
def yX3_clear : MethodName := ⟨RX3, "clear", "()V"⟩
abbrev cX3_putOn : ByteArray := prog_5_method_4_code
def yX3_putOn : MethodName := ⟨RX3, "putOn", "(IIIII)I"⟩
abbrev cX3_lies : ByteArray := prog_5_method_5_code
def yX3_lies : MethodName := ⟨RX3, "lies", "(II)Z"⟩
abbrev cX3_lyingIn : ByteArray := prog_5_method_6_code
def yX3_lyingIn : MethodName := ⟨RX3, "lyingIn", "(I)I"⟩
abbrev cX3_cellsOf : ByteArray := prog_5_method_7_code
def yX3_cellsOf : MethodName := ⟨RX3, "cellsOf", "(I)I"⟩
abbrev cX3_depthFrom : ByteArray := prog_5_method_8_code
def yX3_depthFrom : MethodName := ⟨RX3, "depthFrom", "(II)I"⟩
abbrev cX3_depth : ByteArray := prog_5_method_9_code
def yX3_depth : MethodName := ⟨RX3, "depth", "(I)I"⟩
abbrev cX3_greatestDepth : ByteArray := prog_5_method_10_code
def yX3_greatestDepth : MethodName := ⟨RX3, "greatestDepth", "()I"⟩
abbrev cX3_wholeSkin : ByteArray := prog_5_method_11_code
def yX3_wholeSkin : MethodName := ⟨RX3, "wholeSkin", "()I"⟩
abbrev cX3_lived : ByteArray := prog_5_method_12_code
def yX3_lived : MethodName := ⟨RX3, "lived", "()I"⟩
abbrev cX3_coatsOf : ByteArray := prog_5_method_13_code
def yX3_coatsOf : MethodName := ⟨RX3, "coatsOf", "(I)I"⟩
abbrev cX3_wetness : ByteArray := prog_5_method_14_code
def yX3_wetness : MethodName := ⟨RX3, "wetness", "(II)I"⟩
abbrev cX3_hardness : ByteArray := prog_5_method_15_code
def yX3_hardness : MethodName := ⟨RX3, "hardness", "(II)I"⟩
abbrev cX3_wettestBut : ByteArray := prog_5_method_16_code
def yX3_wettestBut : MethodName := ⟨RX3, "wettestBut", "(II)I"⟩
abbrev cX3_behindHail : ByteArray := prog_5_method_17_code
def yX3_behindHail : MethodName := ⟨RX3, "behindHail", "(II)I"⟩
abbrev cX3_hailInTruth : ByteArray := prog_5_method_18_code
def yX3_hailInTruth : MethodName := ⟨RX3, "hailInTruth", "(II)I"⟩
abbrev cX3_takeUppermost : ByteArray := prog_5_method_19_code
def yX3_takeUppermost : MethodName := ⟨RX3, "takeUppermost", "(I)I"⟩
def RX4 : String := "PaintedOver$Kind"
def TX4 : u_T := fun k => match k with
  | _ => ("", "", "", false)
def tyX4 : Nat → FieldType := fun k => match k with
  | _ => .int
theorem nmX4 : ∀ a, a < 0 → ∀ b, b < 0 → a ≠ b → (TX4 a).2.1 ≠ (TX4 b).2.1 := by decide +kernel
theorem tyX4_ok : ∀ k, k < 0 → parseFieldDescriptor (TX4 k).2.2.1 = some (tyX4 k) := by decide +kernel
abbrev cX4_init : ByteArray := prog_6_method_1_code
def yX4_init : MethodName := ⟨RX4, "<init>", "()V"⟩
abbrev cX4_wetness : ByteArray := prog_6_method_2_code
def yX4_wetness : MethodName := ⟨RX4, "wetness", "(III)I"⟩
abbrev cX4_hardness : ByteArray := prog_6_method_3_code
def yX4_hardness : MethodName := ⟨RX4, "hardness", "(III)I"⟩
abbrev cX4_counted : ByteArray := prog_6_method_4_code
def yX4_counted : MethodName := ⟨RX4, "counted", "(I)I"⟩
abbrev cX4_actPaints : ByteArray := prog_6_method_5_code
def yX4_actPaints : MethodName := ⟨RX4, "actPaints", "(LPaintedOver$Trace;I)I"⟩
abbrev cX4_actPeels : ByteArray := prog_6_method_6_code
def yX4_actPeels : MethodName := ⟨RX4, "actPeels", "(LPaintedOver$Trace;I)I"⟩
abbrev cX4_actFalls : ByteArray := prog_6_method_7_code
def yX4_actFalls : MethodName := ⟨RX4, "actFalls", "(LPaintedOver$Trace;I)I"⟩
def RX5 : String := "PaintedOver$Limed"
def TX5 : u_T := fun k => match k with
  | _ => ("", "", "", false)
def tyX5 : Nat → FieldType := fun k => match k with
  | _ => .int
theorem nmX5 : ∀ a, a < 0 → ∀ b, b < 0 → a ≠ b → (TX5 a).2.1 ≠ (TX5 b).2.1 := by decide +kernel
theorem tyX5_ok : ∀ k, k < 0 → parseFieldDescriptor (TX5 k).2.2.1 = some (tyX5 k) := by decide +kernel
abbrev cX5_init : ByteArray := prog_7_method_1_code
def yX5_init : MethodName := ⟨RX5, "<init>", "()V"⟩
abbrev cX5_hardness : ByteArray := prog_7_method_2_code
def yX5_hardness : MethodName := ⟨RX5, "hardness", "(III)I"⟩
abbrev cX5_actPeels : ByteArray := prog_7_method_3_code
def yX5_actPeels : MethodName := ⟨RX5, "actPeels", "(LPaintedOver$Trace;I)I"⟩
def RX6 : String := "PaintedOver$Reader"
def TX6 : u_T := fun k => match k with
  | 0 => ("PaintedOver$Reader", "town", "LPaintedOver$Town;", false)
  | 1 => ("PaintedOver$Reader", "row", "[J", false)
  | 2 => ("PaintedOver$Reader", "size", "I", false)
  | 3 => ("PaintedOver$Reader", "at", "I", false)
  | 4 => ("PaintedOver$Reader", "numberAt", "I", false)
  | _ => ("PaintedOver$Reader", "fault", "I", false)
def tyX6 : Nat → FieldType := fun k => match k with
  | 0 => .object "PaintedOver$Town"
  | 1 => .array .long
  | 2 => .int
  | 3 => .int
  | 4 => .int
  | _ => .int
theorem nmX6 : ∀ a, a < 6 → ∀ b, b < 6 → a ≠ b → (TX6 a).2.1 ≠ (TX6 b).2.1 := by decide +kernel
theorem tyX6_ok : ∀ k, k < 6 → parseFieldDescriptor (TX6 k).2.2.1 = some (tyX6 k) := by decide +kernel
abbrev cX6_init : ByteArray := prog_8_method_1_code
def yX6_init : MethodName := ⟨RX6, "<init>", "()V"⟩
abbrev cX6_readAll : ByteArray := prog_8_method_2_code
def yX6_readAll : MethodName := ⟨RX6, "readAll", "(LPaintedOver$Town;[JI)I"⟩
abbrev cX6_readItem : ByteArray := prog_8_method_3_code
def yX6_readItem : MethodName := ⟨RX6, "readItem", "()V"⟩
abbrev cX6_word : ByteArray := prog_8_method_4_code
def yX6_word : MethodName := ⟨RX6, "word", "(I)Ljava/lang/String;"⟩
abbrev cX6_readWord : ByteArray := prog_8_method_5_code
def yX6_readWord : MethodName := ⟨RX6, "readWord", "()I"⟩
abbrev cX6_sameLetters : ByteArray := prog_8_method_6_code
def yX6_sameLetters : MethodName := ⟨RX6, "sameLetters", "(Ljava/lang/String;)I"⟩
abbrev cX6_readHouse : ByteArray := prog_8_method_7_code
def yX6_readHouse : MethodName := ⟨RX6, "readHouse", "(I)V"⟩
abbrev cX6_readCoat : ByteArray := prog_8_method_8_code
def yX6_readCoat : MethodName := ⟨RX6, "readCoat", "()V"⟩
abbrev cX6_readColour : ByteArray := prog_8_method_9_code
def yX6_readColour : MethodName := ⟨RX6, "readColour", "([II)V"⟩
abbrev cX6_readScratch : ByteArray := prog_8_method_10_code
def yX6_readScratch : MethodName := ⟨RX6, "readScratch", "()V"⟩
abbrev cX6_readNumber : ByteArray := prog_8_method_11_code
def yX6_readNumber : MethodName := ⟨RX6, "readNumber", "(II)I"⟩
abbrev cX6_stands : ByteArray := prog_8_method_12_code
def yX6_stands : MethodName := ⟨RX6, "stands", "(I)Z"⟩
abbrev cX6_isDigit : ByteArray := prog_8_method_13_code
def yX6_isDigit : MethodName := ⟨RX6, "isDigit", "(I)Z"⟩
abbrev cX6_elementAt : ByteArray := prog_8_method_14_code
def yX6_elementAt : MethodName := ⟨RX6, "elementAt", "(I)I"⟩
def RX7 : String := "PaintedOver$South"
def TX7 : u_T := fun k => match k with
  | _ => ("", "", "", false)
def tyX7 : Nat → FieldType := fun k => match k with
  | _ => .int
theorem nmX7 : ∀ a, a < 0 → ∀ b, b < 0 → a ≠ b → (TX7 a).2.1 ≠ (TX7 b).2.1 := by decide +kernel
theorem tyX7_ok : ∀ k, k < 0 → parseFieldDescriptor (TX7 k).2.2.1 = some (tyX7 k) := by decide +kernel
abbrev cX7_init : ByteArray := prog_9_method_1_code
def yX7_init : MethodName := ⟨RX7, "<init>", "()V"⟩
abbrev cX7_counted : ByteArray := prog_9_method_2_code
def yX7_counted : MethodName := ⟨RX7, "counted", "(I)I"⟩
abbrev cX7_actFalls : ByteArray := prog_9_method_3_code
def yX7_actFalls : MethodName := ⟨RX7, "actFalls", "(LPaintedOver$Trace;I)I"⟩
abbrev cX7_actPaints : ByteArray := prog_9_method_4_code
def yX7_actPaints : MethodName := ⟨RX7, "actPaints", "(LPaintedOver$Trace;I)I"⟩
def RX8 : String := "PaintedOver$Tiled"
def TX8 : u_T := fun k => match k with
  | _ => ("", "", "", false)
def tyX8 : Nat → FieldType := fun k => match k with
  | _ => .int
theorem nmX8 : ∀ a, a < 0 → ∀ b, b < 0 → a ≠ b → (TX8 a).2.1 ≠ (TX8 b).2.1 := by decide +kernel
theorem tyX8_ok : ∀ k, k < 0 → parseFieldDescriptor (TX8 k).2.2.1 = some (tyX8 k) := by decide +kernel
abbrev cX8_init : ByteArray := prog_10_method_1_code
def yX8_init : MethodName := ⟨RX8, "<init>", "()V"⟩
abbrev cX8_hardness : ByteArray := prog_10_method_2_code
def yX8_hardness : MethodName := ⟨RX8, "hardness", "(III)I"⟩
abbrev cX8_actFalls : ByteArray := prog_10_method_3_code
def yX8_actFalls : MethodName := ⟨RX8, "actFalls", "(LPaintedOver$Trace;I)I"⟩
def RX9 : String := "PaintedOver$Town"
def TX9 : u_T := fun k => match k with
  | 0 => ("PaintedOver$Town", "kinds", "[LPaintedOver$Kind;", true)
  | 1 => ("PaintedOver$Town", "fronts", "[LPaintedOver$Front;", true)
  | 2 => ("PaintedOver$Town", "houses", "I", false)
  | 3 => ("PaintedOver$Town", "hides", "[I", true)
  | 4 => ("PaintedOver$Town", "costs", "[I", true)
  | 5 => ("PaintedOver$Town", "limit", "I", false)
  | 6 => ("PaintedOver$Town", "wide", "I", false)
  | 7 => ("PaintedOver$Town", "year", "I", false)
  | 8 => ("PaintedOver$Town", "fallen", "I", false)
  | _ => ("PaintedOver$Town", "seed", "I", false)
def tyX9 : Nat → FieldType := fun k => match k with
  | 0 => .array (.object "PaintedOver$Kind")
  | 1 => .array (.object "PaintedOver$Front")
  | 2 => .int
  | 3 => .array .int
  | 4 => .array .int
  | 5 => .int
  | 6 => .int
  | 7 => .int
  | 8 => .int
  | _ => .int
theorem nmX9 : ∀ a, a < 10 → ∀ b, b < 10 → a ≠ b → (TX9 a).2.1 ≠ (TX9 b).2.1 := by decide +kernel
theorem tyX9_ok : ∀ k, k < 10 → parseFieldDescriptor (TX9 k).2.2.1 = some (tyX9 k) := by decide +kernel
abbrev cX9_init : ByteArray := prog_11_method_1_code
def yX9_init : MethodName := ⟨RX9, "<init>", "([LPaintedOver$Kind;)V"⟩
abbrev cX9_become : ByteArray := prog_11_method_2_code
def yX9_become : MethodName := ⟨RX9, "become", "(LPaintedOver$Town;)V"⟩
abbrev cX9_build : ByteArray := prog_11_method_3_code
def yX9_build : MethodName := ⟨RX9, "build", "(II)I"⟩
abbrev cX9_coatsInAll : ByteArray := prog_11_method_4_code
def yX9_coatsInAll : MethodName := ⟨RX9, "coatsInAll", "()I"⟩
abbrev cX9_strength : ByteArray := prog_11_method_5_code
def yX9_strength : MethodName := ⟨RX9, "strength", "(LPaintedOver$Front;II)I"⟩
abbrev cX9_seenAmong : ByteArray := prog_11_method_6_code
def yX9_seenAmong : MethodName := ⟨RX9, "seenAmong", "(LPaintedOver$Front;III)I"⟩
abbrev cX9_seenSomewhere : ByteArray := prog_11_method_7_code
def yX9_seenSomewhere : MethodName := ⟨RX9, "seenSomewhere", "(LPaintedOver$Front;I)I"⟩
abbrev cX9_hailOnAll : ByteArray := prog_11_method_8_code
def yX9_hailOnAll : MethodName := ⟨RX9, "hailOnAll", "(I)I"⟩
abbrev cX9_letFall : ByteArray := prog_11_method_9_code
def yX9_letFall : MethodName := ⟨RX9, "letFall", "()I"⟩
abbrev cX9_draw : ByteArray := prog_11_method_10_code
def yX9_draw : MethodName := ⟨RX9, "draw", "(I)I"⟩
abbrev cX9_passYear : ByteArray := prog_11_method_11_code
def yX9_passYear : MethodName := ⟨RX9, "passYear", "()V"⟩
def RX10 : String := "PaintedOver$Trace"
def TX10 : u_T := fun k => match k with
  | 0 => ("PaintedOver$Trace", "m", "I", false)
  | 1 => ("PaintedOver$Trace", "k", "I", false)
  | 2 => ("PaintedOver$Trace", "ran", "I", false)
  | _ => ("PaintedOver$Trace", "bodies", "[I", true)
def tyX10 : Nat → FieldType := fun k => match k with
  | 0 => .int
  | 1 => .int
  | 2 => .int
  | _ => .array .int
theorem nmX10 : ∀ a, a < 4 → ∀ b, b < 4 → a ≠ b → (TX10 a).2.1 ≠ (TX10 b).2.1 := by decide +kernel
theorem tyX10_ok : ∀ k, k < 4 → parseFieldDescriptor (TX10 k).2.2.1 = some (tyX10 k) := by decide +kernel
abbrev cX10_init : ByteArray := prog_12_method_1_code
def yX10_init : MethodName := ⟨RX10, "<init>", "()V"⟩
abbrev cX10_begin : ByteArray := prog_12_method_2_code
def yX10_begin : MethodName := ⟨RX10, "begin", "(I)V"⟩
def RX11 : String := "PaintedOver"
def TX11 : u_T := fun k => match k with
  | 0 => ("PaintedOver", "held", "[I", true)
  | 1 => ("PaintedOver", "sizes", "[I", true)
  | 2 => ("PaintedOver", "elements", "[[J", true)
  | 3 => ("PaintedOver", "refusals", "[I", true)
  | 4 => ("PaintedOver", "named", "I", false)
  | 5 => ("PaintedOver", "beneath", "[I", true)
  | 6 => ("PaintedOver", "ways", "[I", true)
  | 7 => ("PaintedOver", "now", "LPaintedOver$Town;", false)
  | 8 => ("PaintedOver", "draft", "LPaintedOver$Town;", false)
  | 9 => ("PaintedOver", "kept", "LPaintedOver$Town;", true)
  | 10 => ("PaintedOver", "isKept", "Z", false)
  | 11 => ("PaintedOver", "reader", "LPaintedOver$Reader;", true)
  | 12 => ("PaintedOver", "latestFault", "I", false)
  | _ => ("PaintedOver", "latest", "LPaintedOver$Trace;", true)
def tyX11 : Nat → FieldType := fun k => match k with
  | 0 => .array .int
  | 1 => .array .int
  | 2 => .array (.array .long)
  | 3 => .array .int
  | 4 => .int
  | 5 => .array .int
  | 6 => .array .int
  | 7 => .object "PaintedOver$Town"
  | 8 => .object "PaintedOver$Town"
  | 9 => .object "PaintedOver$Town"
  | 10 => .boolean
  | 11 => .object "PaintedOver$Reader"
  | 12 => .int
  | _ => .object "PaintedOver$Trace"
theorem nmX11 : ∀ a, a < 14 → ∀ b, b < 14 → a ≠ b → (TX11 a).2.1 ≠ (TX11 b).2.1 := by decide +kernel
theorem tyX11_ok : ∀ k, k < 14 → parseFieldDescriptor (TX11 k).2.2.1 = some (tyX11 k) := by decide +kernel
abbrev cX11_init : ByteArray := prog_1_method_1_code
def yX11_init : MethodName := ⟨RX11, "<init>", "()V"⟩
abbrev cX11_row : ByteArray := prog_1_method_2_code
def yX11_row : MethodName := ⟨RX11, "row", "(III)I"⟩
abbrev cX11_set : ByteArray := prog_1_method_3_code
def yX11_set : MethodName := ⟨RX11, "set", "(IIJ)I"⟩
abbrev cX11_copy : ByteArray := prog_1_method_4_code
def yX11_copy : MethodName := ⟨RX11, "copy", "(IIIII)I"⟩
abbrev cX11_element : ByteArray := prog_1_method_5_code
def yX11_element : MethodName := ⟨RX11, "element", "(II)J"⟩
abbrev cX11_show : ByteArray := prog_1_method_6_code
def yX11_show : MethodName := ⟨RX11, "show", "(II)I"⟩
abbrev cX11_holds : ByteArray := prog_1_method_7_code
def yX11_holds : MethodName := ⟨RX11, "holds", "(I)I"⟩
abbrev cX11_says : ByteArray := prog_1_method_8_code
def yX11_says : MethodName := ⟨RX11, "says", "(II)I"⟩
abbrev cX11_house : ByteArray := prog_1_method_9_code
def yX11_house : MethodName := ⟨RX11, "house", "(II)I"⟩
abbrev cX11_houseOf : ByteArray := prog_1_method_10_code
def yX11_houseOf : MethodName := ⟨RX11, "houseOf", "(II)I"⟩
abbrev cX11_colour : ByteArray := prog_1_method_11_code
def yX11_colour : MethodName := ⟨RX11, "colour", "(III)I"⟩
abbrev cX11_ask : ByteArray := prog_1_method_12_code
def yX11_ask : MethodName := ⟨RX11, "ask", "(II)I"⟩
abbrev cX11_coat : ByteArray := prog_1_method_13_code
def yX11_coat : MethodName := ⟨RX11, "coat", "(IIIII)I"⟩
abbrev cX11_coatOf : ByteArray := prog_1_method_14_code
def yX11_coatOf : MethodName := ⟨RX11, "coatOf", "(III)I"⟩
abbrev cX11_street : ByteArray := prog_1_method_15_code
def yX11_street : MethodName := ⟨RX11, "street", "(I)I"⟩
abbrev cX11_fault : ByteArray := prog_1_method_16_code
def yX11_fault : MethodName := ⟨RX11, "fault", "()I"⟩
abbrev cX11_seen : ByteArray := prog_1_method_17_code
def yX11_seen : MethodName := ⟨RX11, "seen", "(III)I"⟩
abbrev cX11_wet : ByteArray := prog_1_method_18_code
def yX11_wet : MethodName := ⟨RX11, "wet", "(III)I"⟩
abbrev cX11_deep : ByteArray := prog_1_method_19_code
def yX11_deep : MethodName := ⟨RX11, "deep", "(II)I"⟩
abbrev cX11_skin : ByteArray := prog_1_method_20_code
def yX11_skin : MethodName := ⟨RX11, "skin", "(I)I"⟩
abbrev cX11_hailed : ByteArray := prog_1_method_21_code
def yX11_hailed : MethodName := ⟨RX11, "hailed", "(III)I"⟩
abbrev cX11_razor : ByteArray := prog_1_method_22_code
def yX11_razor : MethodName := ⟨RX11, "razor", "(III)I"⟩
abbrev cX11_hidden : ByteArray := prog_1_method_23_code
def yX11_hidden : MethodName := ⟨RX11, "hidden", "(II)I"⟩
abbrev cX11_shown : ByteArray := prog_1_method_24_code
def yX11_shown : MethodName := ⟨RX11, "shown", "(II)I"⟩
abbrev cX11_firstWet : ByteArray := prog_1_method_25_code
def yX11_firstWet : MethodName := ⟨RX11, "firstWet", "(II)I"⟩
abbrev cX11_paint : ByteArray := prog_1_method_26_code
def yX11_paint : MethodName := ⟨RX11, "paint", "(III)I"⟩
abbrev cX11_gap : ByteArray := prog_1_method_27_code
def yX11_gap : MethodName := ⟨RX11, "gap", "(II)I"⟩
abbrev cX11_moves : ByteArray := prog_1_method_28_code
def yX11_moves : MethodName := ⟨RX11, "moves", "(II)I"⟩
abbrev cX11_orders : ByteArray := prog_1_method_29_code
def yX11_orders : MethodName := ⟨RX11, "orders", "(III)I"⟩
abbrev cX11_forged : ByteArray := prog_1_method_30_code
def yX11_forged : MethodName := ⟨RX11, "forged", "(II)I"⟩
abbrev cX11_lane : ByteArray := prog_1_method_31_code
def yX11_lane : MethodName := ⟨RX11, "lane", "(II)I"⟩
abbrev cX11_price : ByteArray := prog_1_method_32_code
def yX11_price : MethodName := ⟨RX11, "price", "(II)I"⟩
abbrev cX11_hail : ByteArray := prog_1_method_33_code
def yX11_hail : MethodName := ⟨RX11, "hail", "(I)I"⟩
abbrev cX11_scratch : ByteArray := prog_1_method_34_code
def yX11_scratch : MethodName := ⟨RX11, "scratch", "(II)I"⟩
abbrev cX11_falls : ByteArray := prog_1_method_35_code
def yX11_falls : MethodName := ⟨RX11, "falls", "()I"⟩
abbrev cX11_years : ByteArray := prog_1_method_36_code
def yX11_years : MethodName := ⟨RX11, "years", "(I)I"⟩
abbrev cX11_seed : ByteArray := prog_1_method_37_code
def yX11_seed : MethodName := ⟨RX11, "seed", "(I)I"⟩
abbrev cX11_act : ByteArray := prog_1_method_38_code
def yX11_act : MethodName := ⟨RX11, "act", "(III)I"⟩
abbrev cX11_trace : ByteArray := prog_1_method_39_code
def yX11_trace : MethodName := ⟨RX11, "trace", "(I)I"⟩
abbrev cX11_image : ByteArray := prog_1_method_40_code
def yX11_image : MethodName := ⟨RX11, "image", "()I"⟩
abbrev cX11_restore : ByteArray := prog_1_method_41_code
def yX11_restore : MethodName := ⟨RX11, "restore", "()I"⟩
abbrev cX11_status : ByteArray := prog_1_method_42_code
def yX11_status : MethodName := ⟨RX11, "status", "(I)I"⟩
abbrev cX11_refuse : ByteArray := prog_1_method_43_code
def yX11_refuse : MethodName := ⟨RX11, "refuse", "(I)I"⟩
abbrev cX11_refuseDown : ByteArray := prog_1_method_44_code
def yX11_refuseDown : MethodName := ⟨RX11, "refuseDown", "(II)I"⟩
abbrev cX11_outside : ByteArray := prog_1_method_45_code
def yX11_outside : MethodName := ⟨RX11, "outside", "(II)Z"⟩
abbrev cX11_noHouse : ByteArray := prog_1_method_46_code
def yX11_noHouse : MethodName := ⟨RX11, "noHouse", "(I)Z"⟩
abbrev cX11_noCoat : ByteArray := prog_1_method_47_code
def yX11_noCoat : MethodName := ⟨RX11, "noCoat", "(II)Z"⟩
abbrev cX11_holdsRow : ByteArray := prog_1_method_48_code
def yX11_holdsRow : MethodName := ⟨RX11, "holdsRow", "(I)Z"⟩
abbrev cX11_holdsHouse : ByteArray := prog_1_method_49_code
def yX11_holdsHouse : MethodName := ⟨RX11, "holdsHouse", "(I)Z"⟩
abbrev cX11_rowTrouble : ByteArray := prog_1_method_50_code
def yX11_rowTrouble : MethodName := ⟨RX11, "rowTrouble", "(I)I"⟩
abbrev cX11_noSuchPart : ByteArray := prog_1_method_51_code
def yX11_noSuchPart : MethodName := ⟨RX11, "noSuchPart", "(III)Z"⟩
abbrev cX11_lowestBits : ByteArray := prog_1_method_52_code
def yX11_lowestBits : MethodName := ⟨RX11, "lowestBits", "(IJ)J"⟩
abbrev cX11_isOf : ByteArray := prog_1_method_53_code
def yX11_isOf : MethodName := ⟨RX11, "isOf", "(LPaintedOver$Kind;I)Z"⟩
abbrev cX11_saidBy : ByteArray := prog_1_method_54_code
def yX11_saidBy : MethodName := ⟨RX11, "saidBy", "(LPaintedOver$Front;I)I"⟩
abbrev cX11_strengthOfHighest : ByteArray := prog_1_method_55_code
def yX11_strengthOfHighest : MethodName := ⟨RX11, "strengthOfHighest", "(LPaintedOver$Front;)I"⟩
abbrev cX11_cheapest : ByteArray := prog_1_method_56_code
def yX11_cheapest : MethodName := ⟨RX11, "cheapest", "(LPaintedOver$Front;I)I"⟩
abbrev cX11_pairsTrouble : ByteArray := prog_1_method_57_code
def yX11_pairsTrouble : MethodName := ⟨RX11, "pairsTrouble", "(IIZ)I"⟩
abbrev cX11_isPair : ByteArray := prog_1_method_58_code
def yX11_isPair : MethodName := ⟨RX11, "isPair", "(I)Z"⟩
abbrev cX11_forgetPairs : ByteArray := prog_1_method_59_code
def yX11_forgetPairs : MethodName := ⟨RX11, "forgetPairs", "()V"⟩
abbrev cX11_addPair : ByteArray := prog_1_method_60_code
def yX11_addPair : MethodName := ⟨RX11, "addPair", "(I)V"⟩
abbrev cX11_mayComeOn : ByteArray := prog_1_method_61_code
def yX11_mayComeOn : MethodName := ⟨RX11, "mayComeOn", "(II)Z"⟩
abbrev cX11_lowestOn : ByteArray := prog_1_method_62_code
def yX11_lowestOn : MethodName := ⟨RX11, "lowestOn", "(I)I"⟩
abbrev cX11_orderFits : ByteArray := prog_1_method_63_code
def yX11_orderFits : MethodName := ⟨RX11, "orderFits", "()Z"⟩
abbrev cX11_inFirstOrder : ByteArray := prog_1_method_64_code
def yX11_inFirstOrder : MethodName := ⟨RX11, "inFirstOrder", "(I)I"⟩
abbrev cX11_countOrders : ByteArray := prog_1_method_65_code
def yX11_countOrders : MethodName := ⟨RX11, "countOrders", "()I"⟩
def RX12 : String := "PaintedOverModel"
def TX12 : u_T := fun k => match k with
  | 0 => ("PaintedOverModel", "holding", "[I", true)
  | 1 => ("PaintedOverModel", "rowLength", "[I", true)
  | 2 => ("PaintedOverModel", "rowOf", "[J", true)
  | 3 => ("PaintedOverModel", "houses", "I", false)
  | 4 => ("PaintedOverModel", "kind", "[I", true)
  | 5 => ("PaintedOverModel", "own", "[I", true)
  | 6 => ("PaintedOverModel", "coats", "[I", true)
  | 7 => ("PaintedOverModel", "tenant", "[I", true)
  | 8 => ("PaintedOverModel", "colour", "[I", true)
  | 9 => ("PaintedOverModel", "thick", "[I", true)
  | 10 => ("PaintedOverModel", "gap", "[I", true)
  | 11 => ("PaintedOverModel", "painted", "[I", true)
  | 12 => ("PaintedOverModel", "gone", "[I", true)
  | 13 => ("PaintedOverModel", "hides", "[I", true)
  | 14 => ("PaintedOverModel", "costs", "[I", true)
  | 15 => ("PaintedOverModel", "limit", "I", false)
  | 16 => ("PaintedOverModel", "wide", "I", false)
  | 17 => ("PaintedOverModel", "year", "I", false)
  | 18 => ("PaintedOverModel", "fallen", "I", false)
  | 19 => ("PaintedOverModel", "seed", "I", false)
  | 20 => ("PaintedOverModel", "fault", "I", false)
  | 21 => ("PaintedOverModel", "refusals", "[I", true)
  | 22 => ("PaintedOverModel", "traced", "I", false)
  | 23 => ("PaintedOverModel", "traces", "[I", true)
  | 24 => ("PaintedOverModel", "imaged", "Z", false)
  | 25 => ("PaintedOverModel", "old", "[I", true)
  | 26 => ("PaintedOverModel", "ahead", "[I", true)
  | 27 => ("PaintedOverModel", "reading", "I", false)
  | 28 => ("PaintedOverModel", "at", "I", false)
  | 29 => ("PaintedOverModel", "numbers", "[I", true)
  | 30 => ("PaintedOverModel", "over", "[I", true)
  | 31 => ("PaintedOverModel", "named", "I", false)
  | _ => ("PaintedOverModel", "first", "[I", true)
def tyX12 : Nat → FieldType := fun k => match k with
  | 0 => .array .int
  | 1 => .array .int
  | 2 => .array .long
  | 3 => .int
  | 4 => .array .int
  | 5 => .array .int
  | 6 => .array .int
  | 7 => .array .int
  | 8 => .array .int
  | 9 => .array .int
  | 10 => .array .int
  | 11 => .array .int
  | 12 => .array .int
  | 13 => .array .int
  | 14 => .array .int
  | 15 => .int
  | 16 => .int
  | 17 => .int
  | 18 => .int
  | 19 => .int
  | 20 => .int
  | 21 => .array .int
  | 22 => .int
  | 23 => .array .int
  | 24 => .boolean
  | 25 => .array .int
  | 26 => .array .int
  | 27 => .int
  | 28 => .int
  | 29 => .array .int
  | 30 => .array .int
  | 31 => .int
  | _ => .array .int
theorem nmX12 : ∀ a, a < 33 → ∀ b, b < 33 → a ≠ b → (TX12 a).2.1 ≠ (TX12 b).2.1 := by decide +kernel
theorem tyX12_ok : ∀ k, k < 33 → parseFieldDescriptor (TX12 k).2.2.1 = some (tyX12 k) := by decide +kernel
abbrev cX12_init : ByteArray := prog_14_method_1_code
def yX12_init : MethodName := ⟨RX12, "<init>", "()V"⟩
abbrev cX12_no : ByteArray := prog_14_method_2_code
def yX12_no : MethodName := ⟨RX12, "no", "(I)I"⟩
abbrev cX12_no10 : ByteArray := prog_14_method_3_code
def yX12_no10 : MethodName := ⟨RX12, "no10", "(I)I"⟩
abbrev cX12_within : ByteArray := prog_14_method_4_code
def yX12_within : MethodName := ⟨RX12, "within", "(III)Z"⟩
abbrev cX12_has : ByteArray := prog_14_method_5_code
def yX12_has : MethodName := ⟨RX12, "has", "(II)Z"⟩
abbrev cX12_isHouse : ByteArray := prog_14_method_6_code
def yX12_isHouse : MethodName := ⟨RX12, "isHouse", "(I)Z"⟩
abbrev cX12_isCoat : ByteArray := prog_14_method_7_code
def yX12_isCoat : MethodName := ⟨RX12, "isCoat", "(II)Z"⟩
abbrev cX12_isCell : ByteArray := prog_14_method_8_code
def yX12_isCell : MethodName := ⟨RX12, "isCell", "(I)Z"⟩
abbrev cX12_isWeather : ByteArray := prog_14_method_9_code
def yX12_isWeather : MethodName := ⟨RX12, "isWeather", "(I)Z"⟩
abbrev cX12_isRow : ByteArray := prog_14_method_10_code
def yX12_isRow : MethodName := ⟨RX12, "isRow", "(I)Z"⟩
abbrev cX12_row : ByteArray := prog_14_method_11_code
def yX12_row : MethodName := ⟨RX12, "row", "(III)I"⟩
abbrev cX12_noRow : ByteArray := prog_14_method_12_code
def yX12_noRow : MethodName := ⟨RX12, "noRow", "(I)I"⟩
abbrev cX12_set : ByteArray := prog_14_method_13_code
def yX12_set : MethodName := ⟨RX12, "set", "(IIJ)I"⟩
abbrev cX12_copy : ByteArray := prog_14_method_14_code
def yX12_copy : MethodName := ⟨RX12, "copy", "(IIIII)I"⟩
abbrev cX12_element : ByteArray := prog_14_method_15_code
def yX12_element : MethodName := ⟨RX12, "element", "(II)J"⟩
abbrev cX12_show : ByteArray := prog_14_method_16_code
def yX12_show : MethodName := ⟨RX12, "show", "(II)I"⟩
abbrev cX12_holds : ByteArray := prog_14_method_17_code
def yX12_holds : MethodName := ⟨RX12, "holds", "(I)I"⟩
abbrev cX12_above : ByteArray := prog_14_method_18_code
def yX12_above : MethodName := ⟨RX12, "above", "(I)I"⟩
abbrev cX12_isUnder : ByteArray := prog_14_method_19_code
def yX12_isUnder : MethodName := ⟨RX12, "isUnder", "(II)Z"⟩
abbrev cX12_says : ByteArray := prog_14_method_20_code
def yX12_says : MethodName := ⟨RX12, "says", "(II)I"⟩
abbrev cX12_newHouse : ByteArray := prog_14_method_21_code
def yX12_newHouse : MethodName := ⟨RX12, "newHouse", "(II)I"⟩
abbrev cX12_bare : ByteArray := prog_14_method_22_code
def yX12_bare : MethodName := ⟨RX12, "bare", "(I)V"⟩
abbrev cX12_house : ByteArray := prog_14_method_23_code
def yX12_house : MethodName := ⟨RX12, "house", "(II)I"⟩
abbrev cX12_lived : ByteArray := prog_14_method_24_code
def yX12_lived : MethodName := ⟨RX12, "lived", "(I)I"⟩
abbrev cX12_houseOf : ByteArray := prog_14_method_25_code
def yX12_houseOf : MethodName := ⟨RX12, "houseOf", "(II)I"⟩
abbrev cX12_colour : ByteArray := prog_14_method_26_code
def yX12_colour : MethodName := ⟨RX12, "colour", "(III)I"⟩
abbrev cX12_ask : ByteArray := prog_14_method_27_code
def yX12_ask : MethodName := ⟨RX12, "ask", "(II)I"⟩
abbrev cX12_paints : ByteArray := prog_14_method_28_code
def yX12_paints : MethodName := ⟨RX12, "paints", "(IIIII)I"⟩
abbrev cX12_coat : ByteArray := prog_14_method_29_code
def yX12_coat : MethodName := ⟨RX12, "coat", "(IIIII)I"⟩
abbrev cX12_coatOf : ByteArray := prog_14_method_30_code
def yX12_coatOf : MethodName := ⟨RX12, "coatOf", "(III)I"⟩
abbrev cX12_sign : ByteArray := prog_14_method_31_code
def yX12_sign : MethodName := ⟨RX12, "sign", "()I"⟩
abbrev cX12_is : ByteArray := prog_14_method_32_code
def yX12_is : MethodName := ⟨RX12, "is", "(C)Z"⟩
abbrev cX12_word : ByteArray := prog_14_method_33_code
def yX12_word : MethodName := ⟨RX12, "word", "(Ljava/lang/String;)Z"⟩
abbrev cX12_number : ByteArray := prog_14_method_34_code
def yX12_number : MethodName := ⟨RX12, "number", "(III)Z"⟩
abbrev cX12_item : ByteArray := prog_14_method_35_code
def yX12_item : MethodName := ⟨RX12, "item", "()Z"⟩
abbrev cX12_sign_ : ByteArray := prog_14_method_36_code
def yX12_sign_ : MethodName := ⟨RX12, "sign", "(I)I"⟩
abbrev cX12_street : ByteArray := prog_14_method_37_code
def yX12_street : MethodName := ⟨RX12, "street", "(I)I"⟩
abbrev cX12_fault : ByteArray := prog_14_method_38_code
def yX12_fault : MethodName := ⟨RX12, "fault", "()I"⟩
abbrev cX12_strength : ByteArray := prog_14_method_39_code
def yX12_strength : MethodName := ⟨RX12, "strength", "(II)I"⟩
abbrev cX12_wetOf : ByteArray := prog_14_method_40_code
def yX12_wetOf : MethodName := ⟨RX12, "wetOf", "(III)I"⟩
abbrev cX12_lies : ByteArray := prog_14_method_41_code
def yX12_lies : MethodName := ⟨RX12, "lies", "(II)I"⟩
abbrev cX12_seenIn : ByteArray := prog_14_method_42_code
def yX12_seenIn : MethodName := ⟨RX12, "seenIn", "(III)I"⟩
abbrev cX12_seenAt : ByteArray := prog_14_method_43_code
def yX12_seenAt : MethodName := ⟨RX12, "seenAt", "(III)I"⟩
abbrev cX12_hard : ByteArray := prog_14_method_44_code
def yX12_hard : MethodName := ⟨RX12, "hard", "(III)I"⟩
abbrev cX12_behind : ByteArray := prog_14_method_45_code
def yX12_behind : MethodName := ⟨RX12, "behind", "(III)I"⟩
abbrev cX12_sum : ByteArray := prog_14_method_46_code
def yX12_sum : MethodName := ⟨RX12, "sum", "(II)I"⟩
abbrev cX12_deepOf : ByteArray := prog_14_method_47_code
def yX12_deepOf : MethodName := ⟨RX12, "deepOf", "(II)I"⟩
abbrev cX12_skinOf : ByteArray := prog_14_method_48_code
def yX12_skinOf : MethodName := ⟨RX12, "skinOf", "(I)I"⟩
abbrev cX12_seen : ByteArray := prog_14_method_49_code
def yX12_seen : MethodName := ⟨RX12, "seen", "(III)I"⟩
abbrev cX12_wet : ByteArray := prog_14_method_50_code
def yX12_wet : MethodName := ⟨RX12, "wet", "(III)I"⟩
abbrev cX12_deep : ByteArray := prog_14_method_51_code
def yX12_deep : MethodName := ⟨RX12, "deep", "(II)I"⟩
abbrev cX12_skin : ByteArray := prog_14_method_52_code
def yX12_skin : MethodName := ⟨RX12, "skin", "(I)I"⟩
abbrev cX12_hailed : ByteArray := prog_14_method_53_code
def yX12_hailed : MethodName := ⟨RX12, "hailed", "(III)I"⟩
abbrev cX12_razor : ByteArray := prog_14_method_54_code
def yX12_razor : MethodName := ⟨RX12, "razor", "(III)I"⟩
abbrev cX12_seenAll : ByteArray := prog_14_method_55_code
def yX12_seenAll : MethodName := ⟨RX12, "seenAll", "(II)I"⟩
abbrev cX12_hidden : ByteArray := prog_14_method_56_code
def yX12_hidden : MethodName := ⟨RX12, "hidden", "(II)I"⟩
abbrev cX12_shown : ByteArray := prog_14_method_57_code
def yX12_shown : MethodName := ⟨RX12, "shown", "(II)I"⟩
abbrev cX12_firstWet : ByteArray := prog_14_method_58_code
def yX12_firstWet : MethodName := ⟨RX12, "firstWet", "(II)I"⟩
abbrev cX12_paint : ByteArray := prog_14_method_59_code
def yX12_paint : MethodName := ⟨RX12, "paint", "(III)I"⟩
abbrev cX12_gap : ByteArray := prog_14_method_60_code
def yX12_gap : MethodName := ⟨RX12, "gap", "(II)I"⟩
abbrev cX12_moves : ByteArray := prog_14_method_61_code
def yX12_moves : MethodName := ⟨RX12, "moves", "(II)I"⟩
abbrev cX12_noPairs : ByteArray := prog_14_method_62_code
def yX12_noPairs : MethodName := ⟨RX12, "noPairs", "(IIZ)I"⟩
abbrev cX12_pairs : ByteArray := prog_14_method_63_code
def yX12_pairs : MethodName := ⟨RX12, "pairs", "(II)V"⟩
abbrev cX12_ordersFrom : ByteArray := prog_14_method_64_code
def yX12_ordersFrom : MethodName := ⟨RX12, "ordersFrom", "(I)I"⟩
abbrev cX12_orders : ByteArray := prog_14_method_65_code
def yX12_orders : MethodName := ⟨RX12, "orders", "(III)I"⟩
abbrev cX12_forged : ByteArray := prog_14_method_66_code
def yX12_forged : MethodName := ⟨RX12, "forged", "(II)I"⟩
abbrev cX12_deepest : ByteArray := prog_14_method_67_code
def yX12_deepest : MethodName := ⟨RX12, "deepest", "(I)I"⟩
abbrev cX12_lane : ByteArray := prog_14_method_68_code
def yX12_lane : MethodName := ⟨RX12, "lane", "(II)I"⟩
abbrev cX12_price : ByteArray := prog_14_method_69_code
def yX12_price : MethodName := ⟨RX12, "price", "(II)I"⟩
abbrev cX12_hailAll : ByteArray := prog_14_method_70_code
def yX12_hailAll : MethodName := ⟨RX12, "hailAll", "(I)I"⟩
abbrev cX12_hail : ByteArray := prog_14_method_71_code
def yX12_hail : MethodName := ⟨RX12, "hail", "(I)I"⟩
abbrev cX12_scratch : ByteArray := prog_14_method_72_code
def yX12_scratch : MethodName := ⟨RX12, "scratch", "(II)I"⟩
abbrev cX12_fall : ByteArray := prog_14_method_73_code
def yX12_fall : MethodName := ⟨RX12, "fall", "()I"⟩
abbrev cX12_falls : ByteArray := prog_14_method_74_code
def yX12_falls : MethodName := ⟨RX12, "falls", "()I"⟩
abbrev cX12_draw : ByteArray := prog_14_method_75_code
def yX12_draw : MethodName := ⟨RX12, "draw", "(I)I"⟩
abbrev cX12_years : ByteArray := prog_14_method_76_code
def yX12_years : MethodName := ⟨RX12, "years", "(I)I"⟩
abbrev cX12_seed : ByteArray := prog_14_method_77_code
def yX12_seed : MethodName := ⟨RX12, "seed", "(I)I"⟩
abbrev cX12_ran : ByteArray := prog_14_method_78_code
def yX12_ran : MethodName := ⟨RX12, "ran", "(I)V"⟩
abbrev cX12_paintsAct : ByteArray := prog_14_method_79_code
def yX12_paintsAct : MethodName := ⟨RX12, "paintsAct", "(II)I"⟩
abbrev cX12_peels : ByteArray := prog_14_method_80_code
def yX12_peels : MethodName := ⟨RX12, "peels", "(II)I"⟩
abbrev cX12_fallsAct : ByteArray := prog_14_method_81_code
def yX12_fallsAct : MethodName := ⟨RX12, "fallsAct", "(II)I"⟩
abbrev cX12_act : ByteArray := prog_14_method_82_code
def yX12_act : MethodName := ⟨RX12, "act", "(III)I"⟩
abbrev cX12_trace : ByteArray := prog_14_method_83_code
def yX12_trace : MethodName := ⟨RX12, "trace", "(I)I"⟩
abbrev cX12_keep : ByteArray := prog_14_method_84_code
def yX12_keep : MethodName := ⟨RX12, "keep", "([I)V"⟩
abbrev cX12_again : ByteArray := prog_14_method_85_code
def yX12_again : MethodName := ⟨RX12, "again", "([I)V"⟩
abbrev cX12_image : ByteArray := prog_14_method_86_code
def yX12_image : MethodName := ⟨RX12, "image", "()I"⟩
abbrev cX12_restore : ByteArray := prog_14_method_87_code
def yX12_restore : MethodName := ⟨RX12, "restore", "()I"⟩
abbrev cX12_status : ByteArray := prog_14_method_88_code
def yX12_status : MethodName := ⟨RX12, "status", "(I)I"⟩
def RJ6 : String := "java/lang/Integer"
def TJ6 : u_T := fun k => match k with
  | _ => ("", "", "", false)
def tyJ6 : Nat → FieldType := fun k => match k with
  | _ => .int
theorem nmJ6 : ∀ a, a < 0 → ∀ b, b < 0 → a ≠ b → (TJ6 a).2.1 ≠ (TJ6 b).2.1 := by decide +kernel
theorem tyJ6_ok : ∀ k, k < 0 → parseFieldDescriptor (TJ6 k).2.2.1 = some (tyJ6 k) := by decide +kernel
abbrev cJ6_highestOneBit_0f7a4 : ByteArray := prog_15_method_45_code
def yJ6_highestOneBit_0f7a4 : MethodName := ⟨RJ6, "highestOneBit", "(I)I"⟩
abbrev cJ6_numberOfLeadingZeros_0f7a4 : ByteArray := prog_15_method_47_code
def yJ6_numberOfLeadingZeros_0f7a4 : MethodName := ⟨RJ6, "numberOfLeadingZeros", "(I)I"⟩
abbrev cJ6_bitCount_0f7a4 : ByteArray := prog_15_method_49_code
def yJ6_bitCount_0f7a4 : MethodName := ⟨RJ6, "bitCount", "(I)I"⟩
def RJ9 : String := "java/lang/Math"
def TJ9 : u_T := fun k => match k with
  | _ => ("", "", "", false)
def tyJ9 : Nat → FieldType := fun k => match k with
  | _ => .int
theorem nmJ9 : ∀ a, a < 0 → ∀ b, b < 0 → a ≠ b → (TJ9 a).2.1 ≠ (TJ9 b).2.1 := by decide +kernel
theorem tyJ9_ok : ∀ k, k < 0 → parseFieldDescriptor (TJ9 k).2.2.1 = some (tyJ9 k) := by decide +kernel
abbrev cJ9_max_7cf53 : ByteArray := prog_16_method_65_code
def yJ9_max_7cf53 : MethodName := ⟨RJ9, "max", "(II)I"⟩
def RJ0 : String := "java/lang/String"
def TJ0 : u_T := fun k => match k with
  | _ => ("", "", "", false)
def tyJ0 : Nat → FieldType := fun k => match k with
  | _ => .int
theorem nmJ0 : ∀ a, a < 0 → ∀ b, b < 0 → a ≠ b → (TJ0 a).2.1 ≠ (TJ0 b).2.1 := by decide +kernel
theorem tyJ0_ok : ∀ k, k < 0 → parseFieldDescriptor (TJ0 k).2.2.1 = some (tyJ0 k) := by decide +kernel
abbrev cJ0_length_8abf5 : ByteArray := prog_17_method_54_code
def yJ0_length_8abf5 : MethodName := ⟨RJ0, "length", "()I"⟩
abbrev cJ0_charAt_5068e : ByteArray := prog_17_method_56_code
def yJ0_charAt_5068e : MethodName := ⟨RJ0, "charAt", "(I)C"⟩
abbrev cJ0_coder_7d493 : ByteArray := prog_17_method_152_code
def yJ0_coder_7d493 : MethodName := ⟨RJ0, "coder", "()B"⟩
abbrev cJ0_isLatin1_aae02 : ByteArray := prog_17_method_154_code
def yJ0_isLatin1_aae02 : MethodName := ⟨RJ0, "isLatin1", "()Z"⟩
abbrev cJ0_checkIndex_df160 : ByteArray := prog_17_method_155_code
def yJ0_checkIndex_df160 : MethodName := ⟨RJ0, "checkIndex", "(II)V"⟩
def RJ1 : String := "java/lang/StringLatin1"
def TJ1 : u_T := fun k => match k with
  | _ => ("", "", "", false)
def tyJ1 : Nat → FieldType := fun k => match k with
  | _ => .int
theorem nmJ1 : ∀ a, a < 0 → ∀ b, b < 0 → a ≠ b → (TJ1 a).2.1 ≠ (TJ1 b).2.1 := by decide +kernel
theorem tyJ1_ok : ∀ k, k < 0 → parseFieldDescriptor (TJ1 k).2.2.1 = some (tyJ1 k) := by decide +kernel
abbrev cJ1_charAt_3b067 : ByteArray := prog_18_method_2_code
def yJ1_charAt_3b067 : MethodName := ⟨RJ1, "charAt", "([BI)C"⟩
def RJ2 : String := "java/lang/StringUTF16"
def TJ2 : u_T := fun k => match k with
  | _ => ("", "", "", false)
def tyJ2 : Nat → FieldType := fun k => match k with
  | _ => .int
theorem nmJ2 : ∀ a, a < 0 → ∀ b, b < 0 → a ≠ b → (TJ2 a).2.1 ≠ (TJ2 b).2.1 := by decide +kernel
theorem tyJ2_ok : ∀ k, k < 0 → parseFieldDescriptor (TJ2 k).2.2.1 = some (tyJ2 k) := by decide +kernel
abbrev cJ2_getChar_3b067 : ByteArray := prog_19_method_5_code
def yJ2_getChar_3b067 : MethodName := ⟨RJ2, "getChar", "([BI)C"⟩
abbrev cJ2_length_9d52b : ByteArray := prog_19_method_6_code
def yJ2_length_9d52b : MethodName := ⟨RJ2, "length", "([B)I"⟩
abbrev cJ2_charAt_3b067 : ByteArray := prog_19_method_83_code
def yJ2_charAt_3b067 : MethodName := ⟨RJ2, "charAt", "([BI)C"⟩
abbrev cJ2_checkIndex_2214a : ByteArray := prog_19_method_91_code
def yJ2_checkIndex_2214a : MethodName := ⟨RJ2, "checkIndex", "(I[B)V"⟩
def RJ10 : String := "java/lang/System"
def TJ10 : u_T := fun k => match k with
  | _ => ("", "", "", false)
def tyJ10 : Nat → FieldType := fun k => match k with
  | _ => .int
theorem nmJ10 : ∀ a, a < 0 → ∀ b, b < 0 → a ≠ b → (TJ10 a).2.1 ≠ (TJ10 b).2.1 := by decide +kernel
theorem tyJ10_ok : ∀ k, k < 0 → parseFieldDescriptor (TJ10 k).2.2.1 = some (tyJ10 k) := by decide +kernel
def RJ3 : String := "jdk/internal/util/Preconditions"
def TJ3 : u_T := fun k => match k with
  | _ => ("", "", "", false)
def tyJ3 : Nat → FieldType := fun k => match k with
  | _ => .int
theorem nmJ3 : ∀ a, a < 0 → ∀ b, b < 0 → a ≠ b → (TJ3 a).2.1 ≠ (TJ3 b).2.1 := by decide +kernel
theorem tyJ3_ok : ∀ k, k < 0 → parseFieldDescriptor (TJ3 k).2.2.1 = some (tyJ3 k) := by decide +kernel
abbrev cJ3_checkIndex_8e157 : ByteArray := prog_21_method_11_code
def yJ3_checkIndex_8e157 : MethodName := ⟨RJ3, "checkIndex", "(IILjava/util/function/BiFunction;)I"⟩
def RL : String := "PaintedOverLaw"
abbrev cL_law : ByteArray := code
def yL_law : MethodName := ⟨RL, "law", "([I)Z"⟩
abbrev vwCl : List vw_C := [(RX0, TX0, 0), (RX1, TX1, 0), (RX2, TX2, 0), (RX3, TX3, 10), (RX4, TX4, 0), (RX5, TX5, 0), (RX6, TX6, 6), (RX7, TX7, 0), (RX8, TX8, 0), (RX9, TX9, 10), (RX10, TX10, 4), (RX11, TX11, 14), (RX12, TX12, 33)]
end
section
theorem dX0_init_0 : decode cX0_init 0 = .ok (.aload_n 0, 1) := by decide +kernel
theorem dX0_init_1 : decode cX0_init 1 = .ok (.invokespecial 1, 3) := by decide +kernel
theorem dX0_init_4 : decode cX0_init 4 = .ok (.return_, 1) := by decide +kernel
theorem dX0_hardness_0 : decode cX0_hardness 0 = .ok (.iconst 2, 1) := by decide +kernel
theorem dX0_hardness_1 : decode cX0_hardness 1 = .ok (.aload_n 0, 1) := by decide +kernel
theorem dX0_hardness_2 : decode cX0_hardness 2 = .ok (.iload_n 1, 1) := by decide +kernel
theorem dX0_hardness_3 : decode cX0_hardness 3 = .ok (.iload_n 2, 1) := by decide +kernel
theorem dX0_hardness_4 : decode cX0_hardness 4 = .ok (.iload_n 3, 1) := by decide +kernel
theorem dX0_hardness_5 : decode cX0_hardness 5 = .ok (.invokespecial 7, 3) := by decide +kernel
theorem dX0_hardness_8 : decode cX0_hardness 8 = .ok (.imul, 1) := by decide +kernel
theorem dX0_hardness_9 : decode cX0_hardness 9 = .ok (.ireturn, 1) := by decide +kernel
theorem dX0_actPaints_0 : decode cX0_actPaints 0 = .ok (.aload_n 1, 1) := by decide +kernel
theorem dX0_actPaints_1 : decode cX0_actPaints 1 = .ok (.bipush 70, 2) := by decide +kernel
theorem dX0_actPaints_3 : decode cX0_actPaints 3 = .ok (.invokevirtual 11, 3) := by decide +kernel
theorem dX0_actPaints_6 : decode cX0_actPaints 6 = .ok (.aload_n 0, 1) := by decide +kernel
theorem dX0_actPaints_7 : decode cX0_actPaints 7 = .ok (.aload_n 1, 1) := by decide +kernel
theorem dX0_actPaints_8 : decode cX0_actPaints 8 = .ok (.iload_n 2, 1) := by decide +kernel
theorem dX0_actPaints_9 : decode cX0_actPaints 9 = .ok (.invokespecial 17, 3) := by decide +kernel
theorem dX0_actPaints_12 : decode cX0_actPaints 12 = .ok (.iconst 2, 1) := by decide +kernel
theorem dX0_actPaints_13 : decode cX0_actPaints 13 = .ok (.imul, 1) := by decide +kernel
theorem dX0_actPaints_14 : decode cX0_actPaints 14 = .ok (.ireturn, 1) := by decide +kernel
theorem dX0_actPeels_0 : decode cX0_actPeels 0 = .ok (.aload_n 1, 1) := by decide +kernel
theorem dX0_actPeels_1 : decode cX0_actPeels 1 = .ok (.bipush 71, 2) := by decide +kernel
theorem dX0_actPeels_3 : decode cX0_actPeels 3 = .ok (.invokevirtual 11, 3) := by decide +kernel
theorem dX0_actPeels_6 : decode cX0_actPeels 6 = .ok (.aload_n 0, 1) := by decide +kernel
theorem dX0_actPeels_7 : decode cX0_actPeels 7 = .ok (.aload_n 1, 1) := by decide +kernel
theorem dX0_actPeels_8 : decode cX0_actPeels 8 = .ok (.iload_n 2, 1) := by decide +kernel
theorem dX0_actPeels_9 : decode cX0_actPeels 9 = .ok (.aload_n 1, 1) := by decide +kernel
theorem dX0_actPeels_10 : decode cX0_actPeels 10 = .ok (.getfield 21, 3) := by decide +kernel
theorem dX0_actPeels_13 : decode cX0_actPeels 13 = .ok (.isub, 1) := by decide +kernel
theorem dX0_actPeels_14 : decode cX0_actPeels 14 = .ok (.invokespecial 25, 3) := by decide +kernel
theorem dX0_actPeels_17 : decode cX0_actPeels 17 = .ok (.ireturn, 1) := by decide +kernel
theorem dX1_init_0 : decode cX1_init 0 = .ok (.aload_n 0, 1) := by decide +kernel
theorem dX1_init_1 : decode cX1_init 1 = .ok (.invokespecial 3, 3) := by decide +kernel
theorem dX1_init_4 : decode cX1_init 4 = .ok (.return_, 1) := by decide +kernel
theorem dX1_wetness_0 : decode cX1_wetness 0 = .ok (.aload_n 0, 1) := by decide +kernel
theorem dX1_wetness_1 : decode cX1_wetness 1 = .ok (.iload_n 1, 1) := by decide +kernel
theorem dX1_wetness_2 : decode cX1_wetness 2 = .ok (.iload_n 2, 1) := by decide +kernel
theorem dX1_wetness_3 : decode cX1_wetness 3 = .ok (.iload_n 3, 1) := by decide +kernel
theorem dX1_wetness_4 : decode cX1_wetness 4 = .ok (.invokespecial 9, 3) := by decide +kernel
theorem dX1_wetness_7 : decode cX1_wetness 7 = .ok (.istore 4, 2) := by decide +kernel
theorem dX1_wetness_9 : decode cX1_wetness 9 = .ok (.iload_n 2, 1) := by decide +kernel
theorem dX1_wetness_10 : decode cX1_wetness 10 = .ok (.iconst 4, 1) := by decide +kernel
theorem dX1_wetness_11 : decode cX1_wetness 11 = .ok (.idiv, 1) := by decide +kernel
theorem dX1_wetness_12 : decode cX1_wetness 12 = .ok (.iconst 2, 1) := by decide +kernel
theorem dX1_wetness_13 : decode cX1_wetness 13 = .ok (.if_icmp .ne 10, 3) := by decide +kernel
theorem dX1_wetness_16 : decode cX1_wetness 16 = .ok (.iconst 2, 1) := by decide +kernel
theorem dX1_wetness_17 : decode cX1_wetness 17 = .ok (.iload 4, 2) := by decide +kernel
theorem dX1_wetness_19 : decode cX1_wetness 19 = .ok (.imul, 1) := by decide +kernel
theorem dX1_wetness_20 : decode cX1_wetness 20 = .ok (.goto 5, 3) := by decide +kernel
theorem dX1_wetness_23 : decode cX1_wetness 23 = .ok (.iload 4, 2) := by decide +kernel
theorem dX1_wetness_25 : decode cX1_wetness 25 = .ok (.ireturn, 1) := by decide +kernel
theorem dX1_actPeels_0 : decode cX1_actPeels 0 = .ok (.aload_n 1, 1) := by decide +kernel
theorem dX1_actPeels_1 : decode cX1_actPeels 1 = .ok (.bipush 40, 2) := by decide +kernel
theorem dX1_actPeels_3 : decode cX1_actPeels 3 = .ok (.invokevirtual 13, 3) := by decide +kernel
theorem dX1_actPeels_6 : decode cX1_actPeels 6 = .ok (.aload_n 0, 1) := by decide +kernel
theorem dX1_actPeels_7 : decode cX1_actPeels 7 = .ok (.aload_n 1, 1) := by decide +kernel
theorem dX1_actPeels_8 : decode cX1_actPeels 8 = .ok (.iload_n 2, 1) := by decide +kernel
theorem dX1_actPeels_9 : decode cX1_actPeels 9 = .ok (.iconst 1, 1) := by decide +kernel
theorem dX1_actPeels_10 : decode cX1_actPeels 10 = .ok (.iadd, 1) := by decide +kernel
theorem dX1_actPeels_11 : decode cX1_actPeels 11 = .ok (.invokespecial 19, 3) := by decide +kernel
theorem dX1_actPeels_14 : decode cX1_actPeels 14 = .ok (.ireturn, 1) := by decide +kernel
theorem dX2_init_0 : decode cX2_init 0 = .ok (.aload_n 0, 1) := by decide +kernel
theorem dX2_init_1 : decode cX2_init 1 = .ok (.invokespecial 1, 3) := by decide +kernel
theorem dX2_init_4 : decode cX2_init 4 = .ok (.return_, 1) := by decide +kernel
theorem dX2_wetness_0 : decode cX2_wetness 0 = .ok (.iload_n 3, 1) := by decide +kernel
theorem dX2_wetness_1 : decode cX2_wetness 1 = .ok (.ifCond .le 9, 3) := by decide +kernel
theorem dX2_wetness_4 : decode cX2_wetness 4 = .ok (.iload_n 3, 1) := by decide +kernel
theorem dX2_wetness_5 : decode cX2_wetness 5 = .ok (.iload_n 1, 1) := by decide +kernel
theorem dX2_wetness_6 : decode cX2_wetness 6 = .ok (.iadd, 1) := by decide +kernel
theorem dX2_wetness_7 : decode cX2_wetness 7 = .ok (.goto 4, 3) := by decide +kernel
theorem dX2_wetness_10 : decode cX2_wetness 10 = .ok (.iload_n 3, 1) := by decide +kernel
theorem dX2_wetness_11 : decode cX2_wetness 11 = .ok (.ireturn, 1) := by decide +kernel
theorem dX2_actPaints_0 : decode cX2_actPaints 0 = .ok (.aload_n 1, 1) := by decide +kernel
theorem dX2_actPaints_1 : decode cX2_actPaints 1 = .ok (.bipush 20, 2) := by decide +kernel
theorem dX2_actPaints_3 : decode cX2_actPaints 3 = .ok (.invokevirtual 7, 3) := by decide +kernel
theorem dX2_actPaints_6 : decode cX2_actPaints 6 = .ok (.aload_n 0, 1) := by decide +kernel
theorem dX2_actPaints_7 : decode cX2_actPaints 7 = .ok (.aload_n 1, 1) := by decide +kernel
theorem dX2_actPaints_8 : decode cX2_actPaints 8 = .ok (.iload_n 2, 1) := by decide +kernel
theorem dX2_actPaints_9 : decode cX2_actPaints 9 = .ok (.invokespecial 13, 3) := by decide +kernel
theorem dX2_actPaints_12 : decode cX2_actPaints 12 = .ok (.aload_n 1, 1) := by decide +kernel
theorem dX2_actPaints_13 : decode cX2_actPaints 13 = .ok (.getfield 17, 3) := by decide +kernel
theorem dX2_actPaints_16 : decode cX2_actPaints 16 = .ok (.iadd, 1) := by decide +kernel
theorem dX2_actPaints_17 : decode cX2_actPaints 17 = .ok (.ireturn, 1) := by decide +kernel
theorem dX3_init_0 : decode cX3_init 0 = .ok (.aload_n 0, 1) := by decide +kernel
theorem dX3_init_1 : decode cX3_init 1 = .ok (.invokespecial 3, 3) := by decide +kernel
theorem dX3_init_4 : decode cX3_init 4 = .ok (.aload_n 0, 1) := by decide +kernel
theorem dX3_init_5 : decode cX3_init 5 = .ok (.iconst 0, 1) := by decide +kernel
theorem dX3_init_6 : decode cX3_init 6 = .ok (.putfield 9, 3) := by decide +kernel
theorem dX3_init_9 : decode cX3_init 9 = .ok (.aload_n 0, 1) := by decide +kernel
theorem dX3_init_10 : decode cX3_init 10 = .ok (.iconst 0, 1) := by decide +kernel
theorem dX3_init_11 : decode cX3_init 11 = .ok (.putfield 15, 3) := by decide +kernel
theorem dX3_init_14 : decode cX3_init 14 = .ok (.aload_n 0, 1) := by decide +kernel
theorem dX3_init_15 : decode cX3_init 15 = .ok (.iconst 0, 1) := by decide +kernel
theorem dX3_init_16 : decode cX3_init 16 = .ok (.putfield 18, 3) := by decide +kernel
theorem dX3_init_19 : decode cX3_init 19 = .ok (.aload_n 0, 1) := by decide +kernel
theorem dX3_init_20 : decode cX3_init 20 = .ok (.bipush 8, 2) := by decide +kernel
theorem dX3_init_22 : decode cX3_init 22 = .ok (.newarray .int, 2) := by decide +kernel
theorem dX3_init_24 : decode cX3_init 24 = .ok (.putfield 21, 3) := by decide +kernel
theorem dX3_init_27 : decode cX3_init 27 = .ok (.aload_n 0, 1) := by decide +kernel
theorem dX3_init_28 : decode cX3_init 28 = .ok (.bipush 8, 2) := by decide +kernel
theorem dX3_init_30 : decode cX3_init 30 = .ok (.newarray .int, 2) := by decide +kernel
theorem dX3_init_32 : decode cX3_init 32 = .ok (.putfield 25, 3) := by decide +kernel
theorem dX3_init_35 : decode cX3_init 35 = .ok (.aload_n 0, 1) := by decide +kernel
theorem dX3_init_36 : decode cX3_init 36 = .ok (.bipush 8, 2) := by decide +kernel
theorem dX3_init_38 : decode cX3_init 38 = .ok (.newarray .int, 2) := by decide +kernel
theorem dX3_init_40 : decode cX3_init 40 = .ok (.putfield 28, 3) := by decide +kernel
theorem dX3_init_43 : decode cX3_init 43 = .ok (.aload_n 0, 1) := by decide +kernel
theorem dX3_init_44 : decode cX3_init 44 = .ok (.bipush 8, 2) := by decide +kernel
theorem dX3_init_46 : decode cX3_init 46 = .ok (.newarray .int, 2) := by decide +kernel
theorem dX3_init_48 : decode cX3_init 48 = .ok (.putfield 31, 3) := by decide +kernel
theorem dX3_init_51 : decode cX3_init 51 = .ok (.aload_n 0, 1) := by decide +kernel
theorem dX3_init_52 : decode cX3_init 52 = .ok (.bipush 8, 2) := by decide +kernel
theorem dX3_init_54 : decode cX3_init 54 = .ok (.newarray .int, 2) := by decide +kernel
theorem dX3_init_56 : decode cX3_init 56 = .ok (.putfield 34, 3) := by decide +kernel
theorem dX3_init_59 : decode cX3_init 59 = .ok (.aload_n 0, 1) := by decide +kernel
theorem dX3_init_60 : decode cX3_init 60 = .ok (.bipush 12, 2) := by decide +kernel
theorem dX3_init_62 : decode cX3_init 62 = .ok (.newarray .int, 2) := by decide +kernel
theorem dX3_init_64 : decode cX3_init 64 = .ok (.putfield 37, 3) := by decide +kernel
theorem dX3_init_67 : decode cX3_init 67 = .ok (.aload_n 0, 1) := by decide +kernel
theorem dX3_init_68 : decode cX3_init 68 = .ok (.aload_n 1, 1) := by decide +kernel
theorem dX3_init_69 : decode cX3_init 69 = .ok (.putfield 40, 3) := by decide +kernel
theorem dX3_init_72 : decode cX3_init 72 = .ok (.return_, 1) := by decide +kernel
theorem dX3_become_0 : decode cX3_become 0 = .ok (.aload_n 0, 1) := by decide +kernel
theorem dX3_become_1 : decode cX3_become 1 = .ok (.aload_n 1, 1) := by decide +kernel
theorem dX3_become_2 : decode cX3_become 2 = .ok (.getfield 40, 3) := by decide +kernel
theorem dX3_become_5 : decode cX3_become 5 = .ok (.putfield 40, 3) := by decide +kernel
theorem dX3_become_8 : decode cX3_become 8 = .ok (.aload_n 0, 1) := by decide +kernel
theorem dX3_become_9 : decode cX3_become 9 = .ok (.aload_n 1, 1) := by decide +kernel
theorem dX3_become_10 : decode cX3_become 10 = .ok (.getfield 9, 3) := by decide +kernel
theorem dX3_become_13 : decode cX3_become 13 = .ok (.putfield 9, 3) := by decide +kernel
theorem dX3_become_16 : decode cX3_become 16 = .ok (.aload_n 0, 1) := by decide +kernel
theorem dX3_become_17 : decode cX3_become 17 = .ok (.aload_n 1, 1) := by decide +kernel
theorem dX3_become_18 : decode cX3_become 18 = .ok (.getfield 15, 3) := by decide +kernel
theorem dX3_become_21 : decode cX3_become 21 = .ok (.putfield 15, 3) := by decide +kernel
theorem dX3_become_24 : decode cX3_become 24 = .ok (.aload_n 0, 1) := by decide +kernel
theorem dX3_become_25 : decode cX3_become 25 = .ok (.aload_n 1, 1) := by decide +kernel
theorem dX3_become_26 : decode cX3_become 26 = .ok (.getfield 18, 3) := by decide +kernel
theorem dX3_become_29 : decode cX3_become 29 = .ok (.putfield 18, 3) := by decide +kernel
theorem dX3_become_32 : decode cX3_become 32 = .ok (.aload_n 1, 1) := by decide +kernel
theorem dX3_become_33 : decode cX3_become 33 = .ok (.getfield 21, 3) := by decide +kernel
theorem dX3_become_36 : decode cX3_become 36 = .ok (.iconst 0, 1) := by decide +kernel
theorem dX3_become_37 : decode cX3_become 37 = .ok (.aload_n 0, 1) := by decide +kernel
theorem dX3_become_38 : decode cX3_become 38 = .ok (.getfield 21, 3) := by decide +kernel
theorem dX3_become_41 : decode cX3_become 41 = .ok (.iconst 0, 1) := by decide +kernel
theorem dX3_become_42 : decode cX3_become 42 = .ok (.bipush 8, 2) := by decide +kernel
theorem dX3_become_44 : decode cX3_become 44 = .ok (.invokestatic 44, 3) := by decide +kernel
theorem dX3_become_47 : decode cX3_become 47 = .ok (.aload_n 1, 1) := by decide +kernel
theorem dX3_become_48 : decode cX3_become 48 = .ok (.getfield 25, 3) := by decide +kernel
theorem dX3_become_51 : decode cX3_become 51 = .ok (.iconst 0, 1) := by decide +kernel
theorem dX3_become_52 : decode cX3_become 52 = .ok (.aload_n 0, 1) := by decide +kernel
theorem dX3_become_53 : decode cX3_become 53 = .ok (.getfield 25, 3) := by decide +kernel
theorem dX3_become_56 : decode cX3_become 56 = .ok (.iconst 0, 1) := by decide +kernel
theorem dX3_become_57 : decode cX3_become 57 = .ok (.bipush 8, 2) := by decide +kernel
theorem dX3_become_59 : decode cX3_become 59 = .ok (.invokestatic 44, 3) := by decide +kernel
theorem dX3_become_62 : decode cX3_become 62 = .ok (.aload_n 1, 1) := by decide +kernel
theorem dX3_become_63 : decode cX3_become 63 = .ok (.getfield 28, 3) := by decide +kernel
theorem dX3_become_66 : decode cX3_become 66 = .ok (.iconst 0, 1) := by decide +kernel
theorem dX3_become_67 : decode cX3_become 67 = .ok (.aload_n 0, 1) := by decide +kernel
theorem dX3_become_68 : decode cX3_become 68 = .ok (.getfield 28, 3) := by decide +kernel
theorem dX3_become_71 : decode cX3_become 71 = .ok (.iconst 0, 1) := by decide +kernel
theorem dX3_become_72 : decode cX3_become 72 = .ok (.bipush 8, 2) := by decide +kernel
theorem dX3_become_74 : decode cX3_become 74 = .ok (.invokestatic 44, 3) := by decide +kernel
theorem dX3_become_77 : decode cX3_become 77 = .ok (.aload_n 1, 1) := by decide +kernel
theorem dX3_become_78 : decode cX3_become 78 = .ok (.getfield 31, 3) := by decide +kernel
theorem dX3_become_81 : decode cX3_become 81 = .ok (.iconst 0, 1) := by decide +kernel
theorem dX3_become_82 : decode cX3_become 82 = .ok (.aload_n 0, 1) := by decide +kernel
theorem dX3_become_83 : decode cX3_become 83 = .ok (.getfield 31, 3) := by decide +kernel
theorem dX3_become_86 : decode cX3_become 86 = .ok (.iconst 0, 1) := by decide +kernel
theorem dX3_become_87 : decode cX3_become 87 = .ok (.bipush 8, 2) := by decide +kernel
theorem dX3_become_89 : decode cX3_become 89 = .ok (.invokestatic 44, 3) := by decide +kernel
theorem dX3_become_92 : decode cX3_become 92 = .ok (.aload_n 1, 1) := by decide +kernel
theorem dX3_become_93 : decode cX3_become 93 = .ok (.getfield 34, 3) := by decide +kernel
theorem dX3_become_96 : decode cX3_become 96 = .ok (.iconst 0, 1) := by decide +kernel
theorem dX3_become_97 : decode cX3_become 97 = .ok (.aload_n 0, 1) := by decide +kernel
theorem dX3_become_98 : decode cX3_become 98 = .ok (.getfield 34, 3) := by decide +kernel
theorem dX3_become_101 : decode cX3_become 101 = .ok (.iconst 0, 1) := by decide +kernel
theorem dX3_become_102 : decode cX3_become 102 = .ok (.bipush 8, 2) := by decide +kernel
theorem dX3_become_104 : decode cX3_become 104 = .ok (.invokestatic 44, 3) := by decide +kernel
theorem dX3_become_107 : decode cX3_become 107 = .ok (.aload_n 1, 1) := by decide +kernel
theorem dX3_become_108 : decode cX3_become 108 = .ok (.getfield 37, 3) := by decide +kernel
theorem dX3_become_111 : decode cX3_become 111 = .ok (.iconst 0, 1) := by decide +kernel
theorem dX3_become_112 : decode cX3_become 112 = .ok (.aload_n 0, 1) := by decide +kernel
theorem dX3_become_113 : decode cX3_become 113 = .ok (.getfield 37, 3) := by decide +kernel
theorem dX3_become_116 : decode cX3_become 116 = .ok (.iconst 0, 1) := by decide +kernel
theorem dX3_become_117 : decode cX3_become 117 = .ok (.bipush 12, 2) := by decide +kernel
theorem dX3_become_119 : decode cX3_become 119 = .ok (.invokestatic 44, 3) := by decide +kernel
theorem dX3_become_122 : decode cX3_become 122 = .ok (.return_, 1) := by decide +kernel
theorem dX3_clear_0 : decode cX3_clear 0 = .ok (.aload_n 0, 1) := by decide +kernel
theorem dX3_clear_1 : decode cX3_clear 1 = .ok (.iconst 0, 1) := by decide +kernel
theorem dX3_clear_2 : decode cX3_clear 2 = .ok (.putfield 18, 3) := by decide +kernel
theorem dX3_clear_5 : decode cX3_clear 5 = .ok (.iconst 0, 1) := by decide +kernel
theorem dX3_clear_6 : decode cX3_clear 6 = .ok (.istore_n 1, 1) := by decide +kernel
theorem dX3_clear_7 : decode cX3_clear 7 = .ok (.iload_n 1, 1) := by decide +kernel
theorem dX3_clear_8 : decode cX3_clear 8 = .ok (.bipush 12, 2) := by decide +kernel
theorem dX3_clear_10 : decode cX3_clear 10 = .ok (.if_icmp .ge 16, 3) := by decide +kernel
theorem dX3_clear_13 : decode cX3_clear 13 = .ok (.aload_n 0, 1) := by decide +kernel
theorem dX3_clear_14 : decode cX3_clear 14 = .ok (.getfield 37, 3) := by decide +kernel
theorem dX3_clear_17 : decode cX3_clear 17 = .ok (.iload_n 1, 1) := by decide +kernel
theorem dX3_clear_18 : decode cX3_clear 18 = .ok (.iconst 0, 1) := by decide +kernel
theorem dX3_clear_19 : decode cX3_clear 19 = .ok (.iastore, 1) := by decide +kernel
theorem dX3_clear_20 : decode cX3_clear 20 = .ok (.iinc 1 1, 3) := by decide +kernel
theorem dX3_clear_23 : decode cX3_clear 23 = .ok (.goto (-16), 3) := by decide +kernel
theorem dX3_clear_26 : decode cX3_clear 26 = .ok (.return_, 1) := by decide +kernel
theorem dX3_putOn_0 : decode cX3_putOn 0 = .ok (.aload_n 0, 1) := by decide +kernel
theorem dX3_putOn_1 : decode cX3_putOn 1 = .ok (.getfield 18, 3) := by decide +kernel
theorem dX3_putOn_4 : decode cX3_putOn 4 = .ok (.bipush 8, 2) := by decide +kernel
theorem dX3_putOn_6 : decode cX3_putOn 6 = .ok (.if_icmp .lt 5, 3) := by decide +kernel
theorem dX3_putOn_9 : decode cX3_putOn 9 = .ok (.iconst (-1), 1) := by decide +kernel
theorem dX3_putOn_10 : decode cX3_putOn 10 = .ok (.ireturn, 1) := by decide +kernel
theorem dX3_putOn_11 : decode cX3_putOn 11 = .ok (.aload_n 0, 1) := by decide +kernel
theorem dX3_putOn_12 : decode cX3_putOn 12 = .ok (.getfield 18, 3) := by decide +kernel
theorem dX3_putOn_15 : decode cX3_putOn 15 = .ok (.istore 6, 2) := by decide +kernel
theorem dX3_putOn_17 : decode cX3_putOn 17 = .ok (.aload_n 0, 1) := by decide +kernel
theorem dX3_putOn_18 : decode cX3_putOn 18 = .ok (.getfield 21, 3) := by decide +kernel
theorem dX3_putOn_21 : decode cX3_putOn 21 = .ok (.iload 6, 2) := by decide +kernel
theorem dX3_putOn_23 : decode cX3_putOn 23 = .ok (.iload_n 1, 1) := by decide +kernel
theorem dX3_putOn_24 : decode cX3_putOn 24 = .ok (.iastore, 1) := by decide +kernel
theorem dX3_putOn_25 : decode cX3_putOn 25 = .ok (.aload_n 0, 1) := by decide +kernel
theorem dX3_putOn_26 : decode cX3_putOn 26 = .ok (.getfield 25, 3) := by decide +kernel
theorem dX3_putOn_29 : decode cX3_putOn 29 = .ok (.iload 6, 2) := by decide +kernel
theorem dX3_putOn_31 : decode cX3_putOn 31 = .ok (.iload_n 2, 1) := by decide +kernel
theorem dX3_putOn_32 : decode cX3_putOn 32 = .ok (.iastore, 1) := by decide +kernel
theorem dX3_putOn_33 : decode cX3_putOn 33 = .ok (.aload_n 0, 1) := by decide +kernel
theorem dX3_putOn_34 : decode cX3_putOn 34 = .ok (.getfield 28, 3) := by decide +kernel
theorem dX3_putOn_37 : decode cX3_putOn 37 = .ok (.iload 6, 2) := by decide +kernel
theorem dX3_putOn_39 : decode cX3_putOn 39 = .ok (.iload_n 3, 1) := by decide +kernel
theorem dX3_putOn_40 : decode cX3_putOn 40 = .ok (.iastore, 1) := by decide +kernel
theorem dX3_putOn_41 : decode cX3_putOn 41 = .ok (.aload_n 0, 1) := by decide +kernel
theorem dX3_putOn_42 : decode cX3_putOn 42 = .ok (.getfield 31, 3) := by decide +kernel
theorem dX3_putOn_45 : decode cX3_putOn 45 = .ok (.iload 6, 2) := by decide +kernel
theorem dX3_putOn_47 : decode cX3_putOn 47 = .ok (.iload 4, 2) := by decide +kernel
theorem dX3_putOn_49 : decode cX3_putOn 49 = .ok (.iastore, 1) := by decide +kernel
theorem dX3_putOn_50 : decode cX3_putOn 50 = .ok (.aload_n 0, 1) := by decide +kernel
theorem dX3_putOn_51 : decode cX3_putOn 51 = .ok (.getfield 34, 3) := by decide +kernel
theorem dX3_putOn_54 : decode cX3_putOn 54 = .ok (.iload 6, 2) := by decide +kernel
theorem dX3_putOn_56 : decode cX3_putOn 56 = .ok (.iload 5, 2) := by decide +kernel
theorem dX3_putOn_58 : decode cX3_putOn 58 = .ok (.iastore, 1) := by decide +kernel
theorem dX3_putOn_59 : decode cX3_putOn 59 = .ok (.aload_n 0, 1) := by decide +kernel
theorem dX3_putOn_60 : decode cX3_putOn 60 = .ok (.dup, 1) := by decide +kernel
theorem dX3_putOn_61 : decode cX3_putOn 61 = .ok (.getfield 18, 3) := by decide +kernel
theorem dX3_putOn_64 : decode cX3_putOn 64 = .ok (.iconst 1, 1) := by decide +kernel
theorem dX3_putOn_65 : decode cX3_putOn 65 = .ok (.iadd, 1) := by decide +kernel
theorem dX3_putOn_66 : decode cX3_putOn 66 = .ok (.putfield 18, 3) := by decide +kernel
theorem dX3_putOn_69 : decode cX3_putOn 69 = .ok (.iload 6, 2) := by decide +kernel
theorem dX3_putOn_71 : decode cX3_putOn 71 = .ok (.ireturn, 1) := by decide +kernel
theorem dX3_lies_0 : decode cX3_lies 0 = .ok (.aload_n 0, 1) := by decide +kernel
theorem dX3_lies_1 : decode cX3_lies 1 = .ok (.getfield 31, 3) := by decide +kernel
theorem dX3_lies_4 : decode cX3_lies 4 = .ok (.iload_n 1, 1) := by decide +kernel
theorem dX3_lies_5 : decode cX3_lies 5 = .ok (.iaload, 1) := by decide +kernel
theorem dX3_lies_6 : decode cX3_lies 6 = .ok (.iload_n 2, 1) := by decide +kernel
theorem dX3_lies_7 : decode cX3_lies 7 = .ok (.if_icmp .eq 20, 3) := by decide +kernel
theorem dX3_lies_10 : decode cX3_lies 10 = .ok (.aload_n 0, 1) := by decide +kernel
theorem dX3_lies_11 : decode cX3_lies 11 = .ok (.getfield 37, 3) := by decide +kernel
theorem dX3_lies_14 : decode cX3_lies 14 = .ok (.iload_n 2, 1) := by decide +kernel
theorem dX3_lies_15 : decode cX3_lies 15 = .ok (.iaload, 1) := by decide +kernel
theorem dX3_lies_16 : decode cX3_lies 16 = .ok (.iload_n 1, 1) := by decide +kernel
theorem dX3_lies_17 : decode cX3_lies 17 = .ok (.ishr, 1) := by decide +kernel
theorem dX3_lies_18 : decode cX3_lies 18 = .ok (.iconst 1, 1) := by decide +kernel
theorem dX3_lies_19 : decode cX3_lies 19 = .ok (.iand, 1) := by decide +kernel
theorem dX3_lies_20 : decode cX3_lies 20 = .ok (.ifCond .ne 7, 3) := by decide +kernel
theorem dX3_lies_23 : decode cX3_lies 23 = .ok (.iconst 1, 1) := by decide +kernel
theorem dX3_lies_24 : decode cX3_lies 24 = .ok (.goto 4, 3) := by decide +kernel
theorem dX3_lies_27 : decode cX3_lies 27 = .ok (.iconst 0, 1) := by decide +kernel
theorem dX3_lies_28 : decode cX3_lies 28 = .ok (.ireturn, 1) := by decide +kernel
theorem dX3_lyingIn_0 : decode cX3_lyingIn 0 = .ok (.iconst 0, 1) := by decide +kernel
theorem dX3_lyingIn_1 : decode cX3_lyingIn 1 = .ok (.istore_n 2, 1) := by decide +kernel
theorem dX3_lyingIn_2 : decode cX3_lyingIn 2 = .ok (.iconst 0, 1) := by decide +kernel
theorem dX3_lyingIn_3 : decode cX3_lyingIn 3 = .ok (.istore_n 3, 1) := by decide +kernel
theorem dX3_lyingIn_4 : decode cX3_lyingIn 4 = .ok (.iload_n 3, 1) := by decide +kernel
theorem dX3_lyingIn_5 : decode cX3_lyingIn 5 = .ok (.aload_n 0, 1) := by decide +kernel
theorem dX3_lyingIn_6 : decode cX3_lyingIn 6 = .ok (.getfield 18, 3) := by decide +kernel
theorem dX3_lyingIn_9 : decode cX3_lyingIn 9 = .ok (.if_icmp .ge 24, 3) := by decide +kernel
theorem dX3_lyingIn_12 : decode cX3_lyingIn 12 = .ok (.aload_n 0, 1) := by decide +kernel
theorem dX3_lyingIn_13 : decode cX3_lyingIn 13 = .ok (.iload_n 3, 1) := by decide +kernel
theorem dX3_lyingIn_14 : decode cX3_lyingIn 14 = .ok (.iload_n 1, 1) := by decide +kernel
theorem dX3_lyingIn_15 : decode cX3_lyingIn 15 = .ok (.invokevirtual 50, 3) := by decide +kernel
theorem dX3_lyingIn_18 : decode cX3_lyingIn 18 = .ok (.ifCond .eq 9, 3) := by decide +kernel
theorem dX3_lyingIn_21 : decode cX3_lyingIn 21 = .ok (.iload_n 2, 1) := by decide +kernel
theorem dX3_lyingIn_22 : decode cX3_lyingIn 22 = .ok (.iconst 1, 1) := by decide +kernel
theorem dX3_lyingIn_23 : decode cX3_lyingIn 23 = .ok (.iload_n 3, 1) := by decide +kernel
theorem dX3_lyingIn_24 : decode cX3_lyingIn 24 = .ok (.ishl, 1) := by decide +kernel
theorem dX3_lyingIn_25 : decode cX3_lyingIn 25 = .ok (.ior, 1) := by decide +kernel
theorem dX3_lyingIn_26 : decode cX3_lyingIn 26 = .ok (.istore_n 2, 1) := by decide +kernel
theorem dX3_lyingIn_27 : decode cX3_lyingIn 27 = .ok (.iinc 3 1, 3) := by decide +kernel
theorem dX3_lyingIn_30 : decode cX3_lyingIn 30 = .ok (.goto (-26), 3) := by decide +kernel
theorem dX3_lyingIn_33 : decode cX3_lyingIn 33 = .ok (.iload_n 2, 1) := by decide +kernel
theorem dX3_lyingIn_34 : decode cX3_lyingIn 34 = .ok (.ireturn, 1) := by decide +kernel
theorem dX3_cellsOf_0 : decode cX3_cellsOf 0 = .ok (.iconst 0, 1) := by decide +kernel
theorem dX3_cellsOf_1 : decode cX3_cellsOf 1 = .ok (.istore_n 2, 1) := by decide +kernel
theorem dX3_cellsOf_2 : decode cX3_cellsOf 2 = .ok (.iconst 0, 1) := by decide +kernel
theorem dX3_cellsOf_3 : decode cX3_cellsOf 3 = .ok (.istore_n 3, 1) := by decide +kernel
theorem dX3_cellsOf_4 : decode cX3_cellsOf 4 = .ok (.iload_n 3, 1) := by decide +kernel
theorem dX3_cellsOf_5 : decode cX3_cellsOf 5 = .ok (.bipush 12, 2) := by decide +kernel
theorem dX3_cellsOf_7 : decode cX3_cellsOf 7 = .ok (.if_icmp .ge 24, 3) := by decide +kernel
theorem dX3_cellsOf_10 : decode cX3_cellsOf 10 = .ok (.aload_n 0, 1) := by decide +kernel
theorem dX3_cellsOf_11 : decode cX3_cellsOf 11 = .ok (.iload_n 1, 1) := by decide +kernel
theorem dX3_cellsOf_12 : decode cX3_cellsOf 12 = .ok (.iload_n 3, 1) := by decide +kernel
theorem dX3_cellsOf_13 : decode cX3_cellsOf 13 = .ok (.invokevirtual 50, 3) := by decide +kernel
theorem dX3_cellsOf_16 : decode cX3_cellsOf 16 = .ok (.ifCond .eq 9, 3) := by decide +kernel
theorem dX3_cellsOf_19 : decode cX3_cellsOf 19 = .ok (.iload_n 2, 1) := by decide +kernel
theorem dX3_cellsOf_20 : decode cX3_cellsOf 20 = .ok (.iconst 1, 1) := by decide +kernel
theorem dX3_cellsOf_21 : decode cX3_cellsOf 21 = .ok (.iload_n 3, 1) := by decide +kernel
theorem dX3_cellsOf_22 : decode cX3_cellsOf 22 = .ok (.ishl, 1) := by decide +kernel
theorem dX3_cellsOf_23 : decode cX3_cellsOf 23 = .ok (.ior, 1) := by decide +kernel
theorem dX3_cellsOf_24 : decode cX3_cellsOf 24 = .ok (.istore_n 2, 1) := by decide +kernel
theorem dX3_cellsOf_25 : decode cX3_cellsOf 25 = .ok (.iinc 3 1, 3) := by decide +kernel
theorem dX3_cellsOf_28 : decode cX3_cellsOf 28 = .ok (.goto (-24), 3) := by decide +kernel
theorem dX3_cellsOf_31 : decode cX3_cellsOf 31 = .ok (.iload_n 2, 1) := by decide +kernel
theorem dX3_cellsOf_32 : decode cX3_cellsOf 32 = .ok (.ireturn, 1) := by decide +kernel
theorem dX3_depthFrom_0 : decode cX3_depthFrom 0 = .ok (.iconst 0, 1) := by decide +kernel
theorem dX3_depthFrom_1 : decode cX3_depthFrom 1 = .ok (.istore_n 3, 1) := by decide +kernel
theorem dX3_depthFrom_2 : decode cX3_depthFrom 2 = .ok (.iload_n 1, 1) := by decide +kernel
theorem dX3_depthFrom_3 : decode cX3_depthFrom 3 = .ok (.istore 4, 2) := by decide +kernel
theorem dX3_depthFrom_5 : decode cX3_depthFrom 5 = .ok (.iload 4, 2) := by decide +kernel
theorem dX3_depthFrom_7 : decode cX3_depthFrom 7 = .ok (.aload_n 0, 1) := by decide +kernel
theorem dX3_depthFrom_8 : decode cX3_depthFrom 8 = .ok (.getfield 18, 3) := by decide +kernel
theorem dX3_depthFrom_11 : decode cX3_depthFrom 11 = .ok (.if_icmp .ge 29, 3) := by decide +kernel
theorem dX3_depthFrom_14 : decode cX3_depthFrom 14 = .ok (.aload_n 0, 1) := by decide +kernel
theorem dX3_depthFrom_15 : decode cX3_depthFrom 15 = .ok (.iload 4, 2) := by decide +kernel
theorem dX3_depthFrom_17 : decode cX3_depthFrom 17 = .ok (.iload_n 2, 1) := by decide +kernel
theorem dX3_depthFrom_18 : decode cX3_depthFrom 18 = .ok (.invokevirtual 50, 3) := by decide +kernel
theorem dX3_depthFrom_21 : decode cX3_depthFrom 21 = .ok (.ifCond .eq 13, 3) := by decide +kernel
theorem dX3_depthFrom_24 : decode cX3_depthFrom 24 = .ok (.iload_n 3, 1) := by decide +kernel
theorem dX3_depthFrom_25 : decode cX3_depthFrom 25 = .ok (.aload_n 0, 1) := by decide +kernel
theorem dX3_depthFrom_26 : decode cX3_depthFrom 26 = .ok (.getfield 28, 3) := by decide +kernel
theorem dX3_depthFrom_29 : decode cX3_depthFrom 29 = .ok (.iload 4, 2) := by decide +kernel
theorem dX3_depthFrom_31 : decode cX3_depthFrom 31 = .ok (.iaload, 1) := by decide +kernel
theorem dX3_depthFrom_32 : decode cX3_depthFrom 32 = .ok (.iadd, 1) := by decide +kernel
theorem dX3_depthFrom_33 : decode cX3_depthFrom 33 = .ok (.istore_n 3, 1) := by decide +kernel
theorem dX3_depthFrom_34 : decode cX3_depthFrom 34 = .ok (.iinc 4 1, 3) := by decide +kernel
theorem dX3_depthFrom_37 : decode cX3_depthFrom 37 = .ok (.goto (-32), 3) := by decide +kernel
theorem dX3_depthFrom_40 : decode cX3_depthFrom 40 = .ok (.iload_n 3, 1) := by decide +kernel
theorem dX3_depthFrom_41 : decode cX3_depthFrom 41 = .ok (.ireturn, 1) := by decide +kernel
theorem dX3_depth_0 : decode cX3_depth 0 = .ok (.aload_n 0, 1) := by decide +kernel
theorem dX3_depth_1 : decode cX3_depth 1 = .ok (.iconst 0, 1) := by decide +kernel
theorem dX3_depth_2 : decode cX3_depth 2 = .ok (.iload_n 1, 1) := by decide +kernel
theorem dX3_depth_3 : decode cX3_depth 3 = .ok (.invokevirtual 54, 3) := by decide +kernel
theorem dX3_depth_6 : decode cX3_depth 6 = .ok (.ireturn, 1) := by decide +kernel
theorem dX3_greatestDepth_0 : decode cX3_greatestDepth 0 = .ok (.iconst 0, 1) := by decide +kernel
theorem dX3_greatestDepth_1 : decode cX3_greatestDepth 1 = .ok (.istore_n 1, 1) := by decide +kernel
theorem dX3_greatestDepth_2 : decode cX3_greatestDepth 2 = .ok (.iconst 0, 1) := by decide +kernel
theorem dX3_greatestDepth_3 : decode cX3_greatestDepth 3 = .ok (.istore_n 2, 1) := by decide +kernel
theorem dX3_greatestDepth_4 : decode cX3_greatestDepth 4 = .ok (.iload_n 2, 1) := by decide +kernel
theorem dX3_greatestDepth_5 : decode cX3_greatestDepth 5 = .ok (.bipush 12, 2) := by decide +kernel
theorem dX3_greatestDepth_7 : decode cX3_greatestDepth 7 = .ok (.if_icmp .ge 19, 3) := by decide +kernel
theorem dX3_greatestDepth_10 : decode cX3_greatestDepth 10 = .ok (.iload_n 1, 1) := by decide +kernel
theorem dX3_greatestDepth_11 : decode cX3_greatestDepth 11 = .ok (.aload_n 0, 1) := by decide +kernel
theorem dX3_greatestDepth_12 : decode cX3_greatestDepth 12 = .ok (.iload_n 2, 1) := by decide +kernel
theorem dX3_greatestDepth_13 : decode cX3_greatestDepth 13 = .ok (.invokevirtual 58, 3) := by decide +kernel
theorem dX3_greatestDepth_16 : decode cX3_greatestDepth 16 = .ok (.invokestatic 62, 3) := by decide +kernel
theorem dX3_greatestDepth_19 : decode cX3_greatestDepth 19 = .ok (.istore_n 1, 1) := by decide +kernel
theorem dX3_greatestDepth_20 : decode cX3_greatestDepth 20 = .ok (.iinc 2 1, 3) := by decide +kernel
theorem dX3_greatestDepth_23 : decode cX3_greatestDepth 23 = .ok (.goto (-19), 3) := by decide +kernel
theorem dX3_greatestDepth_26 : decode cX3_greatestDepth 26 = .ok (.iload_n 1, 1) := by decide +kernel
theorem dX3_greatestDepth_27 : decode cX3_greatestDepth 27 = .ok (.ireturn, 1) := by decide +kernel
theorem dX3_wholeSkin_0 : decode cX3_wholeSkin 0 = .ok (.iconst 0, 1) := by decide +kernel
theorem dX3_wholeSkin_1 : decode cX3_wholeSkin 1 = .ok (.istore_n 1, 1) := by decide +kernel
theorem dX3_wholeSkin_2 : decode cX3_wholeSkin 2 = .ok (.iconst 0, 1) := by decide +kernel
theorem dX3_wholeSkin_3 : decode cX3_wholeSkin 3 = .ok (.istore_n 2, 1) := by decide +kernel
theorem dX3_wholeSkin_4 : decode cX3_wholeSkin 4 = .ok (.iload_n 2, 1) := by decide +kernel
theorem dX3_wholeSkin_5 : decode cX3_wholeSkin 5 = .ok (.bipush 12, 2) := by decide +kernel
theorem dX3_wholeSkin_7 : decode cX3_wholeSkin 7 = .ok (.if_icmp .ge 17, 3) := by decide +kernel
theorem dX3_wholeSkin_10 : decode cX3_wholeSkin 10 = .ok (.iload_n 1, 1) := by decide +kernel
theorem dX3_wholeSkin_11 : decode cX3_wholeSkin 11 = .ok (.aload_n 0, 1) := by decide +kernel
theorem dX3_wholeSkin_12 : decode cX3_wholeSkin 12 = .ok (.iload_n 2, 1) := by decide +kernel
theorem dX3_wholeSkin_13 : decode cX3_wholeSkin 13 = .ok (.invokevirtual 58, 3) := by decide +kernel
theorem dX3_wholeSkin_16 : decode cX3_wholeSkin 16 = .ok (.iadd, 1) := by decide +kernel
theorem dX3_wholeSkin_17 : decode cX3_wholeSkin 17 = .ok (.istore_n 1, 1) := by decide +kernel
theorem dX3_wholeSkin_18 : decode cX3_wholeSkin 18 = .ok (.iinc 2 1, 3) := by decide +kernel
theorem dX3_wholeSkin_21 : decode cX3_wholeSkin 21 = .ok (.goto (-17), 3) := by decide +kernel
theorem dX3_wholeSkin_24 : decode cX3_wholeSkin 24 = .ok (.iload_n 1, 1) := by decide +kernel
theorem dX3_wholeSkin_25 : decode cX3_wholeSkin 25 = .ok (.ireturn, 1) := by decide +kernel
theorem dX3_lived_0 : decode cX3_lived 0 = .ok (.iconst 0, 1) := by decide +kernel
theorem dX3_lived_1 : decode cX3_lived 1 = .ok (.istore_n 1, 1) := by decide +kernel
theorem dX3_lived_2 : decode cX3_lived 2 = .ok (.iconst 0, 1) := by decide +kernel
theorem dX3_lived_3 : decode cX3_lived 3 = .ok (.istore_n 2, 1) := by decide +kernel
theorem dX3_lived_4 : decode cX3_lived 4 = .ok (.iload_n 2, 1) := by decide +kernel
theorem dX3_lived_5 : decode cX3_lived 5 = .ok (.aload_n 0, 1) := by decide +kernel
theorem dX3_lived_6 : decode cX3_lived 6 = .ok (.getfield 18, 3) := by decide +kernel
theorem dX3_lived_9 : decode cX3_lived 9 = .ok (.if_icmp .ge 20, 3) := by decide +kernel
theorem dX3_lived_12 : decode cX3_lived 12 = .ok (.iload_n 1, 1) := by decide +kernel
theorem dX3_lived_13 : decode cX3_lived 13 = .ok (.iconst 1, 1) := by decide +kernel
theorem dX3_lived_14 : decode cX3_lived 14 = .ok (.aload_n 0, 1) := by decide +kernel
theorem dX3_lived_15 : decode cX3_lived 15 = .ok (.getfield 21, 3) := by decide +kernel
theorem dX3_lived_18 : decode cX3_lived 18 = .ok (.iload_n 2, 1) := by decide +kernel
theorem dX3_lived_19 : decode cX3_lived 19 = .ok (.iaload, 1) := by decide +kernel
theorem dX3_lived_20 : decode cX3_lived 20 = .ok (.ishl, 1) := by decide +kernel
theorem dX3_lived_21 : decode cX3_lived 21 = .ok (.ior, 1) := by decide +kernel
theorem dX3_lived_22 : decode cX3_lived 22 = .ok (.istore_n 1, 1) := by decide +kernel
theorem dX3_lived_23 : decode cX3_lived 23 = .ok (.iinc 2 1, 3) := by decide +kernel
theorem dX3_lived_26 : decode cX3_lived 26 = .ok (.goto (-22), 3) := by decide +kernel
theorem dX3_lived_29 : decode cX3_lived 29 = .ok (.iload_n 1, 1) := by decide +kernel
theorem dX3_lived_30 : decode cX3_lived 30 = .ok (.ireturn, 1) := by decide +kernel
theorem dX3_coatsOf_0 : decode cX3_coatsOf 0 = .ok (.iconst 0, 1) := by decide +kernel
theorem dX3_coatsOf_1 : decode cX3_coatsOf 1 = .ok (.istore_n 2, 1) := by decide +kernel
theorem dX3_coatsOf_2 : decode cX3_coatsOf 2 = .ok (.iconst 0, 1) := by decide +kernel
theorem dX3_coatsOf_3 : decode cX3_coatsOf 3 = .ok (.istore_n 3, 1) := by decide +kernel
theorem dX3_coatsOf_4 : decode cX3_coatsOf 4 = .ok (.iload_n 3, 1) := by decide +kernel
theorem dX3_coatsOf_5 : decode cX3_coatsOf 5 = .ok (.aload_n 0, 1) := by decide +kernel
theorem dX3_coatsOf_6 : decode cX3_coatsOf 6 = .ok (.getfield 18, 3) := by decide +kernel
theorem dX3_coatsOf_9 : decode cX3_coatsOf 9 = .ok (.if_icmp .ge 22, 3) := by decide +kernel
theorem dX3_coatsOf_12 : decode cX3_coatsOf 12 = .ok (.aload_n 0, 1) := by decide +kernel
theorem dX3_coatsOf_13 : decode cX3_coatsOf 13 = .ok (.getfield 21, 3) := by decide +kernel
theorem dX3_coatsOf_16 : decode cX3_coatsOf 16 = .ok (.iload_n 3, 1) := by decide +kernel
theorem dX3_coatsOf_17 : decode cX3_coatsOf 17 = .ok (.iaload, 1) := by decide +kernel
theorem dX3_coatsOf_18 : decode cX3_coatsOf 18 = .ok (.iload_n 1, 1) := by decide +kernel
theorem dX3_coatsOf_19 : decode cX3_coatsOf 19 = .ok (.if_icmp .ne 6, 3) := by decide +kernel
theorem dX3_coatsOf_22 : decode cX3_coatsOf 22 = .ok (.iinc 2 1, 3) := by decide +kernel
theorem dX3_coatsOf_25 : decode cX3_coatsOf 25 = .ok (.iinc 3 1, 3) := by decide +kernel
theorem dX3_coatsOf_28 : decode cX3_coatsOf 28 = .ok (.goto (-24), 3) := by decide +kernel
theorem dX3_coatsOf_31 : decode cX3_coatsOf 31 = .ok (.iload_n 2, 1) := by decide +kernel
theorem dX3_coatsOf_32 : decode cX3_coatsOf 32 = .ok (.ireturn, 1) := by decide +kernel
theorem dX3_wetness_0 : decode cX3_wetness 0 = .ok (.aload_n 0, 1) := by decide +kernel
theorem dX3_wetness_1 : decode cX3_wetness 1 = .ok (.getfield 40, 3) := by decide +kernel
theorem dX3_wetness_4 : decode cX3_wetness 4 = .ok (.aload_n 0, 1) := by decide +kernel
theorem dX3_wetness_5 : decode cX3_wetness 5 = .ok (.getfield 15, 3) := by decide +kernel
theorem dX3_wetness_8 : decode cX3_wetness 8 = .ok (.iload_n 1, 1) := by decide +kernel
theorem dX3_wetness_9 : decode cX3_wetness 9 = .ok (.iload_n 2, 1) := by decide +kernel
theorem dX3_wetness_10 : decode cX3_wetness 10 = .ok (.invokevirtual 67, 3) := by decide +kernel
theorem dX3_wetness_13 : decode cX3_wetness 13 = .ok (.ireturn, 1) := by decide +kernel
theorem dX3_hardness_0 : decode cX3_hardness 0 = .ok (.aload_n 0, 1) := by decide +kernel
theorem dX3_hardness_1 : decode cX3_hardness 1 = .ok (.getfield 40, 3) := by decide +kernel
theorem dX3_hardness_4 : decode cX3_hardness 4 = .ok (.aload_n 0, 1) := by decide +kernel
theorem dX3_hardness_5 : decode cX3_hardness 5 = .ok (.getfield 15, 3) := by decide +kernel
theorem dX3_hardness_8 : decode cX3_hardness 8 = .ok (.iload_n 1, 1) := by decide +kernel
theorem dX3_hardness_9 : decode cX3_hardness 9 = .ok (.iload_n 2, 1) := by decide +kernel
theorem dX3_hardness_10 : decode cX3_hardness 10 = .ok (.invokevirtual 73, 3) := by decide +kernel
theorem dX3_hardness_13 : decode cX3_hardness 13 = .ok (.ireturn, 1) := by decide +kernel
theorem dX3_wettestBut_0 : decode cX3_wettestBut 0 = .ok (.iconst 0, 1) := by decide +kernel
theorem dX3_wettestBut_1 : decode cX3_wettestBut 1 = .ok (.istore_n 3, 1) := by decide +kernel
theorem dX3_wettestBut_2 : decode cX3_wettestBut 2 = .ok (.iconst 0, 1) := by decide +kernel
theorem dX3_wettestBut_3 : decode cX3_wettestBut 3 = .ok (.istore 4, 2) := by decide +kernel
theorem dX3_wettestBut_5 : decode cX3_wettestBut 5 = .ok (.iload 4, 2) := by decide +kernel
theorem dX3_wettestBut_7 : decode cX3_wettestBut 7 = .ok (.bipush 12, 2) := by decide +kernel
theorem dX3_wettestBut_9 : decode cX3_wettestBut 9 = .ok (.if_icmp .ge 27, 3) := by decide +kernel
theorem dX3_wettestBut_12 : decode cX3_wettestBut 12 = .ok (.iload 4, 2) := by decide +kernel
theorem dX3_wettestBut_14 : decode cX3_wettestBut 14 = .ok (.iload_n 1, 1) := by decide +kernel
theorem dX3_wettestBut_15 : decode cX3_wettestBut 15 = .ok (.if_icmp .eq 15, 3) := by decide +kernel
theorem dX3_wettestBut_18 : decode cX3_wettestBut 18 = .ok (.iload_n 3, 1) := by decide +kernel
theorem dX3_wettestBut_19 : decode cX3_wettestBut 19 = .ok (.aload_n 0, 1) := by decide +kernel
theorem dX3_wettestBut_20 : decode cX3_wettestBut 20 = .ok (.iload 4, 2) := by decide +kernel
theorem dX3_wettestBut_22 : decode cX3_wettestBut 22 = .ok (.iload_n 2, 1) := by decide +kernel
theorem dX3_wettestBut_23 : decode cX3_wettestBut 23 = .ok (.invokevirtual 76, 3) := by decide +kernel
theorem dX3_wettestBut_26 : decode cX3_wettestBut 26 = .ok (.invokestatic 62, 3) := by decide +kernel
theorem dX3_wettestBut_29 : decode cX3_wettestBut 29 = .ok (.istore_n 3, 1) := by decide +kernel
theorem dX3_wettestBut_30 : decode cX3_wettestBut 30 = .ok (.iinc 4 1, 3) := by decide +kernel
theorem dX3_wettestBut_33 : decode cX3_wettestBut 33 = .ok (.goto (-28), 3) := by decide +kernel
theorem dX3_wettestBut_36 : decode cX3_wettestBut 36 = .ok (.iload_n 3, 1) := by decide +kernel
theorem dX3_wettestBut_37 : decode cX3_wettestBut 37 = .ok (.ireturn, 1) := by decide +kernel
theorem dX3_behindHail_0 : decode cX3_behindHail 0 = .ok (.aload_n 0, 1) := by decide +kernel
theorem dX3_behindHail_1 : decode cX3_behindHail 1 = .ok (.getfield 40, 3) := by decide +kernel
theorem dX3_behindHail_4 : decode cX3_behindHail 4 = .ok (.aload_n 0, 1) := by decide +kernel
theorem dX3_behindHail_5 : decode cX3_behindHail 5 = .ok (.getfield 15, 3) := by decide +kernel
theorem dX3_behindHail_8 : decode cX3_behindHail 8 = .ok (.iload_n 1, 1) := by decide +kernel
theorem dX3_behindHail_9 : decode cX3_behindHail 9 = .ok (.iload_n 2, 1) := by decide +kernel
theorem dX3_behindHail_10 : decode cX3_behindHail 10 = .ok (.invokevirtual 73, 3) := by decide +kernel
theorem dX3_behindHail_13 : decode cX3_behindHail 13 = .ok (.istore_n 3, 1) := by decide +kernel
theorem dX3_behindHail_14 : decode cX3_behindHail 14 = .ok (.aload_n 0, 1) := by decide +kernel
theorem dX3_behindHail_15 : decode cX3_behindHail 15 = .ok (.iload_n 1, 1) := by decide +kernel
theorem dX3_behindHail_16 : decode cX3_behindHail 16 = .ok (.invokevirtual 78, 3) := by decide +kernel
theorem dX3_behindHail_19 : decode cX3_behindHail 19 = .ok (.istore 4, 2) := by decide +kernel
theorem dX3_behindHail_21 : decode cX3_behindHail 21 = .ok (.aload_n 0, 1) := by decide +kernel
theorem dX3_behindHail_22 : decode cX3_behindHail 22 = .ok (.getfield 18, 3) := by decide +kernel
theorem dX3_behindHail_25 : decode cX3_behindHail 25 = .ok (.iconst 1, 1) := by decide +kernel
theorem dX3_behindHail_26 : decode cX3_behindHail 26 = .ok (.isub, 1) := by decide +kernel
theorem dX3_behindHail_27 : decode cX3_behindHail 27 = .ok (.istore 5, 2) := by decide +kernel
theorem dX3_behindHail_29 : decode cX3_behindHail 29 = .ok (.iload 5, 2) := by decide +kernel
theorem dX3_behindHail_31 : decode cX3_behindHail 31 = .ok (.ifCond .lt 54, 3) := by decide +kernel
theorem dX3_behindHail_34 : decode cX3_behindHail 34 = .ok (.iload 4, 2) := by decide +kernel
theorem dX3_behindHail_36 : decode cX3_behindHail 36 = .ok (.iload 5, 2) := by decide +kernel
theorem dX3_behindHail_38 : decode cX3_behindHail 38 = .ok (.ishr, 1) := by decide +kernel
theorem dX3_behindHail_39 : decode cX3_behindHail 39 = .ok (.iconst 1, 1) := by decide +kernel
theorem dX3_behindHail_40 : decode cX3_behindHail 40 = .ok (.iand, 1) := by decide +kernel
theorem dX3_behindHail_41 : decode cX3_behindHail 41 = .ok (.ifCond .eq 38, 3) := by decide +kernel
theorem dX3_behindHail_44 : decode cX3_behindHail 44 = .ok (.aload_n 0, 1) := by decide +kernel
theorem dX3_behindHail_45 : decode cX3_behindHail 45 = .ok (.getfield 28, 3) := by decide +kernel
theorem dX3_behindHail_48 : decode cX3_behindHail 48 = .ok (.iload 5, 2) := by decide +kernel
theorem dX3_behindHail_50 : decode cX3_behindHail 50 = .ok (.iaload, 1) := by decide +kernel
theorem dX3_behindHail_51 : decode cX3_behindHail 51 = .ok (.iload_n 3, 1) := by decide +kernel
theorem dX3_behindHail_52 : decode cX3_behindHail 52 = .ok (.if_icmp .le 6, 3) := by decide +kernel
theorem dX3_behindHail_55 : decode cX3_behindHail 55 = .ok (.iload 4, 2) := by decide +kernel
theorem dX3_behindHail_57 : decode cX3_behindHail 57 = .ok (.ireturn, 1) := by decide +kernel
theorem dX3_behindHail_58 : decode cX3_behindHail 58 = .ok (.iload_n 3, 1) := by decide +kernel
theorem dX3_behindHail_59 : decode cX3_behindHail 59 = .ok (.aload_n 0, 1) := by decide +kernel
theorem dX3_behindHail_60 : decode cX3_behindHail 60 = .ok (.getfield 28, 3) := by decide +kernel
theorem dX3_behindHail_63 : decode cX3_behindHail 63 = .ok (.iload 5, 2) := by decide +kernel
theorem dX3_behindHail_65 : decode cX3_behindHail 65 = .ok (.iaload, 1) := by decide +kernel
theorem dX3_behindHail_66 : decode cX3_behindHail 66 = .ok (.isub, 1) := by decide +kernel
theorem dX3_behindHail_67 : decode cX3_behindHail 67 = .ok (.istore_n 3, 1) := by decide +kernel
theorem dX3_behindHail_68 : decode cX3_behindHail 68 = .ok (.iload 4, 2) := by decide +kernel
theorem dX3_behindHail_70 : decode cX3_behindHail 70 = .ok (.iconst 1, 1) := by decide +kernel
theorem dX3_behindHail_71 : decode cX3_behindHail 71 = .ok (.iload 5, 2) := by decide +kernel
theorem dX3_behindHail_73 : decode cX3_behindHail 73 = .ok (.ishl, 1) := by decide +kernel
theorem dX3_behindHail_74 : decode cX3_behindHail 74 = .ok (.iconst (-1), 1) := by decide +kernel
theorem dX3_behindHail_75 : decode cX3_behindHail 75 = .ok (.ixor, 1) := by decide +kernel
theorem dX3_behindHail_76 : decode cX3_behindHail 76 = .ok (.iand, 1) := by decide +kernel
theorem dX3_behindHail_77 : decode cX3_behindHail 77 = .ok (.istore 4, 2) := by decide +kernel
theorem dX3_behindHail_79 : decode cX3_behindHail 79 = .ok (.iinc 5 (-1), 3) := by decide +kernel
theorem dX3_behindHail_82 : decode cX3_behindHail 82 = .ok (.goto (-53), 3) := by decide +kernel
theorem dX3_behindHail_85 : decode cX3_behindHail 85 = .ok (.iload 4, 2) := by decide +kernel
theorem dX3_behindHail_87 : decode cX3_behindHail 87 = .ok (.ireturn, 1) := by decide +kernel
theorem dX3_hailInTruth_0 : decode cX3_hailInTruth 0 = .ok (.aload_n 0, 1) := by decide +kernel
theorem dX3_hailInTruth_1 : decode cX3_hailInTruth 1 = .ok (.iload_n 1, 1) := by decide +kernel
theorem dX3_hailInTruth_2 : decode cX3_hailInTruth 2 = .ok (.invokevirtual 78, 3) := by decide +kernel
theorem dX3_hailInTruth_5 : decode cX3_hailInTruth 5 = .ok (.aload_n 0, 1) := by decide +kernel
theorem dX3_hailInTruth_6 : decode cX3_hailInTruth 6 = .ok (.iload_n 1, 1) := by decide +kernel
theorem dX3_hailInTruth_7 : decode cX3_hailInTruth 7 = .ok (.iload_n 2, 1) := by decide +kernel
theorem dX3_hailInTruth_8 : decode cX3_hailInTruth 8 = .ok (.invokevirtual 81, 3) := by decide +kernel
theorem dX3_hailInTruth_11 : decode cX3_hailInTruth 11 = .ok (.iconst (-1), 1) := by decide +kernel
theorem dX3_hailInTruth_12 : decode cX3_hailInTruth 12 = .ok (.ixor, 1) := by decide +kernel
theorem dX3_hailInTruth_13 : decode cX3_hailInTruth 13 = .ok (.iand, 1) := by decide +kernel
theorem dX3_hailInTruth_14 : decode cX3_hailInTruth 14 = .ok (.istore_n 3, 1) := by decide +kernel
theorem dX3_hailInTruth_15 : decode cX3_hailInTruth 15 = .ok (.aload_n 0, 1) := by decide +kernel
theorem dX3_hailInTruth_16 : decode cX3_hailInTruth 16 = .ok (.getfield 37, 3) := by decide +kernel
theorem dX3_hailInTruth_19 : decode cX3_hailInTruth 19 = .ok (.iload_n 1, 1) := by decide +kernel
theorem dX3_hailInTruth_20 : decode cX3_hailInTruth 20 = .ok (.dup2, 1) := by decide +kernel
theorem dX3_hailInTruth_21 : decode cX3_hailInTruth 21 = .ok (.iaload, 1) := by decide +kernel
theorem dX3_hailInTruth_22 : decode cX3_hailInTruth 22 = .ok (.iload_n 3, 1) := by decide +kernel
theorem dX3_hailInTruth_23 : decode cX3_hailInTruth 23 = .ok (.ior, 1) := by decide +kernel
theorem dX3_hailInTruth_24 : decode cX3_hailInTruth 24 = .ok (.iastore, 1) := by decide +kernel
theorem dX3_hailInTruth_25 : decode cX3_hailInTruth 25 = .ok (.iload_n 3, 1) := by decide +kernel
theorem dX3_hailInTruth_26 : decode cX3_hailInTruth 26 = .ok (.invokestatic 84, 3) := by decide +kernel
theorem dX3_hailInTruth_29 : decode cX3_hailInTruth 29 = .ok (.ireturn, 1) := by decide +kernel
theorem dX3_takeUppermost_0 : decode cX3_takeUppermost 0 = .ok (.aload_n 0, 1) := by decide +kernel
theorem dX3_takeUppermost_1 : decode cX3_takeUppermost 1 = .ok (.getfield 18, 3) := by decide +kernel
theorem dX3_takeUppermost_4 : decode cX3_takeUppermost 4 = .ok (.iconst 1, 1) := by decide +kernel
theorem dX3_takeUppermost_5 : decode cX3_takeUppermost 5 = .ok (.isub, 1) := by decide +kernel
theorem dX3_takeUppermost_6 : decode cX3_takeUppermost 6 = .ok (.istore_n 2, 1) := by decide +kernel
theorem dX3_takeUppermost_7 : decode cX3_takeUppermost 7 = .ok (.iload_n 2, 1) := by decide +kernel
theorem dX3_takeUppermost_8 : decode cX3_takeUppermost 8 = .ok (.ifCond .lt 32, 3) := by decide +kernel
theorem dX3_takeUppermost_11 : decode cX3_takeUppermost 11 = .ok (.aload_n 0, 1) := by decide +kernel
theorem dX3_takeUppermost_12 : decode cX3_takeUppermost 12 = .ok (.iload_n 2, 1) := by decide +kernel
theorem dX3_takeUppermost_13 : decode cX3_takeUppermost 13 = .ok (.iload_n 1, 1) := by decide +kernel
theorem dX3_takeUppermost_14 : decode cX3_takeUppermost 14 = .ok (.invokevirtual 50, 3) := by decide +kernel
theorem dX3_takeUppermost_17 : decode cX3_takeUppermost 17 = .ok (.ifCond .eq 17, 3) := by decide +kernel
theorem dX3_takeUppermost_20 : decode cX3_takeUppermost 20 = .ok (.aload_n 0, 1) := by decide +kernel
theorem dX3_takeUppermost_21 : decode cX3_takeUppermost 21 = .ok (.getfield 37, 3) := by decide +kernel
theorem dX3_takeUppermost_24 : decode cX3_takeUppermost 24 = .ok (.iload_n 1, 1) := by decide +kernel
theorem dX3_takeUppermost_25 : decode cX3_takeUppermost 25 = .ok (.dup2, 1) := by decide +kernel
theorem dX3_takeUppermost_26 : decode cX3_takeUppermost 26 = .ok (.iaload, 1) := by decide +kernel
theorem dX3_takeUppermost_27 : decode cX3_takeUppermost 27 = .ok (.iconst 1, 1) := by decide +kernel
theorem dX3_takeUppermost_28 : decode cX3_takeUppermost 28 = .ok (.iload_n 2, 1) := by decide +kernel
theorem dX3_takeUppermost_29 : decode cX3_takeUppermost 29 = .ok (.ishl, 1) := by decide +kernel
theorem dX3_takeUppermost_30 : decode cX3_takeUppermost 30 = .ok (.ior, 1) := by decide +kernel
theorem dX3_takeUppermost_31 : decode cX3_takeUppermost 31 = .ok (.iastore, 1) := by decide +kernel
theorem dX3_takeUppermost_32 : decode cX3_takeUppermost 32 = .ok (.iload_n 2, 1) := by decide +kernel
theorem dX3_takeUppermost_33 : decode cX3_takeUppermost 33 = .ok (.ireturn, 1) := by decide +kernel
theorem dX3_takeUppermost_34 : decode cX3_takeUppermost 34 = .ok (.iinc 2 (-1), 3) := by decide +kernel
theorem dX3_takeUppermost_37 : decode cX3_takeUppermost 37 = .ok (.goto (-30), 3) := by decide +kernel
theorem dX3_takeUppermost_40 : decode cX3_takeUppermost 40 = .ok (.iconst (-1), 1) := by decide +kernel
theorem dX3_takeUppermost_41 : decode cX3_takeUppermost 41 = .ok (.ireturn, 1) := by decide +kernel
theorem dX4_init_0 : decode cX4_init 0 = .ok (.aload_n 0, 1) := by decide +kernel
theorem dX4_init_1 : decode cX4_init 1 = .ok (.invokespecial 1, 3) := by decide +kernel
theorem dX4_init_4 : decode cX4_init 4 = .ok (.return_, 1) := by decide +kernel
theorem dX4_wetness_0 : decode cX4_wetness 0 = .ok (.iload_n 3, 1) := by decide +kernel
theorem dX4_wetness_1 : decode cX4_wetness 1 = .ok (.ireturn, 1) := by decide +kernel
theorem dX4_hardness_0 : decode cX4_hardness 0 = .ok (.iload_n 3, 1) := by decide +kernel
theorem dX4_hardness_1 : decode cX4_hardness 1 = .ok (.ireturn, 1) := by decide +kernel
theorem dX4_counted_0 : decode cX4_counted 0 = .ok (.iload_n 1, 1) := by decide +kernel
theorem dX4_counted_1 : decode cX4_counted 1 = .ok (.ireturn, 1) := by decide +kernel
theorem dX4_actPaints_0 : decode cX4_actPaints 0 = .ok (.aload_n 1, 1) := by decide +kernel
theorem dX4_actPaints_1 : decode cX4_actPaints 1 = .ok (.bipush 10, 2) := by decide +kernel
theorem dX4_actPaints_3 : decode cX4_actPaints 3 = .ok (.invokevirtual 7, 3) := by decide +kernel
theorem dX4_actPaints_6 : decode cX4_actPaints 6 = .ok (.iload_n 2, 1) := by decide +kernel
theorem dX4_actPaints_7 : decode cX4_actPaints 7 = .ok (.aload_n 1, 1) := by decide +kernel
theorem dX4_actPaints_8 : decode cX4_actPaints 8 = .ok (.getfield 13, 3) := by decide +kernel
theorem dX4_actPaints_11 : decode cX4_actPaints 11 = .ok (.iadd, 1) := by decide +kernel
theorem dX4_actPaints_12 : decode cX4_actPaints 12 = .ok (.ireturn, 1) := by decide +kernel
theorem dX4_actPeels_0 : decode cX4_actPeels 0 = .ok (.aload_n 1, 1) := by decide +kernel
theorem dX4_actPeels_1 : decode cX4_actPeels 1 = .ok (.bipush 11, 2) := by decide +kernel
theorem dX4_actPeels_3 : decode cX4_actPeels 3 = .ok (.invokevirtual 7, 3) := by decide +kernel
theorem dX4_actPeels_6 : decode cX4_actPeels 6 = .ok (.aload_n 0, 1) := by decide +kernel
theorem dX4_actPeels_7 : decode cX4_actPeels 7 = .ok (.aload_n 1, 1) := by decide +kernel
theorem dX4_actPeels_8 : decode cX4_actPeels 8 = .ok (.iload_n 2, 1) := by decide +kernel
theorem dX4_actPeels_9 : decode cX4_actPeels 9 = .ok (.invokevirtual 17, 3) := by decide +kernel
theorem dX4_actPeels_12 : decode cX4_actPeels 12 = .ok (.iconst 2, 1) := by decide +kernel
theorem dX4_actPeels_13 : decode cX4_actPeels 13 = .ok (.imul, 1) := by decide +kernel
theorem dX4_actPeels_14 : decode cX4_actPeels 14 = .ok (.ireturn, 1) := by decide +kernel
theorem dX4_actFalls_0 : decode cX4_actFalls 0 = .ok (.aload_n 1, 1) := by decide +kernel
theorem dX4_actFalls_1 : decode cX4_actFalls 1 = .ok (.bipush 12, 2) := by decide +kernel
theorem dX4_actFalls_3 : decode cX4_actFalls 3 = .ok (.invokevirtual 7, 3) := by decide +kernel
theorem dX4_actFalls_6 : decode cX4_actFalls 6 = .ok (.aload_n 0, 1) := by decide +kernel
theorem dX4_actFalls_7 : decode cX4_actFalls 7 = .ok (.aload_n 1, 1) := by decide +kernel
theorem dX4_actFalls_8 : decode cX4_actFalls 8 = .ok (.iload_n 2, 1) := by decide +kernel
theorem dX4_actFalls_9 : decode cX4_actFalls 9 = .ok (.invokevirtual 23, 3) := by decide +kernel
theorem dX4_actFalls_12 : decode cX4_actFalls 12 = .ok (.aload_n 0, 1) := by decide +kernel
theorem dX4_actFalls_13 : decode cX4_actFalls 13 = .ok (.aload_n 1, 1) := by decide +kernel
theorem dX4_actFalls_14 : decode cX4_actFalls 14 = .ok (.iload_n 2, 1) := by decide +kernel
theorem dX4_actFalls_15 : decode cX4_actFalls 15 = .ok (.aload_n 1, 1) := by decide +kernel
theorem dX4_actFalls_16 : decode cX4_actFalls 16 = .ok (.getfield 26, 3) := by decide +kernel
theorem dX4_actFalls_19 : decode cX4_actFalls 19 = .ok (.isub, 1) := by decide +kernel
theorem dX4_actFalls_20 : decode cX4_actFalls 20 = .ok (.invokevirtual 17, 3) := by decide +kernel
theorem dX4_actFalls_23 : decode cX4_actFalls 23 = .ok (.ixor, 1) := by decide +kernel
theorem dX4_actFalls_24 : decode cX4_actFalls 24 = .ok (.ireturn, 1) := by decide +kernel
theorem dX5_init_0 : decode cX5_init 0 = .ok (.aload_n 0, 1) := by decide +kernel
theorem dX5_init_1 : decode cX5_init 1 = .ok (.invokespecial 1, 3) := by decide +kernel
theorem dX5_init_4 : decode cX5_init 4 = .ok (.return_, 1) := by decide +kernel
theorem dX5_hardness_0 : decode cX5_hardness 0 = .ok (.iload_n 3, 1) := by decide +kernel
theorem dX5_hardness_1 : decode cX5_hardness 1 = .ok (.iload_n 1, 1) := by decide +kernel
theorem dX5_hardness_2 : decode cX5_hardness 2 = .ok (.if_icmp .le 9, 3) := by decide +kernel
theorem dX5_hardness_5 : decode cX5_hardness 5 = .ok (.iload_n 3, 1) := by decide +kernel
theorem dX5_hardness_6 : decode cX5_hardness 6 = .ok (.iload_n 1, 1) := by decide +kernel
theorem dX5_hardness_7 : decode cX5_hardness 7 = .ok (.isub, 1) := by decide +kernel
theorem dX5_hardness_8 : decode cX5_hardness 8 = .ok (.goto 4, 3) := by decide +kernel
theorem dX5_hardness_11 : decode cX5_hardness 11 = .ok (.iconst 0, 1) := by decide +kernel
theorem dX5_hardness_12 : decode cX5_hardness 12 = .ok (.ireturn, 1) := by decide +kernel
theorem dX5_actPeels_0 : decode cX5_actPeels 0 = .ok (.aload_n 1, 1) := by decide +kernel
theorem dX5_actPeels_1 : decode cX5_actPeels 1 = .ok (.bipush 30, 2) := by decide +kernel
theorem dX5_actPeels_3 : decode cX5_actPeels 3 = .ok (.invokevirtual 7, 3) := by decide +kernel
theorem dX5_actPeels_6 : decode cX5_actPeels 6 = .ok (.aload_n 0, 1) := by decide +kernel
theorem dX5_actPeels_7 : decode cX5_actPeels 7 = .ok (.aload_n 1, 1) := by decide +kernel
theorem dX5_actPeels_8 : decode cX5_actPeels 8 = .ok (.iload_n 2, 1) := by decide +kernel
theorem dX5_actPeels_9 : decode cX5_actPeels 9 = .ok (.invokespecial 13, 3) := by decide +kernel
theorem dX5_actPeels_12 : decode cX5_actPeels 12 = .ok (.iconst 3, 1) := by decide +kernel
theorem dX5_actPeels_13 : decode cX5_actPeels 13 = .ok (.imul, 1) := by decide +kernel
theorem dX5_actPeels_14 : decode cX5_actPeels 14 = .ok (.ireturn, 1) := by decide +kernel
theorem dX6_init_0 : decode cX6_init 0 = .ok (.aload_n 0, 1) := by decide +kernel
theorem dX6_init_1 : decode cX6_init 1 = .ok (.invokespecial 3, 3) := by decide +kernel
theorem dX6_init_4 : decode cX6_init 4 = .ok (.aload_n 0, 1) := by decide +kernel
theorem dX6_init_5 : decode cX6_init 5 = .ok (.iconst 0, 1) := by decide +kernel
theorem dX6_init_6 : decode cX6_init 6 = .ok (.putfield 9, 3) := by decide +kernel
theorem dX6_init_9 : decode cX6_init 9 = .ok (.aload_n 0, 1) := by decide +kernel
theorem dX6_init_10 : decode cX6_init 10 = .ok (.iconst 0, 1) := by decide +kernel
theorem dX6_init_11 : decode cX6_init 11 = .ok (.putfield 15, 3) := by decide +kernel
theorem dX6_init_14 : decode cX6_init 14 = .ok (.aload_n 0, 1) := by decide +kernel
theorem dX6_init_15 : decode cX6_init 15 = .ok (.iconst 0, 1) := by decide +kernel
theorem dX6_init_16 : decode cX6_init 16 = .ok (.putfield 18, 3) := by decide +kernel
theorem dX6_init_19 : decode cX6_init 19 = .ok (.aload_n 0, 1) := by decide +kernel
theorem dX6_init_20 : decode cX6_init 20 = .ok (.iconst (-1), 1) := by decide +kernel
theorem dX6_init_21 : decode cX6_init 21 = .ok (.putfield 21, 3) := by decide +kernel
theorem dX6_init_24 : decode cX6_init 24 = .ok (.return_, 1) := by decide +kernel
theorem dX6_readAll_0 : decode cX6_readAll 0 = .ok (.aload_n 0, 1) := by decide +kernel
theorem dX6_readAll_1 : decode cX6_readAll 1 = .ok (.aload_n 1, 1) := by decide +kernel
theorem dX6_readAll_2 : decode cX6_readAll 2 = .ok (.putfield 24, 3) := by decide +kernel
theorem dX6_readAll_5 : decode cX6_readAll 5 = .ok (.aload_n 0, 1) := by decide +kernel
theorem dX6_readAll_6 : decode cX6_readAll 6 = .ok (.aload_n 2, 1) := by decide +kernel
theorem dX6_readAll_7 : decode cX6_readAll 7 = .ok (.putfield 28, 3) := by decide +kernel
theorem dX6_readAll_10 : decode cX6_readAll 10 = .ok (.aload_n 0, 1) := by decide +kernel
theorem dX6_readAll_11 : decode cX6_readAll 11 = .ok (.iload_n 3, 1) := by decide +kernel
theorem dX6_readAll_12 : decode cX6_readAll 12 = .ok (.putfield 9, 3) := by decide +kernel
theorem dX6_readAll_15 : decode cX6_readAll 15 = .ok (.aload_n 0, 1) := by decide +kernel
theorem dX6_readAll_16 : decode cX6_readAll 16 = .ok (.iconst 0, 1) := by decide +kernel
theorem dX6_readAll_17 : decode cX6_readAll 17 = .ok (.putfield 15, 3) := by decide +kernel
theorem dX6_readAll_20 : decode cX6_readAll 20 = .ok (.aload_n 0, 1) := by decide +kernel
theorem dX6_readAll_21 : decode cX6_readAll 21 = .ok (.iconst (-1), 1) := by decide +kernel
theorem dX6_readAll_22 : decode cX6_readAll 22 = .ok (.putfield 21, 3) := by decide +kernel
theorem dX6_readAll_25 : decode cX6_readAll 25 = .ok (.iconst 0, 1) := by decide +kernel
theorem dX6_readAll_26 : decode cX6_readAll 26 = .ok (.istore 4, 2) := by decide +kernel
theorem dX6_readAll_28 : decode cX6_readAll 28 = .ok (.iconst 1, 1) := by decide +kernel
theorem dX6_readAll_29 : decode cX6_readAll 29 = .ok (.istore 5, 2) := by decide +kernel
theorem dX6_readAll_31 : decode cX6_readAll 31 = .ok (.iload 5, 2) := by decide +kernel
theorem dX6_readAll_33 : decode cX6_readAll 33 = .ok (.ifCond .eq 57, 3) := by decide +kernel
theorem dX6_readAll_36 : decode cX6_readAll 36 = .ok (.iload 4, 2) := by decide +kernel
theorem dX6_readAll_38 : decode cX6_readAll 38 = .ok (.aload_n 0, 1) := by decide +kernel
theorem dX6_readAll_39 : decode cX6_readAll 39 = .ok (.getfield 9, 3) := by decide +kernel
theorem dX6_readAll_42 : decode cX6_readAll 42 = .ok (.if_icmp .gt 48, 3) := by decide +kernel
theorem dX6_readAll_45 : decode cX6_readAll 45 = .ok (.aload_n 0, 1) := by decide +kernel
theorem dX6_readAll_46 : decode cX6_readAll 46 = .ok (.invokevirtual 32, 3) := by decide +kernel
theorem dX6_readAll_49 : decode cX6_readAll 49 = .ok (.iinc 4 1, 3) := by decide +kernel
theorem dX6_readAll_52 : decode cX6_readAll 52 = .ok (.aload_n 0, 1) := by decide +kernel
theorem dX6_readAll_53 : decode cX6_readAll 53 = .ok (.getfield 21, 3) := by decide +kernel
theorem dX6_readAll_56 : decode cX6_readAll 56 = .ok (.iconst (-1), 1) := by decide +kernel
theorem dX6_readAll_57 : decode cX6_readAll 57 = .ok (.if_icmp .ne 27, 3) := by decide +kernel
theorem dX6_readAll_60 : decode cX6_readAll 60 = .ok (.aload_n 0, 1) := by decide +kernel
theorem dX6_readAll_61 : decode cX6_readAll 61 = .ok (.getfield 15, 3) := by decide +kernel
theorem dX6_readAll_64 : decode cX6_readAll 64 = .ok (.aload_n 0, 1) := by decide +kernel
theorem dX6_readAll_65 : decode cX6_readAll 65 = .ok (.getfield 9, 3) := by decide +kernel
theorem dX6_readAll_68 : decode cX6_readAll 68 = .ok (.if_icmp .ge 16, 3) := by decide +kernel
theorem dX6_readAll_71 : decode cX6_readAll 71 = .ok (.aload_n 0, 1) := by decide +kernel
theorem dX6_readAll_72 : decode cX6_readAll 72 = .ok (.bipush 59, 2) := by decide +kernel
theorem dX6_readAll_74 : decode cX6_readAll 74 = .ok (.invokevirtual 35, 3) := by decide +kernel
theorem dX6_readAll_77 : decode cX6_readAll 77 = .ok (.ifCond .eq 7, 3) := by decide +kernel
theorem dX6_readAll_80 : decode cX6_readAll 80 = .ok (.iconst 1, 1) := by decide +kernel
theorem dX6_readAll_81 : decode cX6_readAll 81 = .ok (.goto 4, 3) := by decide +kernel
theorem dX6_readAll_84 : decode cX6_readAll 84 = .ok (.iconst 0, 1) := by decide +kernel
theorem dX6_readAll_85 : decode cX6_readAll 85 = .ok (.istore 5, 2) := by decide +kernel
theorem dX6_readAll_87 : decode cX6_readAll 87 = .ok (.goto (-56), 3) := by decide +kernel
theorem dX6_readAll_90 : decode cX6_readAll 90 = .ok (.iload 4, 2) := by decide +kernel
theorem dX6_readAll_92 : decode cX6_readAll 92 = .ok (.ireturn, 1) := by decide +kernel
theorem dX6_readItem_0 : decode cX6_readItem 0 = .ok (.aload_n 0, 1) := by decide +kernel
theorem dX6_readItem_1 : decode cX6_readItem 1 = .ok (.getfield 15, 3) := by decide +kernel
theorem dX6_readItem_4 : decode cX6_readItem 4 = .ok (.istore_n 1, 1) := by decide +kernel
theorem dX6_readItem_5 : decode cX6_readItem 5 = .ok (.aload_n 0, 1) := by decide +kernel
theorem dX6_readItem_6 : decode cX6_readItem 6 = .ok (.invokevirtual 39, 3) := by decide +kernel
theorem dX6_readItem_9 : decode cX6_readItem 9 = .ok (.tableswitch 121 0 5 #[39, 47, 54, 70, 86, 114], 39) := by decide +kernel
theorem dX6_readItem_48 : decode cX6_readItem 48 = .ok (.aload_n 0, 1) := by decide +kernel
theorem dX6_readItem_49 : decode cX6_readItem 49 = .ok (.iload_n 1, 1) := by decide +kernel
theorem dX6_readItem_50 : decode cX6_readItem 50 = .ok (.invokevirtual 43, 3) := by decide +kernel
theorem dX6_readItem_53 : decode cX6_readItem 53 = .ok (.goto 77, 3) := by decide +kernel
theorem dX6_readItem_56 : decode cX6_readItem 56 = .ok (.aload_n 0, 1) := by decide +kernel
theorem dX6_readItem_57 : decode cX6_readItem 57 = .ok (.invokevirtual 47, 3) := by decide +kernel
theorem dX6_readItem_60 : decode cX6_readItem 60 = .ok (.goto 70, 3) := by decide +kernel
theorem dX6_readItem_63 : decode cX6_readItem 63 = .ok (.aload_n 0, 1) := by decide +kernel
theorem dX6_readItem_64 : decode cX6_readItem 64 = .ok (.aload_n 0, 1) := by decide +kernel
theorem dX6_readItem_65 : decode cX6_readItem 65 = .ok (.getfield 24, 3) := by decide +kernel
theorem dX6_readItem_68 : decode cX6_readItem 68 = .ok (.getfield 50, 3) := by decide +kernel
theorem dX6_readItem_71 : decode cX6_readItem 71 = .ok (.bipush 9, 2) := by decide +kernel
theorem dX6_readItem_73 : decode cX6_readItem 73 = .ok (.invokevirtual 56, 3) := by decide +kernel
theorem dX6_readItem_76 : decode cX6_readItem 76 = .ok (.goto 54, 3) := by decide +kernel
theorem dX6_readItem_79 : decode cX6_readItem 79 = .ok (.aload_n 0, 1) := by decide +kernel
theorem dX6_readItem_80 : decode cX6_readItem 80 = .ok (.aload_n 0, 1) := by decide +kernel
theorem dX6_readItem_81 : decode cX6_readItem 81 = .ok (.getfield 24, 3) := by decide +kernel
theorem dX6_readItem_84 : decode cX6_readItem 84 = .ok (.getfield 60, 3) := by decide +kernel
theorem dX6_readItem_87 : decode cX6_readItem 87 = .ok (.bipush 99, 2) := by decide +kernel
theorem dX6_readItem_89 : decode cX6_readItem 89 = .ok (.invokevirtual 56, 3) := by decide +kernel
theorem dX6_readItem_92 : decode cX6_readItem 92 = .ok (.goto 38, 3) := by decide +kernel
theorem dX6_readItem_95 : decode cX6_readItem 95 = .ok (.aload_n 0, 1) := by decide +kernel
theorem dX6_readItem_96 : decode cX6_readItem 96 = .ok (.iconst 0, 1) := by decide +kernel
theorem dX6_readItem_97 : decode cX6_readItem 97 = .ok (.bipush 99, 2) := by decide +kernel
theorem dX6_readItem_99 : decode cX6_readItem 99 = .ok (.invokevirtual 63, 3) := by decide +kernel
theorem dX6_readItem_102 : decode cX6_readItem 102 = .ok (.istore_n 2, 1) := by decide +kernel
theorem dX6_readItem_103 : decode cX6_readItem 103 = .ok (.aload_n 0, 1) := by decide +kernel
theorem dX6_readItem_104 : decode cX6_readItem 104 = .ok (.getfield 21, 3) := by decide +kernel
theorem dX6_readItem_107 : decode cX6_readItem 107 = .ok (.iconst (-1), 1) := by decide +kernel
theorem dX6_readItem_108 : decode cX6_readItem 108 = .ok (.if_icmp .ne 22, 3) := by decide +kernel
theorem dX6_readItem_111 : decode cX6_readItem 111 = .ok (.aload_n 0, 1) := by decide +kernel
theorem dX6_readItem_112 : decode cX6_readItem 112 = .ok (.getfield 24, 3) := by decide +kernel
theorem dX6_readItem_115 : decode cX6_readItem 115 = .ok (.iload_n 2, 1) := by decide +kernel
theorem dX6_readItem_116 : decode cX6_readItem 116 = .ok (.invokevirtual 67, 3) := by decide +kernel
theorem dX6_readItem_119 : decode cX6_readItem 119 = .ok (.pop, 1) := by decide +kernel
theorem dX6_readItem_120 : decode cX6_readItem 120 = .ok (.goto 10, 3) := by decide +kernel
theorem dX6_readItem_123 : decode cX6_readItem 123 = .ok (.aload_n 0, 1) := by decide +kernel
theorem dX6_readItem_124 : decode cX6_readItem 124 = .ok (.invokevirtual 71, 3) := by decide +kernel
theorem dX6_readItem_127 : decode cX6_readItem 127 = .ok (.goto 3, 3) := by decide +kernel
theorem dX6_readItem_130 : decode cX6_readItem 130 = .ok (.return_, 1) := by decide +kernel
theorem dX6_word_0 : decode cX6_word 0 = .ok (.iload_n 0, 1) := by decide +kernel
theorem dX6_word_1 : decode cX6_word 1 = .ok (.tableswitch 50 0 4 #[35, 38, 41, 44, 47], 35) := by decide +kernel
theorem dX6_word_36 : decode cX6_word 36 = .ok (.ldc 74, 2) := by decide +kernel
theorem dX6_word_38 : decode cX6_word 38 = .ok (.areturn, 1) := by decide +kernel
theorem dX6_word_39 : decode cX6_word 39 = .ok (.ldc 76, 2) := by decide +kernel
theorem dX6_word_41 : decode cX6_word 41 = .ok (.areturn, 1) := by decide +kernel
theorem dX6_word_42 : decode cX6_word 42 = .ok (.ldc 78, 2) := by decide +kernel
theorem dX6_word_44 : decode cX6_word 44 = .ok (.areturn, 1) := by decide +kernel
theorem dX6_word_45 : decode cX6_word 45 = .ok (.ldc 79, 2) := by decide +kernel
theorem dX6_word_47 : decode cX6_word 47 = .ok (.areturn, 1) := by decide +kernel
theorem dX6_word_48 : decode cX6_word 48 = .ok (.ldc 80, 2) := by decide +kernel
theorem dX6_word_50 : decode cX6_word 50 = .ok (.areturn, 1) := by decide +kernel
theorem dX6_word_51 : decode cX6_word 51 = .ok (.ldc 82, 2) := by decide +kernel
theorem dX6_word_53 : decode cX6_word 53 = .ok (.areturn, 1) := by decide +kernel
theorem dX6_readWord_0 : decode cX6_readWord 0 = .ok (.iconst 0, 1) := by decide +kernel
theorem dX6_readWord_1 : decode cX6_readWord 1 = .ok (.istore_n 1, 1) := by decide +kernel
theorem dX6_readWord_2 : decode cX6_readWord 2 = .ok (.iconst 0, 1) := by decide +kernel
theorem dX6_readWord_3 : decode cX6_readWord 3 = .ok (.istore_n 2, 1) := by decide +kernel
theorem dX6_readWord_4 : decode cX6_readWord 4 = .ok (.iload_n 2, 1) := by decide +kernel
theorem dX6_readWord_5 : decode cX6_readWord 5 = .ok (.bipush 6, 2) := by decide +kernel
theorem dX6_readWord_7 : decode cX6_readWord 7 = .ok (.if_icmp .ge 47, 3) := by decide +kernel
theorem dX6_readWord_10 : decode cX6_readWord 10 = .ok (.aload_n 0, 1) := by decide +kernel
theorem dX6_readWord_11 : decode cX6_readWord 11 = .ok (.iload_n 2, 1) := by decide +kernel
theorem dX6_readWord_12 : decode cX6_readWord 12 = .ok (.invokestatic 84, 3) := by decide +kernel
theorem dX6_readWord_15 : decode cX6_readWord 15 = .ok (.invokevirtual 88, 3) := by decide +kernel
theorem dX6_readWord_18 : decode cX6_readWord 18 = .ok (.istore_n 3, 1) := by decide +kernel
theorem dX6_readWord_19 : decode cX6_readWord 19 = .ok (.iload_n 3, 1) := by decide +kernel
theorem dX6_readWord_20 : decode cX6_readWord 20 = .ok (.iload_n 2, 1) := by decide +kernel
theorem dX6_readWord_21 : decode cX6_readWord 21 = .ok (.invokestatic 84, 3) := by decide +kernel
theorem dX6_readWord_24 : decode cX6_readWord 24 = .ok (.invokevirtual 92, 3) := by decide +kernel
theorem dX6_readWord_27 : decode cX6_readWord 27 = .ok (.if_icmp .ne 15, 3) := by decide +kernel
theorem dX6_readWord_30 : decode cX6_readWord 30 = .ok (.aload_n 0, 1) := by decide +kernel
theorem dX6_readWord_31 : decode cX6_readWord 31 = .ok (.dup, 1) := by decide +kernel
theorem dX6_readWord_32 : decode cX6_readWord 32 = .ok (.getfield 15, 3) := by decide +kernel
theorem dX6_readWord_35 : decode cX6_readWord 35 = .ok (.iload_n 3, 1) := by decide +kernel
theorem dX6_readWord_36 : decode cX6_readWord 36 = .ok (.iadd, 1) := by decide +kernel
theorem dX6_readWord_37 : decode cX6_readWord 37 = .ok (.putfield 15, 3) := by decide +kernel
theorem dX6_readWord_40 : decode cX6_readWord 40 = .ok (.iload_n 2, 1) := by decide +kernel
theorem dX6_readWord_41 : decode cX6_readWord 41 = .ok (.ireturn, 1) := by decide +kernel
theorem dX6_readWord_42 : decode cX6_readWord 42 = .ok (.iload_n 1, 1) := by decide +kernel
theorem dX6_readWord_43 : decode cX6_readWord 43 = .ok (.iload_n 3, 1) := by decide +kernel
theorem dX6_readWord_44 : decode cX6_readWord 44 = .ok (.invokestatic 97, 3) := by decide +kernel
theorem dX6_readWord_47 : decode cX6_readWord 47 = .ok (.istore_n 1, 1) := by decide +kernel
theorem dX6_readWord_48 : decode cX6_readWord 48 = .ok (.iinc 2 1, 3) := by decide +kernel
theorem dX6_readWord_51 : decode cX6_readWord 51 = .ok (.goto (-47), 3) := by decide +kernel
theorem dX6_readWord_54 : decode cX6_readWord 54 = .ok (.aload_n 0, 1) := by decide +kernel
theorem dX6_readWord_55 : decode cX6_readWord 55 = .ok (.aload_n 0, 1) := by decide +kernel
theorem dX6_readWord_56 : decode cX6_readWord 56 = .ok (.getfield 15, 3) := by decide +kernel
theorem dX6_readWord_59 : decode cX6_readWord 59 = .ok (.iload_n 1, 1) := by decide +kernel
theorem dX6_readWord_60 : decode cX6_readWord 60 = .ok (.iadd, 1) := by decide +kernel
theorem dX6_readWord_61 : decode cX6_readWord 61 = .ok (.putfield 21, 3) := by decide +kernel
theorem dX6_readWord_64 : decode cX6_readWord 64 = .ok (.iconst (-1), 1) := by decide +kernel
theorem dX6_readWord_65 : decode cX6_readWord 65 = .ok (.ireturn, 1) := by decide +kernel
theorem dX6_sameLetters_0 : decode cX6_sameLetters 0 = .ok (.iconst 0, 1) := by decide +kernel
theorem dX6_sameLetters_1 : decode cX6_sameLetters 1 = .ok (.istore_n 2, 1) := by decide +kernel
theorem dX6_sameLetters_2 : decode cX6_sameLetters 2 = .ok (.iload_n 2, 1) := by decide +kernel
theorem dX6_sameLetters_3 : decode cX6_sameLetters 3 = .ok (.aload_n 1, 1) := by decide +kernel
theorem dX6_sameLetters_4 : decode cX6_sameLetters 4 = .ok (.invokevirtual 92, 3) := by decide +kernel
theorem dX6_sameLetters_7 : decode cX6_sameLetters 7 = .ok (.if_icmp .ge 29, 3) := by decide +kernel
theorem dX6_sameLetters_10 : decode cX6_sameLetters 10 = .ok (.aload_n 0, 1) := by decide +kernel
theorem dX6_sameLetters_11 : decode cX6_sameLetters 11 = .ok (.aload_n 0, 1) := by decide +kernel
theorem dX6_sameLetters_12 : decode cX6_sameLetters 12 = .ok (.getfield 15, 3) := by decide +kernel
theorem dX6_sameLetters_15 : decode cX6_sameLetters 15 = .ok (.iload_n 2, 1) := by decide +kernel
theorem dX6_sameLetters_16 : decode cX6_sameLetters 16 = .ok (.iadd, 1) := by decide +kernel
theorem dX6_sameLetters_17 : decode cX6_sameLetters 17 = .ok (.invokevirtual 102, 3) := by decide +kernel
theorem dX6_sameLetters_20 : decode cX6_sameLetters 20 = .ok (.aload_n 1, 1) := by decide +kernel
theorem dX6_sameLetters_21 : decode cX6_sameLetters 21 = .ok (.iload_n 2, 1) := by decide +kernel
theorem dX6_sameLetters_22 : decode cX6_sameLetters 22 = .ok (.invokevirtual 105, 3) := by decide +kernel
theorem dX6_sameLetters_25 : decode cX6_sameLetters 25 = .ok (.if_icmp .eq 5, 3) := by decide +kernel
theorem dX6_sameLetters_28 : decode cX6_sameLetters 28 = .ok (.iload_n 2, 1) := by decide +kernel
theorem dX6_sameLetters_29 : decode cX6_sameLetters 29 = .ok (.ireturn, 1) := by decide +kernel
theorem dX6_sameLetters_30 : decode cX6_sameLetters 30 = .ok (.iinc 2 1, 3) := by decide +kernel
theorem dX6_sameLetters_33 : decode cX6_sameLetters 33 = .ok (.goto (-31), 3) := by decide +kernel
theorem dX6_sameLetters_36 : decode cX6_sameLetters 36 = .ok (.aload_n 1, 1) := by decide +kernel
theorem dX6_sameLetters_37 : decode cX6_sameLetters 37 = .ok (.invokevirtual 92, 3) := by decide +kernel
theorem dX6_sameLetters_40 : decode cX6_sameLetters 40 = .ok (.ireturn, 1) := by decide +kernel
theorem dX6_readHouse_0 : decode cX6_readHouse 0 = .ok (.aload_n 0, 1) := by decide +kernel
theorem dX6_readHouse_1 : decode cX6_readHouse 1 = .ok (.getfield 24, 3) := by decide +kernel
theorem dX6_readHouse_4 : decode cX6_readHouse 4 = .ok (.getfield 109, 3) := by decide +kernel
theorem dX6_readHouse_7 : decode cX6_readHouse 7 = .ok (.bipush 6, 2) := by decide +kernel
theorem dX6_readHouse_9 : decode cX6_readHouse 9 = .ok (.if_icmp .lt 8, 3) := by decide +kernel
theorem dX6_readHouse_12 : decode cX6_readHouse 12 = .ok (.aload_n 0, 1) := by decide +kernel
theorem dX6_readHouse_13 : decode cX6_readHouse 13 = .ok (.iload_n 1, 1) := by decide +kernel
theorem dX6_readHouse_14 : decode cX6_readHouse 14 = .ok (.putfield 21, 3) := by decide +kernel
theorem dX6_readHouse_17 : decode cX6_readHouse 17 = .ok (.aload_n 0, 1) := by decide +kernel
theorem dX6_readHouse_18 : decode cX6_readHouse 18 = .ok (.iconst 0, 1) := by decide +kernel
theorem dX6_readHouse_19 : decode cX6_readHouse 19 = .ok (.bipush 6, 2) := by decide +kernel
theorem dX6_readHouse_21 : decode cX6_readHouse 21 = .ok (.invokevirtual 63, 3) := by decide +kernel
theorem dX6_readHouse_24 : decode cX6_readHouse 24 = .ok (.istore_n 2, 1) := by decide +kernel
theorem dX6_readHouse_25 : decode cX6_readHouse 25 = .ok (.aload_n 0, 1) := by decide +kernel
theorem dX6_readHouse_26 : decode cX6_readHouse 26 = .ok (.iconst 0, 1) := by decide +kernel
theorem dX6_readHouse_27 : decode cX6_readHouse 27 = .ok (.bipush 9, 2) := by decide +kernel
theorem dX6_readHouse_29 : decode cX6_readHouse 29 = .ok (.invokevirtual 63, 3) := by decide +kernel
theorem dX6_readHouse_32 : decode cX6_readHouse 32 = .ok (.istore_n 3, 1) := by decide +kernel
theorem dX6_readHouse_33 : decode cX6_readHouse 33 = .ok (.aload_n 0, 1) := by decide +kernel
theorem dX6_readHouse_34 : decode cX6_readHouse 34 = .ok (.getfield 21, 3) := by decide +kernel
theorem dX6_readHouse_37 : decode cX6_readHouse 37 = .ok (.iconst (-1), 1) := by decide +kernel
theorem dX6_readHouse_38 : decode cX6_readHouse 38 = .ok (.if_icmp .ne 13, 3) := by decide +kernel
theorem dX6_readHouse_41 : decode cX6_readHouse 41 = .ok (.aload_n 0, 1) := by decide +kernel
theorem dX6_readHouse_42 : decode cX6_readHouse 42 = .ok (.getfield 24, 3) := by decide +kernel
theorem dX6_readHouse_45 : decode cX6_readHouse 45 = .ok (.iload_n 2, 1) := by decide +kernel
theorem dX6_readHouse_46 : decode cX6_readHouse 46 = .ok (.iload_n 3, 1) := by decide +kernel
theorem dX6_readHouse_47 : decode cX6_readHouse 47 = .ok (.invokevirtual 112, 3) := by decide +kernel
theorem dX6_readHouse_50 : decode cX6_readHouse 50 = .ok (.pop, 1) := by decide +kernel
theorem dX6_readHouse_51 : decode cX6_readHouse 51 = .ok (.return_, 1) := by decide +kernel
theorem dX6_readCoat_0 : decode cX6_readCoat 0 = .ok (.aload_n 0, 1) := by decide +kernel
theorem dX6_readCoat_1 : decode cX6_readCoat 1 = .ok (.iconst 0, 1) := by decide +kernel
theorem dX6_readCoat_2 : decode cX6_readCoat 2 = .ok (.aload_n 0, 1) := by decide +kernel
theorem dX6_readCoat_3 : decode cX6_readCoat 3 = .ok (.getfield 24, 3) := by decide +kernel
theorem dX6_readCoat_6 : decode cX6_readCoat 6 = .ok (.getfield 109, 3) := by decide +kernel
theorem dX6_readCoat_9 : decode cX6_readCoat 9 = .ok (.iconst 1, 1) := by decide +kernel
theorem dX6_readCoat_10 : decode cX6_readCoat 10 = .ok (.isub, 1) := by decide +kernel
theorem dX6_readCoat_11 : decode cX6_readCoat 11 = .ok (.invokevirtual 63, 3) := by decide +kernel
theorem dX6_readCoat_14 : decode cX6_readCoat 14 = .ok (.istore_n 1, 1) := by decide +kernel
theorem dX6_readCoat_15 : decode cX6_readCoat 15 = .ok (.aload_n 0, 1) := by decide +kernel
theorem dX6_readCoat_16 : decode cX6_readCoat 16 = .ok (.getfield 21, 3) := by decide +kernel
theorem dX6_readCoat_19 : decode cX6_readCoat 19 = .ok (.iconst (-1), 1) := by decide +kernel
theorem dX6_readCoat_20 : decode cX6_readCoat 20 = .ok (.if_icmp .ne 28, 3) := by decide +kernel
theorem dX6_readCoat_23 : decode cX6_readCoat 23 = .ok (.aload_n 0, 1) := by decide +kernel
theorem dX6_readCoat_24 : decode cX6_readCoat 24 = .ok (.getfield 24, 3) := by decide +kernel
theorem dX6_readCoat_27 : decode cX6_readCoat 27 = .ok (.getfield 115, 3) := by decide +kernel
theorem dX6_readCoat_30 : decode cX6_readCoat 30 = .ok (.iload_n 1, 1) := by decide +kernel
theorem dX6_readCoat_31 : decode cX6_readCoat 31 = .ok (.aaload, 1) := by decide +kernel
theorem dX6_readCoat_32 : decode cX6_readCoat 32 = .ok (.getfield 119, 3) := by decide +kernel
theorem dX6_readCoat_35 : decode cX6_readCoat 35 = .ok (.bipush 8, 2) := by decide +kernel
theorem dX6_readCoat_37 : decode cX6_readCoat 37 = .ok (.if_icmp .lt 11, 3) := by decide +kernel
theorem dX6_readCoat_40 : decode cX6_readCoat 40 = .ok (.aload_n 0, 1) := by decide +kernel
theorem dX6_readCoat_41 : decode cX6_readCoat 41 = .ok (.aload_n 0, 1) := by decide +kernel
theorem dX6_readCoat_42 : decode cX6_readCoat 42 = .ok (.getfield 18, 3) := by decide +kernel
theorem dX6_readCoat_45 : decode cX6_readCoat 45 = .ok (.putfield 21, 3) := by decide +kernel
theorem dX6_readCoat_48 : decode cX6_readCoat 48 = .ok (.aload_n 0, 1) := by decide +kernel
theorem dX6_readCoat_49 : decode cX6_readCoat 49 = .ok (.iconst 0, 1) := by decide +kernel
theorem dX6_readCoat_50 : decode cX6_readCoat 50 = .ok (.bipush 7, 2) := by decide +kernel
theorem dX6_readCoat_52 : decode cX6_readCoat 52 = .ok (.invokevirtual 63, 3) := by decide +kernel
theorem dX6_readCoat_55 : decode cX6_readCoat 55 = .ok (.istore_n 2, 1) := by decide +kernel
theorem dX6_readCoat_56 : decode cX6_readCoat 56 = .ok (.aload_n 0, 1) := by decide +kernel
theorem dX6_readCoat_57 : decode cX6_readCoat 57 = .ok (.iconst 0, 1) := by decide +kernel
theorem dX6_readCoat_58 : decode cX6_readCoat 58 = .ok (.iconst 5, 1) := by decide +kernel
theorem dX6_readCoat_59 : decode cX6_readCoat 59 = .ok (.invokevirtual 63, 3) := by decide +kernel
theorem dX6_readCoat_62 : decode cX6_readCoat 62 = .ok (.istore_n 3, 1) := by decide +kernel
theorem dX6_readCoat_63 : decode cX6_readCoat 63 = .ok (.aload_n 0, 1) := by decide +kernel
theorem dX6_readCoat_64 : decode cX6_readCoat 64 = .ok (.iconst 1, 1) := by decide +kernel
theorem dX6_readCoat_65 : decode cX6_readCoat 65 = .ok (.bipush 9, 2) := by decide +kernel
theorem dX6_readCoat_67 : decode cX6_readCoat 67 = .ok (.invokevirtual 63, 3) := by decide +kernel
theorem dX6_readCoat_70 : decode cX6_readCoat 70 = .ok (.istore 4, 2) := by decide +kernel
theorem dX6_readCoat_72 : decode cX6_readCoat 72 = .ok (.aload_n 0, 1) := by decide +kernel
theorem dX6_readCoat_73 : decode cX6_readCoat 73 = .ok (.iconst 0, 1) := by decide +kernel
theorem dX6_readCoat_74 : decode cX6_readCoat 74 = .ok (.bipush 11, 2) := by decide +kernel
theorem dX6_readCoat_76 : decode cX6_readCoat 76 = .ok (.invokevirtual 63, 3) := by decide +kernel
theorem dX6_readCoat_79 : decode cX6_readCoat 79 = .ok (.istore 5, 2) := by decide +kernel
theorem dX6_readCoat_81 : decode cX6_readCoat 81 = .ok (.aload_n 0, 1) := by decide +kernel
theorem dX6_readCoat_82 : decode cX6_readCoat 82 = .ok (.getfield 21, 3) := by decide +kernel
theorem dX6_readCoat_85 : decode cX6_readCoat 85 = .ok (.iconst (-1), 1) := by decide +kernel
theorem dX6_readCoat_86 : decode cX6_readCoat 86 = .ok (.if_icmp .ne 29, 3) := by decide +kernel
theorem dX6_readCoat_89 : decode cX6_readCoat 89 = .ok (.aload_n 0, 1) := by decide +kernel
theorem dX6_readCoat_90 : decode cX6_readCoat 90 = .ok (.getfield 24, 3) := by decide +kernel
theorem dX6_readCoat_93 : decode cX6_readCoat 93 = .ok (.getfield 115, 3) := by decide +kernel
theorem dX6_readCoat_96 : decode cX6_readCoat 96 = .ok (.iload_n 1, 1) := by decide +kernel
theorem dX6_readCoat_97 : decode cX6_readCoat 97 = .ok (.aaload, 1) := by decide +kernel
theorem dX6_readCoat_98 : decode cX6_readCoat 98 = .ok (.iload_n 2, 1) := by decide +kernel
theorem dX6_readCoat_99 : decode cX6_readCoat 99 = .ok (.iload_n 3, 1) := by decide +kernel
theorem dX6_readCoat_100 : decode cX6_readCoat 100 = .ok (.iload 4, 2) := by decide +kernel
theorem dX6_readCoat_102 : decode cX6_readCoat 102 = .ok (.iload 5, 2) := by decide +kernel
theorem dX6_readCoat_104 : decode cX6_readCoat 104 = .ok (.aload_n 0, 1) := by decide +kernel
theorem dX6_readCoat_105 : decode cX6_readCoat 105 = .ok (.getfield 24, 3) := by decide +kernel
theorem dX6_readCoat_108 : decode cX6_readCoat 108 = .ok (.getfield 124, 3) := by decide +kernel
theorem dX6_readCoat_111 : decode cX6_readCoat 111 = .ok (.invokevirtual 127, 3) := by decide +kernel
theorem dX6_readCoat_114 : decode cX6_readCoat 114 = .ok (.pop, 1) := by decide +kernel
theorem dX6_readCoat_115 : decode cX6_readCoat 115 = .ok (.return_, 1) := by decide +kernel
theorem dX6_readColour_0 : decode cX6_readColour 0 = .ok (.aload_n 0, 1) := by decide +kernel
theorem dX6_readColour_1 : decode cX6_readColour 1 = .ok (.iconst 0, 1) := by decide +kernel
theorem dX6_readColour_2 : decode cX6_readColour 2 = .ok (.iconst 5, 1) := by decide +kernel
theorem dX6_readColour_3 : decode cX6_readColour 3 = .ok (.invokevirtual 63, 3) := by decide +kernel
theorem dX6_readColour_6 : decode cX6_readColour 6 = .ok (.istore_n 3, 1) := by decide +kernel
theorem dX6_readColour_7 : decode cX6_readColour 7 = .ok (.aload_n 0, 1) := by decide +kernel
theorem dX6_readColour_8 : decode cX6_readColour 8 = .ok (.iconst 0, 1) := by decide +kernel
theorem dX6_readColour_9 : decode cX6_readColour 9 = .ok (.iload_n 2, 1) := by decide +kernel
theorem dX6_readColour_10 : decode cX6_readColour 10 = .ok (.invokevirtual 63, 3) := by decide +kernel
theorem dX6_readColour_13 : decode cX6_readColour 13 = .ok (.istore 4, 2) := by decide +kernel
theorem dX6_readColour_15 : decode cX6_readColour 15 = .ok (.aload_n 0, 1) := by decide +kernel
theorem dX6_readColour_16 : decode cX6_readColour 16 = .ok (.getfield 21, 3) := by decide +kernel
theorem dX6_readColour_19 : decode cX6_readColour 19 = .ok (.iconst (-1), 1) := by decide +kernel
theorem dX6_readColour_20 : decode cX6_readColour 20 = .ok (.if_icmp .ne 8, 3) := by decide +kernel
theorem dX6_readColour_23 : decode cX6_readColour 23 = .ok (.aload_n 1, 1) := by decide +kernel
theorem dX6_readColour_24 : decode cX6_readColour 24 = .ok (.iload_n 3, 1) := by decide +kernel
theorem dX6_readColour_25 : decode cX6_readColour 25 = .ok (.iload 4, 2) := by decide +kernel
theorem dX6_readColour_27 : decode cX6_readColour 27 = .ok (.iastore, 1) := by decide +kernel
theorem dX6_readColour_28 : decode cX6_readColour 28 = .ok (.return_, 1) := by decide +kernel
theorem dX6_readScratch_0 : decode cX6_readScratch 0 = .ok (.aload_n 0, 1) := by decide +kernel
theorem dX6_readScratch_1 : decode cX6_readScratch 1 = .ok (.iconst 0, 1) := by decide +kernel
theorem dX6_readScratch_2 : decode cX6_readScratch 2 = .ok (.aload_n 0, 1) := by decide +kernel
theorem dX6_readScratch_3 : decode cX6_readScratch 3 = .ok (.getfield 24, 3) := by decide +kernel
theorem dX6_readScratch_6 : decode cX6_readScratch 6 = .ok (.getfield 109, 3) := by decide +kernel
theorem dX6_readScratch_9 : decode cX6_readScratch 9 = .ok (.iconst 1, 1) := by decide +kernel
theorem dX6_readScratch_10 : decode cX6_readScratch 10 = .ok (.isub, 1) := by decide +kernel
theorem dX6_readScratch_11 : decode cX6_readScratch 11 = .ok (.invokevirtual 63, 3) := by decide +kernel
theorem dX6_readScratch_14 : decode cX6_readScratch 14 = .ok (.istore_n 1, 1) := by decide +kernel
theorem dX6_readScratch_15 : decode cX6_readScratch 15 = .ok (.aload_n 0, 1) := by decide +kernel
theorem dX6_readScratch_16 : decode cX6_readScratch 16 = .ok (.iconst 0, 1) := by decide +kernel
theorem dX6_readScratch_17 : decode cX6_readScratch 17 = .ok (.bipush 11, 2) := by decide +kernel
theorem dX6_readScratch_19 : decode cX6_readScratch 19 = .ok (.invokevirtual 63, 3) := by decide +kernel
theorem dX6_readScratch_22 : decode cX6_readScratch 22 = .ok (.istore_n 2, 1) := by decide +kernel
theorem dX6_readScratch_23 : decode cX6_readScratch 23 = .ok (.aload_n 0, 1) := by decide +kernel
theorem dX6_readScratch_24 : decode cX6_readScratch 24 = .ok (.getfield 21, 3) := by decide +kernel
theorem dX6_readScratch_27 : decode cX6_readScratch 27 = .ok (.iconst (-1), 1) := by decide +kernel
theorem dX6_readScratch_28 : decode cX6_readScratch 28 = .ok (.if_icmp .ne 28, 3) := by decide +kernel
theorem dX6_readScratch_31 : decode cX6_readScratch 31 = .ok (.aload_n 0, 1) := by decide +kernel
theorem dX6_readScratch_32 : decode cX6_readScratch 32 = .ok (.getfield 24, 3) := by decide +kernel
theorem dX6_readScratch_35 : decode cX6_readScratch 35 = .ok (.getfield 115, 3) := by decide +kernel
theorem dX6_readScratch_38 : decode cX6_readScratch 38 = .ok (.iload_n 1, 1) := by decide +kernel
theorem dX6_readScratch_39 : decode cX6_readScratch 39 = .ok (.aaload, 1) := by decide +kernel
theorem dX6_readScratch_40 : decode cX6_readScratch 40 = .ok (.iload_n 2, 1) := by decide +kernel
theorem dX6_readScratch_41 : decode cX6_readScratch 41 = .ok (.invokevirtual 131, 3) := by decide +kernel
theorem dX6_readScratch_44 : decode cX6_readScratch 44 = .ok (.iconst (-1), 1) := by decide +kernel
theorem dX6_readScratch_45 : decode cX6_readScratch 45 = .ok (.if_icmp .ne 11, 3) := by decide +kernel
theorem dX6_readScratch_48 : decode cX6_readScratch 48 = .ok (.aload_n 0, 1) := by decide +kernel
theorem dX6_readScratch_49 : decode cX6_readScratch 49 = .ok (.aload_n 0, 1) := by decide +kernel
theorem dX6_readScratch_50 : decode cX6_readScratch 50 = .ok (.getfield 18, 3) := by decide +kernel
theorem dX6_readScratch_53 : decode cX6_readScratch 53 = .ok (.putfield 21, 3) := by decide +kernel
theorem dX6_readScratch_56 : decode cX6_readScratch 56 = .ok (.return_, 1) := by decide +kernel
theorem dX6_readNumber_0 : decode cX6_readNumber 0 = .ok (.aload_n 0, 1) := by decide +kernel
theorem dX6_readNumber_1 : decode cX6_readNumber 1 = .ok (.bipush 32, 2) := by decide +kernel
theorem dX6_readNumber_3 : decode cX6_readNumber 3 = .ok (.invokevirtual 35, 3) := by decide +kernel
theorem dX6_readNumber_6 : decode cX6_readNumber 6 = .ok (.ifCond .ne 5, 3) := by decide +kernel
theorem dX6_readNumber_9 : decode cX6_readNumber 9 = .ok (.iconst (-1), 1) := by decide +kernel
theorem dX6_readNumber_10 : decode cX6_readNumber 10 = .ok (.ireturn, 1) := by decide +kernel
theorem dX6_readNumber_11 : decode cX6_readNumber 11 = .ok (.aload_n 0, 1) := by decide +kernel
theorem dX6_readNumber_12 : decode cX6_readNumber 12 = .ok (.aload_n 0, 1) := by decide +kernel
theorem dX6_readNumber_13 : decode cX6_readNumber 13 = .ok (.getfield 15, 3) := by decide +kernel
theorem dX6_readNumber_16 : decode cX6_readNumber 16 = .ok (.putfield 18, 3) := by decide +kernel
theorem dX6_readNumber_19 : decode cX6_readNumber 19 = .ok (.aload_n 0, 1) := by decide +kernel
theorem dX6_readNumber_20 : decode cX6_readNumber 20 = .ok (.aload_n 0, 1) := by decide +kernel
theorem dX6_readNumber_21 : decode cX6_readNumber 21 = .ok (.getfield 15, 3) := by decide +kernel
theorem dX6_readNumber_24 : decode cX6_readNumber 24 = .ok (.invokevirtual 134, 3) := by decide +kernel
theorem dX6_readNumber_27 : decode cX6_readNumber 27 = .ok (.ifCond .ne 13, 3) := by decide +kernel
theorem dX6_readNumber_30 : decode cX6_readNumber 30 = .ok (.aload_n 0, 1) := by decide +kernel
theorem dX6_readNumber_31 : decode cX6_readNumber 31 = .ok (.aload_n 0, 1) := by decide +kernel
theorem dX6_readNumber_32 : decode cX6_readNumber 32 = .ok (.getfield 15, 3) := by decide +kernel
theorem dX6_readNumber_35 : decode cX6_readNumber 35 = .ok (.putfield 21, 3) := by decide +kernel
theorem dX6_readNumber_38 : decode cX6_readNumber 38 = .ok (.iconst (-1), 1) := by decide +kernel
theorem dX6_readNumber_39 : decode cX6_readNumber 39 = .ok (.ireturn, 1) := by decide +kernel
theorem dX6_readNumber_40 : decode cX6_readNumber 40 = .ok (.aload_n 0, 1) := by decide +kernel
theorem dX6_readNumber_41 : decode cX6_readNumber 41 = .ok (.aload_n 0, 1) := by decide +kernel
theorem dX6_readNumber_42 : decode cX6_readNumber 42 = .ok (.getfield 15, 3) := by decide +kernel
theorem dX6_readNumber_45 : decode cX6_readNumber 45 = .ok (.invokevirtual 102, 3) := by decide +kernel
theorem dX6_readNumber_48 : decode cX6_readNumber 48 = .ok (.bipush 48, 2) := by decide +kernel
theorem dX6_readNumber_50 : decode cX6_readNumber 50 = .ok (.isub, 1) := by decide +kernel
theorem dX6_readNumber_51 : decode cX6_readNumber 51 = .ok (.istore_n 3, 1) := by decide +kernel
theorem dX6_readNumber_52 : decode cX6_readNumber 52 = .ok (.aload_n 0, 1) := by decide +kernel
theorem dX6_readNumber_53 : decode cX6_readNumber 53 = .ok (.dup, 1) := by decide +kernel
theorem dX6_readNumber_54 : decode cX6_readNumber 54 = .ok (.getfield 15, 3) := by decide +kernel
theorem dX6_readNumber_57 : decode cX6_readNumber 57 = .ok (.iconst 1, 1) := by decide +kernel
theorem dX6_readNumber_58 : decode cX6_readNumber 58 = .ok (.iadd, 1) := by decide +kernel
theorem dX6_readNumber_59 : decode cX6_readNumber 59 = .ok (.putfield 15, 3) := by decide +kernel
theorem dX6_readNumber_62 : decode cX6_readNumber 62 = .ok (.aload_n 0, 1) := by decide +kernel
theorem dX6_readNumber_63 : decode cX6_readNumber 63 = .ok (.aload_n 0, 1) := by decide +kernel
theorem dX6_readNumber_64 : decode cX6_readNumber 64 = .ok (.getfield 15, 3) := by decide +kernel
theorem dX6_readNumber_67 : decode cX6_readNumber 67 = .ok (.invokevirtual 134, 3) := by decide +kernel
theorem dX6_readNumber_70 : decode cX6_readNumber 70 = .ok (.ifCond .eq 30, 3) := by decide +kernel
theorem dX6_readNumber_73 : decode cX6_readNumber 73 = .ok (.bipush 10, 2) := by decide +kernel
theorem dX6_readNumber_75 : decode cX6_readNumber 75 = .ok (.iload_n 3, 1) := by decide +kernel
theorem dX6_readNumber_76 : decode cX6_readNumber 76 = .ok (.imul, 1) := by decide +kernel
theorem dX6_readNumber_77 : decode cX6_readNumber 77 = .ok (.aload_n 0, 1) := by decide +kernel
theorem dX6_readNumber_78 : decode cX6_readNumber 78 = .ok (.aload_n 0, 1) := by decide +kernel
theorem dX6_readNumber_79 : decode cX6_readNumber 79 = .ok (.getfield 15, 3) := by decide +kernel
theorem dX6_readNumber_82 : decode cX6_readNumber 82 = .ok (.invokevirtual 102, 3) := by decide +kernel
theorem dX6_readNumber_85 : decode cX6_readNumber 85 = .ok (.iadd, 1) := by decide +kernel
theorem dX6_readNumber_86 : decode cX6_readNumber 86 = .ok (.bipush 48, 2) := by decide +kernel
theorem dX6_readNumber_88 : decode cX6_readNumber 88 = .ok (.isub, 1) := by decide +kernel
theorem dX6_readNumber_89 : decode cX6_readNumber 89 = .ok (.istore_n 3, 1) := by decide +kernel
theorem dX6_readNumber_90 : decode cX6_readNumber 90 = .ok (.aload_n 0, 1) := by decide +kernel
theorem dX6_readNumber_91 : decode cX6_readNumber 91 = .ok (.dup, 1) := by decide +kernel
theorem dX6_readNumber_92 : decode cX6_readNumber 92 = .ok (.getfield 15, 3) := by decide +kernel
theorem dX6_readNumber_95 : decode cX6_readNumber 95 = .ok (.iconst 1, 1) := by decide +kernel
theorem dX6_readNumber_96 : decode cX6_readNumber 96 = .ok (.iadd, 1) := by decide +kernel
theorem dX6_readNumber_97 : decode cX6_readNumber 97 = .ok (.putfield 15, 3) := by decide +kernel
theorem dX6_readNumber_100 : decode cX6_readNumber 100 = .ok (.iload_n 3, 1) := by decide +kernel
theorem dX6_readNumber_101 : decode cX6_readNumber 101 = .ok (.iload_n 1, 1) := by decide +kernel
theorem dX6_readNumber_102 : decode cX6_readNumber 102 = .ok (.if_icmp .lt 8, 3) := by decide +kernel
theorem dX6_readNumber_105 : decode cX6_readNumber 105 = .ok (.iload_n 3, 1) := by decide +kernel
theorem dX6_readNumber_106 : decode cX6_readNumber 106 = .ok (.iload_n 2, 1) := by decide +kernel
theorem dX6_readNumber_107 : decode cX6_readNumber 107 = .ok (.if_icmp .le 13, 3) := by decide +kernel
theorem dX6_readNumber_110 : decode cX6_readNumber 110 = .ok (.aload_n 0, 1) := by decide +kernel
theorem dX6_readNumber_111 : decode cX6_readNumber 111 = .ok (.aload_n 0, 1) := by decide +kernel
theorem dX6_readNumber_112 : decode cX6_readNumber 112 = .ok (.getfield 18, 3) := by decide +kernel
theorem dX6_readNumber_115 : decode cX6_readNumber 115 = .ok (.putfield 21, 3) := by decide +kernel
theorem dX6_readNumber_118 : decode cX6_readNumber 118 = .ok (.iconst (-1), 1) := by decide +kernel
theorem dX6_readNumber_119 : decode cX6_readNumber 119 = .ok (.ireturn, 1) := by decide +kernel
theorem dX6_readNumber_120 : decode cX6_readNumber 120 = .ok (.iload_n 3, 1) := by decide +kernel
theorem dX6_readNumber_121 : decode cX6_readNumber 121 = .ok (.ireturn, 1) := by decide +kernel
theorem dX6_stands_0 : decode cX6_stands 0 = .ok (.aload_n 0, 1) := by decide +kernel
theorem dX6_stands_1 : decode cX6_stands 1 = .ok (.getfield 21, 3) := by decide +kernel
theorem dX6_stands_4 : decode cX6_stands 4 = .ok (.iconst (-1), 1) := by decide +kernel
theorem dX6_stands_5 : decode cX6_stands 5 = .ok (.if_icmp .eq 5, 3) := by decide +kernel
theorem dX6_stands_8 : decode cX6_stands 8 = .ok (.iconst 0, 1) := by decide +kernel
theorem dX6_stands_9 : decode cX6_stands 9 = .ok (.ireturn, 1) := by decide +kernel
theorem dX6_stands_10 : decode cX6_stands 10 = .ok (.aload_n 0, 1) := by decide +kernel
theorem dX6_stands_11 : decode cX6_stands 11 = .ok (.aload_n 0, 1) := by decide +kernel
theorem dX6_stands_12 : decode cX6_stands 12 = .ok (.getfield 15, 3) := by decide +kernel
theorem dX6_stands_15 : decode cX6_stands 15 = .ok (.invokevirtual 102, 3) := by decide +kernel
theorem dX6_stands_18 : decode cX6_stands 18 = .ok (.iload_n 1, 1) := by decide +kernel
theorem dX6_stands_19 : decode cX6_stands 19 = .ok (.if_icmp .eq 13, 3) := by decide +kernel
theorem dX6_stands_22 : decode cX6_stands 22 = .ok (.aload_n 0, 1) := by decide +kernel
theorem dX6_stands_23 : decode cX6_stands 23 = .ok (.aload_n 0, 1) := by decide +kernel
theorem dX6_stands_24 : decode cX6_stands 24 = .ok (.getfield 15, 3) := by decide +kernel
theorem dX6_stands_27 : decode cX6_stands 27 = .ok (.putfield 21, 3) := by decide +kernel
theorem dX6_stands_30 : decode cX6_stands 30 = .ok (.iconst 0, 1) := by decide +kernel
theorem dX6_stands_31 : decode cX6_stands 31 = .ok (.ireturn, 1) := by decide +kernel
theorem dX6_stands_32 : decode cX6_stands 32 = .ok (.aload_n 0, 1) := by decide +kernel
theorem dX6_stands_33 : decode cX6_stands 33 = .ok (.dup, 1) := by decide +kernel
theorem dX6_stands_34 : decode cX6_stands 34 = .ok (.getfield 15, 3) := by decide +kernel
theorem dX6_stands_37 : decode cX6_stands 37 = .ok (.iconst 1, 1) := by decide +kernel
theorem dX6_stands_38 : decode cX6_stands 38 = .ok (.iadd, 1) := by decide +kernel
theorem dX6_stands_39 : decode cX6_stands 39 = .ok (.putfield 15, 3) := by decide +kernel
theorem dX6_stands_42 : decode cX6_stands 42 = .ok (.iconst 1, 1) := by decide +kernel
theorem dX6_stands_43 : decode cX6_stands 43 = .ok (.ireturn, 1) := by decide +kernel
theorem dX6_isDigit_0 : decode cX6_isDigit 0 = .ok (.aload_n 0, 1) := by decide +kernel
theorem dX6_isDigit_1 : decode cX6_isDigit 1 = .ok (.iload_n 1, 1) := by decide +kernel
theorem dX6_isDigit_2 : decode cX6_isDigit 2 = .ok (.invokevirtual 102, 3) := by decide +kernel
theorem dX6_isDigit_5 : decode cX6_isDigit 5 = .ok (.istore_n 2, 1) := by decide +kernel
theorem dX6_isDigit_6 : decode cX6_isDigit 6 = .ok (.iload_n 2, 1) := by decide +kernel
theorem dX6_isDigit_7 : decode cX6_isDigit 7 = .ok (.bipush 48, 2) := by decide +kernel
theorem dX6_isDigit_9 : decode cX6_isDigit 9 = .ok (.if_icmp .lt 13, 3) := by decide +kernel
theorem dX6_isDigit_12 : decode cX6_isDigit 12 = .ok (.iload_n 2, 1) := by decide +kernel
theorem dX6_isDigit_13 : decode cX6_isDigit 13 = .ok (.bipush 57, 2) := by decide +kernel
theorem dX6_isDigit_15 : decode cX6_isDigit 15 = .ok (.if_icmp .gt 7, 3) := by decide +kernel
theorem dX6_isDigit_18 : decode cX6_isDigit 18 = .ok (.iconst 1, 1) := by decide +kernel
theorem dX6_isDigit_19 : decode cX6_isDigit 19 = .ok (.goto 4, 3) := by decide +kernel
theorem dX6_isDigit_22 : decode cX6_isDigit 22 = .ok (.iconst 0, 1) := by decide +kernel
theorem dX6_isDigit_23 : decode cX6_isDigit 23 = .ok (.ireturn, 1) := by decide +kernel
theorem dX6_elementAt_0 : decode cX6_elementAt 0 = .ok (.iload_n 1, 1) := by decide +kernel
theorem dX6_elementAt_1 : decode cX6_elementAt 1 = .ok (.ifCond .lt 21, 3) := by decide +kernel
theorem dX6_elementAt_4 : decode cX6_elementAt 4 = .ok (.iload_n 1, 1) := by decide +kernel
theorem dX6_elementAt_5 : decode cX6_elementAt 5 = .ok (.aload_n 0, 1) := by decide +kernel
theorem dX6_elementAt_6 : decode cX6_elementAt 6 = .ok (.getfield 9, 3) := by decide +kernel
theorem dX6_elementAt_9 : decode cX6_elementAt 9 = .ok (.if_icmp .ge 13, 3) := by decide +kernel
theorem dX6_elementAt_12 : decode cX6_elementAt 12 = .ok (.aload_n 0, 1) := by decide +kernel
theorem dX6_elementAt_13 : decode cX6_elementAt 13 = .ok (.getfield 28, 3) := by decide +kernel
theorem dX6_elementAt_16 : decode cX6_elementAt 16 = .ok (.iload_n 1, 1) := by decide +kernel
theorem dX6_elementAt_17 : decode cX6_elementAt 17 = .ok (.laload, 1) := by decide +kernel
theorem dX6_elementAt_18 : decode cX6_elementAt 18 = .ok (.l2i, 1) := by decide +kernel
theorem dX6_elementAt_19 : decode cX6_elementAt 19 = .ok (.goto 4, 3) := by decide +kernel
theorem dX6_elementAt_22 : decode cX6_elementAt 22 = .ok (.iconst (-1), 1) := by decide +kernel
theorem dX6_elementAt_23 : decode cX6_elementAt 23 = .ok (.ireturn, 1) := by decide +kernel
theorem dX7_init_0 : decode cX7_init 0 = .ok (.aload_n 0, 1) := by decide +kernel
theorem dX7_init_1 : decode cX7_init 1 = .ok (.invokespecial 1, 3) := by decide +kernel
theorem dX7_init_4 : decode cX7_init 4 = .ok (.return_, 1) := by decide +kernel
theorem dX7_counted_0 : decode cX7_counted 0 = .ok (.iload_n 1, 1) := by decide +kernel
theorem dX7_counted_1 : decode cX7_counted 1 = .ok (.ifCond .le 9, 3) := by decide +kernel
theorem dX7_counted_4 : decode cX7_counted 4 = .ok (.iload_n 1, 1) := by decide +kernel
theorem dX7_counted_5 : decode cX7_counted 5 = .ok (.iconst 1, 1) := by decide +kernel
theorem dX7_counted_6 : decode cX7_counted 6 = .ok (.isub, 1) := by decide +kernel
theorem dX7_counted_7 : decode cX7_counted 7 = .ok (.goto 4, 3) := by decide +kernel
theorem dX7_counted_10 : decode cX7_counted 10 = .ok (.iconst 0, 1) := by decide +kernel
theorem dX7_counted_11 : decode cX7_counted 11 = .ok (.ireturn, 1) := by decide +kernel
theorem dX7_actFalls_0 : decode cX7_actFalls 0 = .ok (.aload_n 1, 1) := by decide +kernel
theorem dX7_actFalls_1 : decode cX7_actFalls 1 = .ok (.bipush 50, 2) := by decide +kernel
theorem dX7_actFalls_3 : decode cX7_actFalls 3 = .ok (.invokevirtual 7, 3) := by decide +kernel
theorem dX7_actFalls_6 : decode cX7_actFalls 6 = .ok (.aload_n 0, 1) := by decide +kernel
theorem dX7_actFalls_7 : decode cX7_actFalls 7 = .ok (.aload_n 1, 1) := by decide +kernel
theorem dX7_actFalls_8 : decode cX7_actFalls 8 = .ok (.iload_n 2, 1) := by decide +kernel
theorem dX7_actFalls_9 : decode cX7_actFalls 9 = .ok (.invokespecial 13, 3) := by decide +kernel
theorem dX7_actFalls_12 : decode cX7_actFalls 12 = .ok (.ineg, 1) := by decide +kernel
theorem dX7_actFalls_13 : decode cX7_actFalls 13 = .ok (.ireturn, 1) := by decide +kernel
theorem dX7_actPaints_0 : decode cX7_actPaints 0 = .ok (.aload_n 1, 1) := by decide +kernel
theorem dX7_actPaints_1 : decode cX7_actPaints 1 = .ok (.bipush 51, 2) := by decide +kernel
theorem dX7_actPaints_3 : decode cX7_actPaints 3 = .ok (.invokevirtual 7, 3) := by decide +kernel
theorem dX7_actPaints_6 : decode cX7_actPaints 6 = .ok (.aload_n 0, 1) := by decide +kernel
theorem dX7_actPaints_7 : decode cX7_actPaints 7 = .ok (.aload_n 1, 1) := by decide +kernel
theorem dX7_actPaints_8 : decode cX7_actPaints 8 = .ok (.iload_n 2, 1) := by decide +kernel
theorem dX7_actPaints_9 : decode cX7_actPaints 9 = .ok (.invokespecial 17, 3) := by decide +kernel
theorem dX7_actPaints_12 : decode cX7_actPaints 12 = .ok (.aload_n 1, 1) := by decide +kernel
theorem dX7_actPaints_13 : decode cX7_actPaints 13 = .ok (.getfield 20, 3) := by decide +kernel
theorem dX7_actPaints_16 : decode cX7_actPaints 16 = .ok (.isub, 1) := by decide +kernel
theorem dX7_actPaints_17 : decode cX7_actPaints 17 = .ok (.ireturn, 1) := by decide +kernel
theorem dX8_init_0 : decode cX8_init 0 = .ok (.aload_n 0, 1) := by decide +kernel
theorem dX8_init_1 : decode cX8_init 1 = .ok (.invokespecial 3, 3) := by decide +kernel
theorem dX8_init_4 : decode cX8_init 4 = .ok (.return_, 1) := by decide +kernel
theorem dX8_hardness_0 : decode cX8_hardness 0 = .ok (.iload_n 2, 1) := by decide +kernel
theorem dX8_hardness_1 : decode cX8_hardness 1 = .ok (.iconst 4, 1) := by decide +kernel
theorem dX8_hardness_2 : decode cX8_hardness 2 = .ok (.idiv, 1) := by decide +kernel
theorem dX8_hardness_3 : decode cX8_hardness 3 = .ok (.ifCond .ne 7, 3) := by decide +kernel
theorem dX8_hardness_6 : decode cX8_hardness 6 = .ok (.iconst 0, 1) := by decide +kernel
theorem dX8_hardness_7 : decode cX8_hardness 7 = .ok (.goto 10, 3) := by decide +kernel
theorem dX8_hardness_10 : decode cX8_hardness 10 = .ok (.aload_n 0, 1) := by decide +kernel
theorem dX8_hardness_11 : decode cX8_hardness 11 = .ok (.iload_n 1, 1) := by decide +kernel
theorem dX8_hardness_12 : decode cX8_hardness 12 = .ok (.iload_n 2, 1) := by decide +kernel
theorem dX8_hardness_13 : decode cX8_hardness 13 = .ok (.iload_n 3, 1) := by decide +kernel
theorem dX8_hardness_14 : decode cX8_hardness 14 = .ok (.invokespecial 9, 3) := by decide +kernel
theorem dX8_hardness_17 : decode cX8_hardness 17 = .ok (.ireturn, 1) := by decide +kernel
theorem dX8_actFalls_0 : decode cX8_actFalls 0 = .ok (.aload_n 1, 1) := by decide +kernel
theorem dX8_actFalls_1 : decode cX8_actFalls 1 = .ok (.bipush 60, 2) := by decide +kernel
theorem dX8_actFalls_3 : decode cX8_actFalls 3 = .ok (.invokevirtual 13, 3) := by decide +kernel
theorem dX8_actFalls_6 : decode cX8_actFalls 6 = .ok (.aload_n 0, 1) := by decide +kernel
theorem dX8_actFalls_7 : decode cX8_actFalls 7 = .ok (.aload_n 1, 1) := by decide +kernel
theorem dX8_actFalls_8 : decode cX8_actFalls 8 = .ok (.iload_n 2, 1) := by decide +kernel
theorem dX8_actFalls_9 : decode cX8_actFalls 9 = .ok (.invokespecial 19, 3) := by decide +kernel
theorem dX8_actFalls_12 : decode cX8_actFalls 12 = .ok (.iconst 5, 1) := by decide +kernel
theorem dX8_actFalls_13 : decode cX8_actFalls 13 = .ok (.ixor, 1) := by decide +kernel
theorem dX8_actFalls_14 : decode cX8_actFalls 14 = .ok (.ireturn, 1) := by decide +kernel
theorem dX9_init_0 : decode cX9_init 0 = .ok (.aload_n 0, 1) := by decide +kernel
theorem dX9_init_1 : decode cX9_init 1 = .ok (.invokespecial 3, 3) := by decide +kernel
theorem dX9_init_4 : decode cX9_init 4 = .ok (.aload_n 0, 1) := by decide +kernel
theorem dX9_init_5 : decode cX9_init 5 = .ok (.bipush 6, 2) := by decide +kernel
theorem dX9_init_7 : decode cX9_init 7 = .ok (.anewarray 9, 3) := by decide +kernel
theorem dX9_init_10 : decode cX9_init 10 = .ok (.putfield 11, 3) := by decide +kernel
theorem dX9_init_13 : decode cX9_init 13 = .ok (.aload_n 0, 1) := by decide +kernel
theorem dX9_init_14 : decode cX9_init 14 = .ok (.iconst 0, 1) := by decide +kernel
theorem dX9_init_15 : decode cX9_init 15 = .ok (.putfield 17, 3) := by decide +kernel
theorem dX9_init_18 : decode cX9_init 18 = .ok (.aload_n 0, 1) := by decide +kernel
theorem dX9_init_19 : decode cX9_init 19 = .ok (.bipush 6, 2) := by decide +kernel
theorem dX9_init_21 : decode cX9_init 21 = .ok (.newarray .int, 2) := by decide +kernel
theorem dX9_init_23 : decode cX9_init 23 = .ok (.putfield 21, 3) := by decide +kernel
theorem dX9_init_26 : decode cX9_init 26 = .ok (.aload_n 0, 1) := by decide +kernel
theorem dX9_init_27 : decode cX9_init 27 = .ok (.bipush 6, 2) := by decide +kernel
theorem dX9_init_29 : decode cX9_init 29 = .ok (.newarray .int, 2) := by decide +kernel
theorem dX9_init_31 : decode cX9_init 31 = .ok (.putfield 25, 3) := by decide +kernel
theorem dX9_init_34 : decode cX9_init 34 = .ok (.aload_n 0, 1) := by decide +kernel
theorem dX9_init_35 : decode cX9_init 35 = .ok (.sipush 300, 3) := by decide +kernel
theorem dX9_init_38 : decode cX9_init 38 = .ok (.putfield 28, 3) := by decide +kernel
theorem dX9_init_41 : decode cX9_init 41 = .ok (.aload_n 0, 1) := by decide +kernel
theorem dX9_init_42 : decode cX9_init 42 = .ok (.bipush 40, 2) := by decide +kernel
theorem dX9_init_44 : decode cX9_init 44 = .ok (.putfield 31, 3) := by decide +kernel
theorem dX9_init_47 : decode cX9_init 47 = .ok (.aload_n 0, 1) := by decide +kernel
theorem dX9_init_48 : decode cX9_init 48 = .ok (.iconst 0, 1) := by decide +kernel
theorem dX9_init_49 : decode cX9_init 49 = .ok (.putfield 34, 3) := by decide +kernel
theorem dX9_init_52 : decode cX9_init 52 = .ok (.aload_n 0, 1) := by decide +kernel
theorem dX9_init_53 : decode cX9_init 53 = .ok (.iconst 0, 1) := by decide +kernel
theorem dX9_init_54 : decode cX9_init 54 = .ok (.putfield 37, 3) := by decide +kernel
theorem dX9_init_57 : decode cX9_init 57 = .ok (.aload_n 0, 1) := by decide +kernel
theorem dX9_init_58 : decode cX9_init 58 = .ok (.iconst 1, 1) := by decide +kernel
theorem dX9_init_59 : decode cX9_init 59 = .ok (.putfield 40, 3) := by decide +kernel
theorem dX9_init_62 : decode cX9_init 62 = .ok (.aload_n 0, 1) := by decide +kernel
theorem dX9_init_63 : decode cX9_init 63 = .ok (.aload_n 1, 1) := by decide +kernel
theorem dX9_init_64 : decode cX9_init 64 = .ok (.putfield 43, 3) := by decide +kernel
theorem dX9_init_67 : decode cX9_init 67 = .ok (.iconst 0, 1) := by decide +kernel
theorem dX9_init_68 : decode cX9_init 68 = .ok (.istore_n 2, 1) := by decide +kernel
theorem dX9_init_69 : decode cX9_init 69 = .ok (.iload_n 2, 1) := by decide +kernel
theorem dX9_init_70 : decode cX9_init 70 = .ok (.bipush 6, 2) := by decide +kernel
theorem dX9_init_72 : decode cX9_init 72 = .ok (.if_icmp .ge 25, 3) := by decide +kernel
theorem dX9_init_75 : decode cX9_init 75 = .ok (.aload_n 0, 1) := by decide +kernel
theorem dX9_init_76 : decode cX9_init 76 = .ok (.getfield 11, 3) := by decide +kernel
theorem dX9_init_79 : decode cX9_init 79 = .ok (.iload_n 2, 1) := by decide +kernel
theorem dX9_init_80 : decode cX9_init 80 = .ok (.new 9, 3) := by decide +kernel
theorem dX9_init_83 : decode cX9_init 83 = .ok (.dup, 1) := by decide +kernel
theorem dX9_init_84 : decode cX9_init 84 = .ok (.aload_n 1, 1) := by decide +kernel
theorem dX9_init_85 : decode cX9_init 85 = .ok (.iconst 0, 1) := by decide +kernel
theorem dX9_init_86 : decode cX9_init 86 = .ok (.aaload, 1) := by decide +kernel
theorem dX9_init_87 : decode cX9_init 87 = .ok (.invokespecial 47, 3) := by decide +kernel
theorem dX9_init_90 : decode cX9_init 90 = .ok (.aastore, 1) := by decide +kernel
theorem dX9_init_91 : decode cX9_init 91 = .ok (.iinc 2 1, 3) := by decide +kernel
theorem dX9_init_94 : decode cX9_init 94 = .ok (.goto (-25), 3) := by decide +kernel
theorem dX9_init_97 : decode cX9_init 97 = .ok (.iconst 0, 1) := by decide +kernel
theorem dX9_init_98 : decode cX9_init 98 = .ok (.istore_n 2, 1) := by decide +kernel
theorem dX9_init_99 : decode cX9_init 99 = .ok (.iload_n 2, 1) := by decide +kernel
theorem dX9_init_100 : decode cX9_init 100 = .ok (.bipush 6, 2) := by decide +kernel
theorem dX9_init_102 : decode cX9_init 102 = .ok (.if_icmp .ge 23, 3) := by decide +kernel
theorem dX9_init_105 : decode cX9_init 105 = .ok (.aload_n 0, 1) := by decide +kernel
theorem dX9_init_106 : decode cX9_init 106 = .ok (.getfield 21, 3) := by decide +kernel
theorem dX9_init_109 : decode cX9_init 109 = .ok (.iload_n 2, 1) := by decide +kernel
theorem dX9_init_110 : decode cX9_init 110 = .ok (.iconst 3, 1) := by decide +kernel
theorem dX9_init_111 : decode cX9_init 111 = .ok (.iastore, 1) := by decide +kernel
theorem dX9_init_112 : decode cX9_init 112 = .ok (.aload_n 0, 1) := by decide +kernel
theorem dX9_init_113 : decode cX9_init 113 = .ok (.getfield 25, 3) := by decide +kernel
theorem dX9_init_116 : decode cX9_init 116 = .ok (.iload_n 2, 1) := by decide +kernel
theorem dX9_init_117 : decode cX9_init 117 = .ok (.iconst 1, 1) := by decide +kernel
theorem dX9_init_118 : decode cX9_init 118 = .ok (.iastore, 1) := by decide +kernel
theorem dX9_init_119 : decode cX9_init 119 = .ok (.iinc 2 1, 3) := by decide +kernel
theorem dX9_init_122 : decode cX9_init 122 = .ok (.goto (-23), 3) := by decide +kernel
theorem dX9_init_125 : decode cX9_init 125 = .ok (.return_, 1) := by decide +kernel
theorem dX9_become_0 : decode cX9_become 0 = .ok (.aload_n 0, 1) := by decide +kernel
theorem dX9_become_1 : decode cX9_become 1 = .ok (.aload_n 1, 1) := by decide +kernel
theorem dX9_become_2 : decode cX9_become 2 = .ok (.getfield 17, 3) := by decide +kernel
theorem dX9_become_5 : decode cX9_become 5 = .ok (.putfield 17, 3) := by decide +kernel
theorem dX9_become_8 : decode cX9_become 8 = .ok (.iconst 0, 1) := by decide +kernel
theorem dX9_become_9 : decode cX9_become 9 = .ok (.istore_n 2, 1) := by decide +kernel
theorem dX9_become_10 : decode cX9_become 10 = .ok (.iload_n 2, 1) := by decide +kernel
theorem dX9_become_11 : decode cX9_become 11 = .ok (.aload_n 0, 1) := by decide +kernel
theorem dX9_become_12 : decode cX9_become 12 = .ok (.getfield 17, 3) := by decide +kernel
theorem dX9_become_15 : decode cX9_become 15 = .ok (.if_icmp .ge 24, 3) := by decide +kernel
theorem dX9_become_18 : decode cX9_become 18 = .ok (.aload_n 0, 1) := by decide +kernel
theorem dX9_become_19 : decode cX9_become 19 = .ok (.getfield 11, 3) := by decide +kernel
theorem dX9_become_22 : decode cX9_become 22 = .ok (.iload_n 2, 1) := by decide +kernel
theorem dX9_become_23 : decode cX9_become 23 = .ok (.aaload, 1) := by decide +kernel
theorem dX9_become_24 : decode cX9_become 24 = .ok (.aload_n 1, 1) := by decide +kernel
theorem dX9_become_25 : decode cX9_become 25 = .ok (.getfield 11, 3) := by decide +kernel
theorem dX9_become_28 : decode cX9_become 28 = .ok (.iload_n 2, 1) := by decide +kernel
theorem dX9_become_29 : decode cX9_become 29 = .ok (.aaload, 1) := by decide +kernel
theorem dX9_become_30 : decode cX9_become 30 = .ok (.invokevirtual 50, 3) := by decide +kernel
theorem dX9_become_33 : decode cX9_become 33 = .ok (.iinc 2 1, 3) := by decide +kernel
theorem dX9_become_36 : decode cX9_become 36 = .ok (.goto (-26), 3) := by decide +kernel
theorem dX9_become_39 : decode cX9_become 39 = .ok (.aload_n 1, 1) := by decide +kernel
theorem dX9_become_40 : decode cX9_become 40 = .ok (.getfield 21, 3) := by decide +kernel
theorem dX9_become_43 : decode cX9_become 43 = .ok (.iconst 0, 1) := by decide +kernel
theorem dX9_become_44 : decode cX9_become 44 = .ok (.aload_n 0, 1) := by decide +kernel
theorem dX9_become_45 : decode cX9_become 45 = .ok (.getfield 21, 3) := by decide +kernel
theorem dX9_become_48 : decode cX9_become 48 = .ok (.iconst 0, 1) := by decide +kernel
theorem dX9_become_49 : decode cX9_become 49 = .ok (.bipush 6, 2) := by decide +kernel
theorem dX9_become_51 : decode cX9_become 51 = .ok (.invokestatic 54, 3) := by decide +kernel
theorem dX9_become_54 : decode cX9_become 54 = .ok (.aload_n 1, 1) := by decide +kernel
theorem dX9_become_55 : decode cX9_become 55 = .ok (.getfield 25, 3) := by decide +kernel
theorem dX9_become_58 : decode cX9_become 58 = .ok (.iconst 0, 1) := by decide +kernel
theorem dX9_become_59 : decode cX9_become 59 = .ok (.aload_n 0, 1) := by decide +kernel
theorem dX9_become_60 : decode cX9_become 60 = .ok (.getfield 25, 3) := by decide +kernel
theorem dX9_become_63 : decode cX9_become 63 = .ok (.iconst 0, 1) := by decide +kernel
theorem dX9_become_64 : decode cX9_become 64 = .ok (.bipush 6, 2) := by decide +kernel
theorem dX9_become_66 : decode cX9_become 66 = .ok (.invokestatic 54, 3) := by decide +kernel
theorem dX9_become_69 : decode cX9_become 69 = .ok (.aload_n 0, 1) := by decide +kernel
theorem dX9_become_70 : decode cX9_become 70 = .ok (.aload_n 1, 1) := by decide +kernel
theorem dX9_become_71 : decode cX9_become 71 = .ok (.getfield 28, 3) := by decide +kernel
theorem dX9_become_74 : decode cX9_become 74 = .ok (.putfield 28, 3) := by decide +kernel
theorem dX9_become_77 : decode cX9_become 77 = .ok (.aload_n 0, 1) := by decide +kernel
theorem dX9_become_78 : decode cX9_become 78 = .ok (.aload_n 1, 1) := by decide +kernel
theorem dX9_become_79 : decode cX9_become 79 = .ok (.getfield 31, 3) := by decide +kernel
theorem dX9_become_82 : decode cX9_become 82 = .ok (.putfield 31, 3) := by decide +kernel
theorem dX9_become_85 : decode cX9_become 85 = .ok (.aload_n 0, 1) := by decide +kernel
theorem dX9_become_86 : decode cX9_become 86 = .ok (.aload_n 1, 1) := by decide +kernel
theorem dX9_become_87 : decode cX9_become 87 = .ok (.getfield 34, 3) := by decide +kernel
theorem dX9_become_90 : decode cX9_become 90 = .ok (.putfield 34, 3) := by decide +kernel
theorem dX9_become_93 : decode cX9_become 93 = .ok (.aload_n 0, 1) := by decide +kernel
theorem dX9_become_94 : decode cX9_become 94 = .ok (.aload_n 1, 1) := by decide +kernel
theorem dX9_become_95 : decode cX9_become 95 = .ok (.getfield 37, 3) := by decide +kernel
theorem dX9_become_98 : decode cX9_become 98 = .ok (.putfield 37, 3) := by decide +kernel
theorem dX9_become_101 : decode cX9_become 101 = .ok (.aload_n 0, 1) := by decide +kernel
theorem dX9_become_102 : decode cX9_become 102 = .ok (.aload_n 1, 1) := by decide +kernel
theorem dX9_become_103 : decode cX9_become 103 = .ok (.getfield 40, 3) := by decide +kernel
theorem dX9_become_106 : decode cX9_become 106 = .ok (.putfield 40, 3) := by decide +kernel
theorem dX9_become_109 : decode cX9_become 109 = .ok (.return_, 1) := by decide +kernel
theorem dX9_build_0 : decode cX9_build 0 = .ok (.aload_n 0, 1) := by decide +kernel
theorem dX9_build_1 : decode cX9_build 1 = .ok (.getfield 17, 3) := by decide +kernel
theorem dX9_build_4 : decode cX9_build 4 = .ok (.bipush 6, 2) := by decide +kernel
theorem dX9_build_6 : decode cX9_build 6 = .ok (.if_icmp .ge 12, 3) := by decide +kernel
theorem dX9_build_9 : decode cX9_build 9 = .ok (.iload_n 1, 1) := by decide +kernel
theorem dX9_build_10 : decode cX9_build 10 = .ok (.bipush 7, 2) := by decide +kernel
theorem dX9_build_12 : decode cX9_build 12 = .ok (.invokestatic 60, 3) := by decide +kernel
theorem dX9_build_15 : decode cX9_build 15 = .ok (.ifCond .eq 5, 3) := by decide +kernel
theorem dX9_build_18 : decode cX9_build 18 = .ok (.iconst (-1), 1) := by decide +kernel
theorem dX9_build_19 : decode cX9_build 19 = .ok (.ireturn, 1) := by decide +kernel
theorem dX9_build_20 : decode cX9_build 20 = .ok (.aload_n 0, 1) := by decide +kernel
theorem dX9_build_21 : decode cX9_build 21 = .ok (.getfield 11, 3) := by decide +kernel
theorem dX9_build_24 : decode cX9_build 24 = .ok (.aload_n 0, 1) := by decide +kernel
theorem dX9_build_25 : decode cX9_build 25 = .ok (.getfield 17, 3) := by decide +kernel
theorem dX9_build_28 : decode cX9_build 28 = .ok (.aaload, 1) := by decide +kernel
theorem dX9_build_29 : decode cX9_build 29 = .ok (.astore_n 3, 1) := by decide +kernel
theorem dX9_build_30 : decode cX9_build 30 = .ok (.aload_n 3, 1) := by decide +kernel
theorem dX9_build_31 : decode cX9_build 31 = .ok (.invokevirtual 64, 3) := by decide +kernel
theorem dX9_build_34 : decode cX9_build 34 = .ok (.aload_n 3, 1) := by decide +kernel
theorem dX9_build_35 : decode cX9_build 35 = .ok (.aload_n 0, 1) := by decide +kernel
theorem dX9_build_36 : decode cX9_build 36 = .ok (.getfield 43, 3) := by decide +kernel
theorem dX9_build_39 : decode cX9_build 39 = .ok (.iload_n 1, 1) := by decide +kernel
theorem dX9_build_40 : decode cX9_build 40 = .ok (.aaload, 1) := by decide +kernel
theorem dX9_build_41 : decode cX9_build 41 = .ok (.putfield 67, 3) := by decide +kernel
theorem dX9_build_44 : decode cX9_build 44 = .ok (.aload_n 3, 1) := by decide +kernel
theorem dX9_build_45 : decode cX9_build 45 = .ok (.iload_n 1, 1) := by decide +kernel
theorem dX9_build_46 : decode cX9_build 46 = .ok (.putfield 71, 3) := by decide +kernel
theorem dX9_build_49 : decode cX9_build 49 = .ok (.aload_n 3, 1) := by decide +kernel
theorem dX9_build_50 : decode cX9_build 50 = .ok (.iload_n 2, 1) := by decide +kernel
theorem dX9_build_51 : decode cX9_build 51 = .ok (.putfield 74, 3) := by decide +kernel
theorem dX9_build_54 : decode cX9_build 54 = .ok (.aload_n 0, 1) := by decide +kernel
theorem dX9_build_55 : decode cX9_build 55 = .ok (.dup, 1) := by decide +kernel
theorem dX9_build_56 : decode cX9_build 56 = .ok (.getfield 17, 3) := by decide +kernel
theorem dX9_build_59 : decode cX9_build 59 = .ok (.iconst 1, 1) := by decide +kernel
theorem dX9_build_60 : decode cX9_build 60 = .ok (.iadd, 1) := by decide +kernel
theorem dX9_build_61 : decode cX9_build 61 = .ok (.putfield 17, 3) := by decide +kernel
theorem dX9_build_64 : decode cX9_build 64 = .ok (.aload_n 0, 1) := by decide +kernel
theorem dX9_build_65 : decode cX9_build 65 = .ok (.getfield 17, 3) := by decide +kernel
theorem dX9_build_68 : decode cX9_build 68 = .ok (.iconst 1, 1) := by decide +kernel
theorem dX9_build_69 : decode cX9_build 69 = .ok (.isub, 1) := by decide +kernel
theorem dX9_build_70 : decode cX9_build 70 = .ok (.ireturn, 1) := by decide +kernel
theorem dX9_coatsInAll_0 : decode cX9_coatsInAll 0 = .ok (.iconst 0, 1) := by decide +kernel
theorem dX9_coatsInAll_1 : decode cX9_coatsInAll 1 = .ok (.istore_n 1, 1) := by decide +kernel
theorem dX9_coatsInAll_2 : decode cX9_coatsInAll 2 = .ok (.iconst 0, 1) := by decide +kernel
theorem dX9_coatsInAll_3 : decode cX9_coatsInAll 3 = .ok (.istore_n 2, 1) := by decide +kernel
theorem dX9_coatsInAll_4 : decode cX9_coatsInAll 4 = .ok (.iload_n 2, 1) := by decide +kernel
theorem dX9_coatsInAll_5 : decode cX9_coatsInAll 5 = .ok (.aload_n 0, 1) := by decide +kernel
theorem dX9_coatsInAll_6 : decode cX9_coatsInAll 6 = .ok (.getfield 17, 3) := by decide +kernel
theorem dX9_coatsInAll_9 : decode cX9_coatsInAll 9 = .ok (.if_icmp .ge 21, 3) := by decide +kernel
theorem dX9_coatsInAll_12 : decode cX9_coatsInAll 12 = .ok (.iload_n 1, 1) := by decide +kernel
theorem dX9_coatsInAll_13 : decode cX9_coatsInAll 13 = .ok (.aload_n 0, 1) := by decide +kernel
theorem dX9_coatsInAll_14 : decode cX9_coatsInAll 14 = .ok (.getfield 11, 3) := by decide +kernel
theorem dX9_coatsInAll_17 : decode cX9_coatsInAll 17 = .ok (.iload_n 2, 1) := by decide +kernel
theorem dX9_coatsInAll_18 : decode cX9_coatsInAll 18 = .ok (.aaload, 1) := by decide +kernel
theorem dX9_coatsInAll_19 : decode cX9_coatsInAll 19 = .ok (.getfield 77, 3) := by decide +kernel
theorem dX9_coatsInAll_22 : decode cX9_coatsInAll 22 = .ok (.iadd, 1) := by decide +kernel
theorem dX9_coatsInAll_23 : decode cX9_coatsInAll 23 = .ok (.istore_n 1, 1) := by decide +kernel
theorem dX9_coatsInAll_24 : decode cX9_coatsInAll 24 = .ok (.iinc 2 1, 3) := by decide +kernel
theorem dX9_coatsInAll_27 : decode cX9_coatsInAll 27 = .ok (.goto (-23), 3) := by decide +kernel
theorem dX9_coatsInAll_30 : decode cX9_coatsInAll 30 = .ok (.iload_n 1, 1) := by decide +kernel
theorem dX9_coatsInAll_31 : decode cX9_coatsInAll 31 = .ok (.ireturn, 1) := by decide +kernel
theorem dX9_strength_0 : decode cX9_strength 0 = .ok (.aload_n 1, 1) := by decide +kernel
theorem dX9_strength_1 : decode cX9_strength 1 = .ok (.getfield 67, 3) := by decide +kernel
theorem dX9_strength_4 : decode cX9_strength 4 = .ok (.aload_n 0, 1) := by decide +kernel
theorem dX9_strength_5 : decode cX9_strength 5 = .ok (.getfield 21, 3) := by decide +kernel
theorem dX9_strength_8 : decode cX9_strength 8 = .ok (.iload_n 2, 1) := by decide +kernel
theorem dX9_strength_9 : decode cX9_strength 9 = .ok (.iaload, 1) := by decide +kernel
theorem dX9_strength_10 : decode cX9_strength 10 = .ok (.invokevirtual 80, 3) := by decide +kernel
theorem dX9_strength_13 : decode cX9_strength 13 = .ok (.iload_n 3, 1) := by decide +kernel
theorem dX9_strength_14 : decode cX9_strength 14 = .ok (.imul, 1) := by decide +kernel
theorem dX9_strength_15 : decode cX9_strength 15 = .ok (.ireturn, 1) := by decide +kernel
theorem dX9_seenAmong_0 : decode cX9_seenAmong 0 = .ok (.aload_n 1, 1) := by decide +kernel
theorem dX9_seenAmong_1 : decode cX9_seenAmong 1 = .ok (.iload_n 3, 1) := by decide +kernel
theorem dX9_seenAmong_2 : decode cX9_seenAmong 2 = .ok (.iload 4, 2) := by decide +kernel
theorem dX9_seenAmong_4 : decode cX9_seenAmong 4 = .ok (.invokevirtual 86, 3) := by decide +kernel
theorem dX9_seenAmong_7 : decode cX9_seenAmong 7 = .ok (.istore 5, 2) := by decide +kernel
theorem dX9_seenAmong_9 : decode cX9_seenAmong 9 = .ok (.aload_n 1, 1) := by decide +kernel
theorem dX9_seenAmong_10 : decode cX9_seenAmong 10 = .ok (.getfield 77, 3) := by decide +kernel
theorem dX9_seenAmong_13 : decode cX9_seenAmong 13 = .ok (.iconst 1, 1) := by decide +kernel
theorem dX9_seenAmong_14 : decode cX9_seenAmong 14 = .ok (.isub, 1) := by decide +kernel
theorem dX9_seenAmong_15 : decode cX9_seenAmong 15 = .ok (.istore 6, 2) := by decide +kernel
theorem dX9_seenAmong_17 : decode cX9_seenAmong 17 = .ok (.iload 6, 2) := by decide +kernel
theorem dX9_seenAmong_19 : decode cX9_seenAmong 19 = .ok (.ifCond .lt 57, 3) := by decide +kernel
theorem dX9_seenAmong_22 : decode cX9_seenAmong 22 = .ok (.iload_n 2, 1) := by decide +kernel
theorem dX9_seenAmong_23 : decode cX9_seenAmong 23 = .ok (.iload 6, 2) := by decide +kernel
theorem dX9_seenAmong_25 : decode cX9_seenAmong 25 = .ok (.ishr, 1) := by decide +kernel
theorem dX9_seenAmong_26 : decode cX9_seenAmong 26 = .ok (.iconst 1, 1) := by decide +kernel
theorem dX9_seenAmong_27 : decode cX9_seenAmong 27 = .ok (.iand, 1) := by decide +kernel
theorem dX9_seenAmong_28 : decode cX9_seenAmong 28 = .ok (.ifCond .eq 7, 3) := by decide +kernel
theorem dX9_seenAmong_31 : decode cX9_seenAmong 31 = .ok (.iconst 1, 1) := by decide +kernel
theorem dX9_seenAmong_32 : decode cX9_seenAmong 32 = .ok (.goto 4, 3) := by decide +kernel
theorem dX9_seenAmong_35 : decode cX9_seenAmong 35 = .ok (.iconst 0, 1) := by decide +kernel
theorem dX9_seenAmong_36 : decode cX9_seenAmong 36 = .ok (.istore 7, 2) := by decide +kernel
theorem dX9_seenAmong_38 : decode cX9_seenAmong 38 = .ok (.iload 7, 2) := by decide +kernel
theorem dX9_seenAmong_40 : decode cX9_seenAmong 40 = .ok (.ifCond .eq 30, 3) := by decide +kernel
theorem dX9_seenAmong_43 : decode cX9_seenAmong 43 = .ok (.aload_n 0, 1) := by decide +kernel
theorem dX9_seenAmong_44 : decode cX9_seenAmong 44 = .ok (.aload_n 1, 1) := by decide +kernel
theorem dX9_seenAmong_45 : decode cX9_seenAmong 45 = .ok (.aload_n 1, 1) := by decide +kernel
theorem dX9_seenAmong_46 : decode cX9_seenAmong 46 = .ok (.getfield 90, 3) := by decide +kernel
theorem dX9_seenAmong_49 : decode cX9_seenAmong 49 = .ok (.iload 6, 2) := by decide +kernel
theorem dX9_seenAmong_51 : decode cX9_seenAmong 51 = .ok (.iaload, 1) := by decide +kernel
theorem dX9_seenAmong_52 : decode cX9_seenAmong 52 = .ok (.aload_n 1, 1) := by decide +kernel
theorem dX9_seenAmong_53 : decode cX9_seenAmong 53 = .ok (.getfield 93, 3) := by decide +kernel
theorem dX9_seenAmong_56 : decode cX9_seenAmong 56 = .ok (.iload 6, 2) := by decide +kernel
theorem dX9_seenAmong_58 : decode cX9_seenAmong 58 = .ok (.iaload, 1) := by decide +kernel
theorem dX9_seenAmong_59 : decode cX9_seenAmong 59 = .ok (.invokevirtual 96, 3) := by decide +kernel
theorem dX9_seenAmong_62 : decode cX9_seenAmong 62 = .ok (.iload 5, 2) := by decide +kernel
theorem dX9_seenAmong_64 : decode cX9_seenAmong 64 = .ok (.if_icmp .lt 6, 3) := by decide +kernel
theorem dX9_seenAmong_67 : decode cX9_seenAmong 67 = .ok (.iload 6, 2) := by decide +kernel
theorem dX9_seenAmong_69 : decode cX9_seenAmong 69 = .ok (.ireturn, 1) := by decide +kernel
theorem dX9_seenAmong_70 : decode cX9_seenAmong 70 = .ok (.iinc 6 (-1), 3) := by decide +kernel
theorem dX9_seenAmong_73 : decode cX9_seenAmong 73 = .ok (.goto (-56), 3) := by decide +kernel
theorem dX9_seenAmong_76 : decode cX9_seenAmong 76 = .ok (.iconst (-1), 1) := by decide +kernel
theorem dX9_seenAmong_77 : decode cX9_seenAmong 77 = .ok (.ireturn, 1) := by decide +kernel
theorem dX9_seenSomewhere_0 : decode cX9_seenSomewhere 0 = .ok (.iconst 0, 1) := by decide +kernel
theorem dX9_seenSomewhere_1 : decode cX9_seenSomewhere 1 = .ok (.istore_n 3, 1) := by decide +kernel
theorem dX9_seenSomewhere_2 : decode cX9_seenSomewhere 2 = .ok (.iconst 0, 1) := by decide +kernel
theorem dX9_seenSomewhere_3 : decode cX9_seenSomewhere 3 = .ok (.istore 4, 2) := by decide +kernel
theorem dX9_seenSomewhere_5 : decode cX9_seenSomewhere 5 = .ok (.iload 4, 2) := by decide +kernel
theorem dX9_seenSomewhere_7 : decode cX9_seenSomewhere 7 = .ok (.bipush 12, 2) := by decide +kernel
theorem dX9_seenSomewhere_9 : decode cX9_seenSomewhere 9 = .ok (.if_icmp .ge 38, 3) := by decide +kernel
theorem dX9_seenSomewhere_12 : decode cX9_seenSomewhere 12 = .ok (.aload_n 0, 1) := by decide +kernel
theorem dX9_seenSomewhere_13 : decode cX9_seenSomewhere 13 = .ok (.aload_n 1, 1) := by decide +kernel
theorem dX9_seenSomewhere_14 : decode cX9_seenSomewhere 14 = .ok (.aload_n 1, 1) := by decide +kernel
theorem dX9_seenSomewhere_15 : decode cX9_seenSomewhere 15 = .ok (.iload 4, 2) := by decide +kernel
theorem dX9_seenSomewhere_17 : decode cX9_seenSomewhere 17 = .ok (.invokevirtual 100, 3) := by decide +kernel
theorem dX9_seenSomewhere_20 : decode cX9_seenSomewhere 20 = .ok (.iload 4, 2) := by decide +kernel
theorem dX9_seenSomewhere_22 : decode cX9_seenSomewhere 22 = .ok (.iload_n 2, 1) := by decide +kernel
theorem dX9_seenSomewhere_23 : decode cX9_seenSomewhere 23 = .ok (.invokevirtual 103, 3) := by decide +kernel
theorem dX9_seenSomewhere_26 : decode cX9_seenSomewhere 26 = .ok (.istore 5, 2) := by decide +kernel
theorem dX9_seenSomewhere_28 : decode cX9_seenSomewhere 28 = .ok (.iload 5, 2) := by decide +kernel
theorem dX9_seenSomewhere_30 : decode cX9_seenSomewhere 30 = .ok (.iconst (-1), 1) := by decide +kernel
theorem dX9_seenSomewhere_31 : decode cX9_seenSomewhere 31 = .ok (.if_icmp .eq 10, 3) := by decide +kernel
theorem dX9_seenSomewhere_34 : decode cX9_seenSomewhere 34 = .ok (.iload_n 3, 1) := by decide +kernel
theorem dX9_seenSomewhere_35 : decode cX9_seenSomewhere 35 = .ok (.iconst 1, 1) := by decide +kernel
theorem dX9_seenSomewhere_36 : decode cX9_seenSomewhere 36 = .ok (.iload 5, 2) := by decide +kernel
theorem dX9_seenSomewhere_38 : decode cX9_seenSomewhere 38 = .ok (.ishl, 1) := by decide +kernel
theorem dX9_seenSomewhere_39 : decode cX9_seenSomewhere 39 = .ok (.ior, 1) := by decide +kernel
theorem dX9_seenSomewhere_40 : decode cX9_seenSomewhere 40 = .ok (.istore_n 3, 1) := by decide +kernel
theorem dX9_seenSomewhere_41 : decode cX9_seenSomewhere 41 = .ok (.iinc 4 1, 3) := by decide +kernel
theorem dX9_seenSomewhere_44 : decode cX9_seenSomewhere 44 = .ok (.goto (-39), 3) := by decide +kernel
theorem dX9_seenSomewhere_47 : decode cX9_seenSomewhere 47 = .ok (.iload_n 3, 1) := by decide +kernel
theorem dX9_seenSomewhere_48 : decode cX9_seenSomewhere 48 = .ok (.ireturn, 1) := by decide +kernel
theorem dX9_hailOnAll_0 : decode cX9_hailOnAll 0 = .ok (.iconst 0, 1) := by decide +kernel
theorem dX9_hailOnAll_1 : decode cX9_hailOnAll 1 = .ok (.istore_n 2, 1) := by decide +kernel
theorem dX9_hailOnAll_2 : decode cX9_hailOnAll 2 = .ok (.iconst 0, 1) := by decide +kernel
theorem dX9_hailOnAll_3 : decode cX9_hailOnAll 3 = .ok (.istore_n 3, 1) := by decide +kernel
theorem dX9_hailOnAll_4 : decode cX9_hailOnAll 4 = .ok (.iload_n 3, 1) := by decide +kernel
theorem dX9_hailOnAll_5 : decode cX9_hailOnAll 5 = .ok (.aload_n 0, 1) := by decide +kernel
theorem dX9_hailOnAll_6 : decode cX9_hailOnAll 6 = .ok (.getfield 17, 3) := by decide +kernel
theorem dX9_hailOnAll_9 : decode cX9_hailOnAll 9 = .ok (.if_icmp .ge 40, 3) := by decide +kernel
theorem dX9_hailOnAll_12 : decode cX9_hailOnAll 12 = .ok (.iconst 0, 1) := by decide +kernel
theorem dX9_hailOnAll_13 : decode cX9_hailOnAll 13 = .ok (.istore 4, 2) := by decide +kernel
theorem dX9_hailOnAll_15 : decode cX9_hailOnAll 15 = .ok (.iload 4, 2) := by decide +kernel
theorem dX9_hailOnAll_17 : decode cX9_hailOnAll 17 = .ok (.bipush 12, 2) := by decide +kernel
theorem dX9_hailOnAll_19 : decode cX9_hailOnAll 19 = .ok (.if_icmp .ge 24, 3) := by decide +kernel
theorem dX9_hailOnAll_22 : decode cX9_hailOnAll 22 = .ok (.iload_n 2, 1) := by decide +kernel
theorem dX9_hailOnAll_23 : decode cX9_hailOnAll 23 = .ok (.aload_n 0, 1) := by decide +kernel
theorem dX9_hailOnAll_24 : decode cX9_hailOnAll 24 = .ok (.getfield 11, 3) := by decide +kernel
theorem dX9_hailOnAll_27 : decode cX9_hailOnAll 27 = .ok (.iload_n 3, 1) := by decide +kernel
theorem dX9_hailOnAll_28 : decode cX9_hailOnAll 28 = .ok (.aaload, 1) := by decide +kernel
theorem dX9_hailOnAll_29 : decode cX9_hailOnAll 29 = .ok (.iload 4, 2) := by decide +kernel
theorem dX9_hailOnAll_31 : decode cX9_hailOnAll 31 = .ok (.iload_n 1, 1) := by decide +kernel
theorem dX9_hailOnAll_32 : decode cX9_hailOnAll 32 = .ok (.invokevirtual 107, 3) := by decide +kernel
theorem dX9_hailOnAll_35 : decode cX9_hailOnAll 35 = .ok (.iadd, 1) := by decide +kernel
theorem dX9_hailOnAll_36 : decode cX9_hailOnAll 36 = .ok (.istore_n 2, 1) := by decide +kernel
theorem dX9_hailOnAll_37 : decode cX9_hailOnAll 37 = .ok (.iinc 4 1, 3) := by decide +kernel
theorem dX9_hailOnAll_40 : decode cX9_hailOnAll 40 = .ok (.goto (-25), 3) := by decide +kernel
theorem dX9_hailOnAll_43 : decode cX9_hailOnAll 43 = .ok (.iinc 3 1, 3) := by decide +kernel
theorem dX9_hailOnAll_46 : decode cX9_hailOnAll 46 = .ok (.goto (-42), 3) := by decide +kernel
theorem dX9_hailOnAll_49 : decode cX9_hailOnAll 49 = .ok (.iload_n 2, 1) := by decide +kernel
theorem dX9_hailOnAll_50 : decode cX9_hailOnAll 50 = .ok (.ireturn, 1) := by decide +kernel
theorem dX9_letFall_0 : decode cX9_letFall 0 = .ok (.iconst 0, 1) := by decide +kernel
theorem dX9_letFall_1 : decode cX9_letFall 1 = .ok (.istore_n 1, 1) := by decide +kernel
theorem dX9_letFall_2 : decode cX9_letFall 2 = .ok (.iconst 0, 1) := by decide +kernel
theorem dX9_letFall_3 : decode cX9_letFall 3 = .ok (.istore_n 2, 1) := by decide +kernel
theorem dX9_letFall_4 : decode cX9_letFall 4 = .ok (.iload_n 2, 1) := by decide +kernel
theorem dX9_letFall_5 : decode cX9_letFall 5 = .ok (.aload_n 0, 1) := by decide +kernel
theorem dX9_letFall_6 : decode cX9_letFall 6 = .ok (.getfield 17, 3) := by decide +kernel
theorem dX9_letFall_9 : decode cX9_letFall 9 = .ok (.if_icmp .ge 50, 3) := by decide +kernel
theorem dX9_letFall_12 : decode cX9_letFall 12 = .ok (.aload_n 0, 1) := by decide +kernel
theorem dX9_letFall_13 : decode cX9_letFall 13 = .ok (.getfield 11, 3) := by decide +kernel
theorem dX9_letFall_16 : decode cX9_letFall 16 = .ok (.iload_n 2, 1) := by decide +kernel
theorem dX9_letFall_17 : decode cX9_letFall 17 = .ok (.aaload, 1) := by decide +kernel
theorem dX9_letFall_18 : decode cX9_letFall 18 = .ok (.invokevirtual 110, 3) := by decide +kernel
theorem dX9_letFall_21 : decode cX9_letFall 21 = .ok (.aload_n 0, 1) := by decide +kernel
theorem dX9_letFall_22 : decode cX9_letFall 22 = .ok (.getfield 28, 3) := by decide +kernel
theorem dX9_letFall_25 : decode cX9_letFall 25 = .ok (.if_icmp .le 28, 3) := by decide +kernel
theorem dX9_letFall_28 : decode cX9_letFall 28 = .ok (.aload_n 0, 1) := by decide +kernel
theorem dX9_letFall_29 : decode cX9_letFall 29 = .ok (.getfield 11, 3) := by decide +kernel
theorem dX9_letFall_32 : decode cX9_letFall 32 = .ok (.iload_n 2, 1) := by decide +kernel
theorem dX9_letFall_33 : decode cX9_letFall 33 = .ok (.aaload, 1) := by decide +kernel
theorem dX9_letFall_34 : decode cX9_letFall 34 = .ok (.invokevirtual 64, 3) := by decide +kernel
theorem dX9_letFall_37 : decode cX9_letFall 37 = .ok (.iload_n 1, 1) := by decide +kernel
theorem dX9_letFall_38 : decode cX9_letFall 38 = .ok (.iconst 1, 1) := by decide +kernel
theorem dX9_letFall_39 : decode cX9_letFall 39 = .ok (.iload_n 2, 1) := by decide +kernel
theorem dX9_letFall_40 : decode cX9_letFall 40 = .ok (.ishl, 1) := by decide +kernel
theorem dX9_letFall_41 : decode cX9_letFall 41 = .ok (.ior, 1) := by decide +kernel
theorem dX9_letFall_42 : decode cX9_letFall 42 = .ok (.istore_n 1, 1) := by decide +kernel
theorem dX9_letFall_43 : decode cX9_letFall 43 = .ok (.aload_n 0, 1) := by decide +kernel
theorem dX9_letFall_44 : decode cX9_letFall 44 = .ok (.dup, 1) := by decide +kernel
theorem dX9_letFall_45 : decode cX9_letFall 45 = .ok (.getfield 37, 3) := by decide +kernel
theorem dX9_letFall_48 : decode cX9_letFall 48 = .ok (.iconst 1, 1) := by decide +kernel
theorem dX9_letFall_49 : decode cX9_letFall 49 = .ok (.iadd, 1) := by decide +kernel
theorem dX9_letFall_50 : decode cX9_letFall 50 = .ok (.putfield 37, 3) := by decide +kernel
theorem dX9_letFall_53 : decode cX9_letFall 53 = .ok (.iinc 2 1, 3) := by decide +kernel
theorem dX9_letFall_56 : decode cX9_letFall 56 = .ok (.goto (-52), 3) := by decide +kernel
theorem dX9_letFall_59 : decode cX9_letFall 59 = .ok (.iload_n 1, 1) := by decide +kernel
theorem dX9_letFall_60 : decode cX9_letFall 60 = .ok (.ireturn, 1) := by decide +kernel
theorem dX9_draw_0 : decode cX9_draw 0 = .ok (.aload_n 0, 1) := by decide +kernel
theorem dX9_draw_1 : decode cX9_draw 1 = .ok (.aload_n 0, 1) := by decide +kernel
theorem dX9_draw_2 : decode cX9_draw 2 = .ok (.getfield 40, 3) := by decide +kernel
theorem dX9_draw_5 : decode cX9_draw 5 = .ok (.ldc 114, 2) := by decide +kernel
theorem dX9_draw_7 : decode cX9_draw 7 = .ok (.imul, 1) := by decide +kernel
theorem dX9_draw_8 : decode cX9_draw 8 = .ok (.sipush 12345, 3) := by decide +kernel
theorem dX9_draw_11 : decode cX9_draw 11 = .ok (.iadd, 1) := by decide +kernel
theorem dX9_draw_12 : decode cX9_draw 12 = .ok (.putfield 40, 3) := by decide +kernel
theorem dX9_draw_15 : decode cX9_draw 15 = .ok (.iload_n 1, 1) := by decide +kernel
theorem dX9_draw_16 : decode cX9_draw 16 = .ok (.ifCond .le 15, 3) := by decide +kernel
theorem dX9_draw_19 : decode cX9_draw 19 = .ok (.aload_n 0, 1) := by decide +kernel
theorem dX9_draw_20 : decode cX9_draw 20 = .ok (.getfield 40, 3) := by decide +kernel
theorem dX9_draw_23 : decode cX9_draw 23 = .ok (.bipush 16, 2) := by decide +kernel
theorem dX9_draw_25 : decode cX9_draw 25 = .ok (.iushr, 1) := by decide +kernel
theorem dX9_draw_26 : decode cX9_draw 26 = .ok (.iload_n 1, 1) := by decide +kernel
theorem dX9_draw_27 : decode cX9_draw 27 = .ok (.irem, 1) := by decide +kernel
theorem dX9_draw_28 : decode cX9_draw 28 = .ok (.goto 4, 3) := by decide +kernel
theorem dX9_draw_31 : decode cX9_draw 31 = .ok (.iconst 0, 1) := by decide +kernel
theorem dX9_draw_32 : decode cX9_draw 32 = .ok (.ireturn, 1) := by decide +kernel
theorem dX9_passYear_0 : decode cX9_passYear 0 = .ok (.aload_n 0, 1) := by decide +kernel
theorem dX9_passYear_1 : decode cX9_passYear 1 = .ok (.aload_n 0, 1) := by decide +kernel
theorem dX9_passYear_2 : decode cX9_passYear 2 = .ok (.getfield 17, 3) := by decide +kernel
theorem dX9_passYear_5 : decode cX9_passYear 5 = .ok (.invokevirtual 115, 3) := by decide +kernel
theorem dX9_passYear_8 : decode cX9_passYear 8 = .ok (.istore_n 1, 1) := by decide +kernel
theorem dX9_passYear_9 : decode cX9_passYear 9 = .ok (.aload_n 0, 1) := by decide +kernel
theorem dX9_passYear_10 : decode cX9_passYear 10 = .ok (.bipush 8, 2) := by decide +kernel
theorem dX9_passYear_12 : decode cX9_passYear 12 = .ok (.invokevirtual 115, 3) := by decide +kernel
theorem dX9_passYear_15 : decode cX9_passYear 15 = .ok (.istore_n 2, 1) := by decide +kernel
theorem dX9_passYear_16 : decode cX9_passYear 16 = .ok (.aload_n 0, 1) := by decide +kernel
theorem dX9_passYear_17 : decode cX9_passYear 17 = .ok (.bipush 6, 2) := by decide +kernel
theorem dX9_passYear_19 : decode cX9_passYear 19 = .ok (.invokevirtual 115, 3) := by decide +kernel
theorem dX9_passYear_22 : decode cX9_passYear 22 = .ok (.istore_n 3, 1) := by decide +kernel
theorem dX9_passYear_23 : decode cX9_passYear 23 = .ok (.aload_n 0, 1) := by decide +kernel
theorem dX9_passYear_24 : decode cX9_passYear 24 = .ok (.bipush 9, 2) := by decide +kernel
theorem dX9_passYear_26 : decode cX9_passYear 26 = .ok (.invokevirtual 115, 3) := by decide +kernel
theorem dX9_passYear_29 : decode cX9_passYear 29 = .ok (.iconst 1, 1) := by decide +kernel
theorem dX9_passYear_30 : decode cX9_passYear 30 = .ok (.iadd, 1) := by decide +kernel
theorem dX9_passYear_31 : decode cX9_passYear 31 = .ok (.istore 4, 2) := by decide +kernel
theorem dX9_passYear_33 : decode cX9_passYear 33 = .ok (.aload_n 0, 1) := by decide +kernel
theorem dX9_passYear_34 : decode cX9_passYear 34 = .ok (.bipush 12, 2) := by decide +kernel
theorem dX9_passYear_36 : decode cX9_passYear 36 = .ok (.invokevirtual 115, 3) := by decide +kernel
theorem dX9_passYear_39 : decode cX9_passYear 39 = .ok (.istore 5, 2) := by decide +kernel
theorem dX9_passYear_41 : decode cX9_passYear 41 = .ok (.iload_n 1, 1) := by decide +kernel
theorem dX9_passYear_42 : decode cX9_passYear 42 = .ok (.aload_n 0, 1) := by decide +kernel
theorem dX9_passYear_43 : decode cX9_passYear 43 = .ok (.getfield 17, 3) := by decide +kernel
theorem dX9_passYear_46 : decode cX9_passYear 46 = .ok (.if_icmp .ge 23, 3) := by decide +kernel
theorem dX9_passYear_49 : decode cX9_passYear 49 = .ok (.aload_n 0, 1) := by decide +kernel
theorem dX9_passYear_50 : decode cX9_passYear 50 = .ok (.getfield 11, 3) := by decide +kernel
theorem dX9_passYear_53 : decode cX9_passYear 53 = .ok (.iload_n 1, 1) := by decide +kernel
theorem dX9_passYear_54 : decode cX9_passYear 54 = .ok (.aaload, 1) := by decide +kernel
theorem dX9_passYear_55 : decode cX9_passYear 55 = .ok (.iload_n 2, 1) := by decide +kernel
theorem dX9_passYear_56 : decode cX9_passYear 56 = .ok (.iload_n 3, 1) := by decide +kernel
theorem dX9_passYear_57 : decode cX9_passYear 57 = .ok (.iload 4, 2) := by decide +kernel
theorem dX9_passYear_59 : decode cX9_passYear 59 = .ok (.iload 5, 2) := by decide +kernel
theorem dX9_passYear_61 : decode cX9_passYear 61 = .ok (.aload_n 0, 1) := by decide +kernel
theorem dX9_passYear_62 : decode cX9_passYear 62 = .ok (.getfield 34, 3) := by decide +kernel
theorem dX9_passYear_65 : decode cX9_passYear 65 = .ok (.invokevirtual 118, 3) := by decide +kernel
theorem dX9_passYear_68 : decode cX9_passYear 68 = .ok (.pop, 1) := by decide +kernel
theorem dX9_passYear_69 : decode cX9_passYear 69 = .ok (.aload_n 0, 1) := by decide +kernel
theorem dX9_passYear_70 : decode cX9_passYear 70 = .ok (.aload_n 0, 1) := by decide +kernel
theorem dX9_passYear_71 : decode cX9_passYear 71 = .ok (.bipush 8, 2) := by decide +kernel
theorem dX9_passYear_73 : decode cX9_passYear 73 = .ok (.invokevirtual 115, 3) := by decide +kernel
theorem dX9_passYear_76 : decode cX9_passYear 76 = .ok (.invokevirtual 122, 3) := by decide +kernel
theorem dX9_passYear_79 : decode cX9_passYear 79 = .ok (.pop, 1) := by decide +kernel
theorem dX9_passYear_80 : decode cX9_passYear 80 = .ok (.aload_n 0, 1) := by decide +kernel
theorem dX9_passYear_81 : decode cX9_passYear 81 = .ok (.invokevirtual 125, 3) := by decide +kernel
theorem dX9_passYear_84 : decode cX9_passYear 84 = .ok (.pop, 1) := by decide +kernel
theorem dX9_passYear_85 : decode cX9_passYear 85 = .ok (.aload_n 0, 1) := by decide +kernel
theorem dX9_passYear_86 : decode cX9_passYear 86 = .ok (.dup, 1) := by decide +kernel
theorem dX9_passYear_87 : decode cX9_passYear 87 = .ok (.getfield 34, 3) := by decide +kernel
theorem dX9_passYear_90 : decode cX9_passYear 90 = .ok (.iconst 1, 1) := by decide +kernel
theorem dX9_passYear_91 : decode cX9_passYear 91 = .ok (.iadd, 1) := by decide +kernel
theorem dX9_passYear_92 : decode cX9_passYear 92 = .ok (.putfield 34, 3) := by decide +kernel
theorem dX9_passYear_95 : decode cX9_passYear 95 = .ok (.return_, 1) := by decide +kernel
theorem dX10_init_0 : decode cX10_init 0 = .ok (.aload_n 0, 1) := by decide +kernel
theorem dX10_init_1 : decode cX10_init 1 = .ok (.invokespecial 3, 3) := by decide +kernel
theorem dX10_init_4 : decode cX10_init 4 = .ok (.aload_n 0, 1) := by decide +kernel
theorem dX10_init_5 : decode cX10_init 5 = .ok (.iconst 0, 1) := by decide +kernel
theorem dX10_init_6 : decode cX10_init 6 = .ok (.putfield 9, 3) := by decide +kernel
theorem dX10_init_9 : decode cX10_init 9 = .ok (.aload_n 0, 1) := by decide +kernel
theorem dX10_init_10 : decode cX10_init 10 = .ok (.iconst 0, 1) := by decide +kernel
theorem dX10_init_11 : decode cX10_init 11 = .ok (.putfield 15, 3) := by decide +kernel
theorem dX10_init_14 : decode cX10_init 14 = .ok (.aload_n 0, 1) := by decide +kernel
theorem dX10_init_15 : decode cX10_init 15 = .ok (.iconst 0, 1) := by decide +kernel
theorem dX10_init_16 : decode cX10_init 16 = .ok (.putfield 18, 3) := by decide +kernel
theorem dX10_init_19 : decode cX10_init 19 = .ok (.aload_n 0, 1) := by decide +kernel
theorem dX10_init_20 : decode cX10_init 20 = .ok (.bipush 20, 2) := by decide +kernel
theorem dX10_init_22 : decode cX10_init 22 = .ok (.newarray .int, 2) := by decide +kernel
theorem dX10_init_24 : decode cX10_init 24 = .ok (.putfield 21, 3) := by decide +kernel
theorem dX10_init_27 : decode cX10_init 27 = .ok (.return_, 1) := by decide +kernel
theorem dX10_begin_0 : decode cX10_begin 0 = .ok (.aload_n 0, 1) := by decide +kernel
theorem dX10_begin_1 : decode cX10_begin 1 = .ok (.getfield 18, 3) := by decide +kernel
theorem dX10_begin_4 : decode cX10_begin 4 = .ok (.bipush 20, 2) := by decide +kernel
theorem dX10_begin_6 : decode cX10_begin 6 = .ok (.if_icmp .ge 13, 3) := by decide +kernel
theorem dX10_begin_9 : decode cX10_begin 9 = .ok (.aload_n 0, 1) := by decide +kernel
theorem dX10_begin_10 : decode cX10_begin 10 = .ok (.getfield 21, 3) := by decide +kernel
theorem dX10_begin_13 : decode cX10_begin 13 = .ok (.aload_n 0, 1) := by decide +kernel
theorem dX10_begin_14 : decode cX10_begin 14 = .ok (.getfield 18, 3) := by decide +kernel
theorem dX10_begin_17 : decode cX10_begin 17 = .ok (.iload_n 1, 1) := by decide +kernel
theorem dX10_begin_18 : decode cX10_begin 18 = .ok (.iastore, 1) := by decide +kernel
theorem dX10_begin_19 : decode cX10_begin 19 = .ok (.aload_n 0, 1) := by decide +kernel
theorem dX10_begin_20 : decode cX10_begin 20 = .ok (.dup, 1) := by decide +kernel
theorem dX10_begin_21 : decode cX10_begin 21 = .ok (.getfield 18, 3) := by decide +kernel
theorem dX10_begin_24 : decode cX10_begin 24 = .ok (.iconst 1, 1) := by decide +kernel
theorem dX10_begin_25 : decode cX10_begin 25 = .ok (.iadd, 1) := by decide +kernel
theorem dX10_begin_26 : decode cX10_begin 26 = .ok (.putfield 18, 3) := by decide +kernel
theorem dX10_begin_29 : decode cX10_begin 29 = .ok (.return_, 1) := by decide +kernel
theorem dX11_init_0 : decode cX11_init 0 = .ok (.aload_n 0, 1) := by decide +kernel
theorem dX11_init_1 : decode cX11_init 1 = .ok (.invokespecial 1, 3) := by decide +kernel
theorem dX11_init_4 : decode cX11_init 4 = .ok (.aload_n 0, 1) := by decide +kernel
theorem dX11_init_5 : decode cX11_init 5 = .ok (.bipush 8, 2) := by decide +kernel
theorem dX11_init_7 : decode cX11_init 7 = .ok (.newarray .int, 2) := by decide +kernel
theorem dX11_init_9 : decode cX11_init 9 = .ok (.putfield 9, 3) := by decide +kernel
theorem dX11_init_12 : decode cX11_init 12 = .ok (.aload_n 0, 1) := by decide +kernel
theorem dX11_init_13 : decode cX11_init 13 = .ok (.bipush 8, 2) := by decide +kernel
theorem dX11_init_15 : decode cX11_init 15 = .ok (.newarray .int, 2) := by decide +kernel
theorem dX11_init_17 : decode cX11_init 17 = .ok (.putfield 13, 3) := by decide +kernel
theorem dX11_init_20 : decode cX11_init 20 = .ok (.aload_n 0, 1) := by decide +kernel
theorem dX11_init_21 : decode cX11_init 21 = .ok (.bipush 8, 2) := by decide +kernel
theorem dX11_init_23 : decode cX11_init 23 = .ok (.sipush 160, 3) := by decide +kernel
theorem dX11_init_26 : decode cX11_init 26 = .ok (.multianewarray 16 2, 4) := by decide +kernel
theorem dX11_init_30 : decode cX11_init 30 = .ok (.putfield 18, 3) := by decide +kernel
theorem dX11_init_33 : decode cX11_init 33 = .ok (.aload_n 0, 1) := by decide +kernel
theorem dX11_init_34 : decode cX11_init 34 = .ok (.bipush 8, 2) := by decide +kernel
theorem dX11_init_36 : decode cX11_init 36 = .ok (.newarray .int, 2) := by decide +kernel
theorem dX11_init_38 : decode cX11_init 38 = .ok (.putfield 21, 3) := by decide +kernel
theorem dX11_init_41 : decode cX11_init 41 = .ok (.aload_n 0, 1) := by decide +kernel
theorem dX11_init_42 : decode cX11_init 42 = .ok (.iconst 0, 1) := by decide +kernel
theorem dX11_init_43 : decode cX11_init 43 = .ok (.putfield 24, 3) := by decide +kernel
theorem dX11_init_46 : decode cX11_init 46 = .ok (.aload_n 0, 1) := by decide +kernel
theorem dX11_init_47 : decode cX11_init 47 = .ok (.bipush 8, 2) := by decide +kernel
theorem dX11_init_49 : decode cX11_init 49 = .ok (.newarray .int, 2) := by decide +kernel
theorem dX11_init_51 : decode cX11_init 51 = .ok (.putfield 28, 3) := by decide +kernel
theorem dX11_init_54 : decode cX11_init 54 = .ok (.aload_n 0, 1) := by decide +kernel
theorem dX11_init_55 : decode cX11_init 55 = .ok (.sipush 256, 3) := by decide +kernel
theorem dX11_init_58 : decode cX11_init 58 = .ok (.newarray .int, 2) := by decide +kernel
theorem dX11_init_60 : decode cX11_init 60 = .ok (.putfield 31, 3) := by decide +kernel
theorem dX11_init_63 : decode cX11_init 63 = .ok (.aload_n 0, 1) := by decide +kernel
theorem dX11_init_64 : decode cX11_init 64 = .ok (.iconst 0, 1) := by decide +kernel
theorem dX11_init_65 : decode cX11_init 65 = .ok (.putfield 34, 3) := by decide +kernel
theorem dX11_init_68 : decode cX11_init 68 = .ok (.aload_n 0, 1) := by decide +kernel
theorem dX11_init_69 : decode cX11_init 69 = .ok (.new 38, 3) := by decide +kernel
theorem dX11_init_72 : decode cX11_init 72 = .ok (.dup, 1) := by decide +kernel
theorem dX11_init_73 : decode cX11_init 73 = .ok (.invokespecial 40, 3) := by decide +kernel
theorem dX11_init_76 : decode cX11_init 76 = .ok (.putfield 41, 3) := by decide +kernel
theorem dX11_init_79 : decode cX11_init 79 = .ok (.aload_n 0, 1) := by decide +kernel
theorem dX11_init_80 : decode cX11_init 80 = .ok (.iconst (-1), 1) := by decide +kernel
theorem dX11_init_81 : decode cX11_init 81 = .ok (.putfield 45, 3) := by decide +kernel
theorem dX11_init_84 : decode cX11_init 84 = .ok (.aload_n 0, 1) := by decide +kernel
theorem dX11_init_85 : decode cX11_init 85 = .ok (.new 48, 3) := by decide +kernel
theorem dX11_init_88 : decode cX11_init 88 = .ok (.dup, 1) := by decide +kernel
theorem dX11_init_89 : decode cX11_init 89 = .ok (.invokespecial 50, 3) := by decide +kernel
theorem dX11_init_92 : decode cX11_init 92 = .ok (.putfield 51, 3) := by decide +kernel
theorem dX11_init_95 : decode cX11_init 95 = .ok (.iconst 0, 1) := by decide +kernel
theorem dX11_init_96 : decode cX11_init 96 = .ok (.istore_n 1, 1) := by decide +kernel
theorem dX11_init_97 : decode cX11_init 97 = .ok (.iload_n 1, 1) := by decide +kernel
theorem dX11_init_98 : decode cX11_init 98 = .ok (.bipush 8, 2) := by decide +kernel
theorem dX11_init_100 : decode cX11_init 100 = .ok (.if_icmp .ge 16, 3) := by decide +kernel
theorem dX11_init_103 : decode cX11_init 103 = .ok (.aload_n 0, 1) := by decide +kernel
theorem dX11_init_104 : decode cX11_init 104 = .ok (.getfield 9, 3) := by decide +kernel
theorem dX11_init_107 : decode cX11_init 107 = .ok (.iload_n 1, 1) := by decide +kernel
theorem dX11_init_108 : decode cX11_init 108 = .ok (.iconst (-1), 1) := by decide +kernel
theorem dX11_init_109 : decode cX11_init 109 = .ok (.iastore, 1) := by decide +kernel
theorem dX11_init_110 : decode cX11_init 110 = .ok (.iinc 1 1, 3) := by decide +kernel
theorem dX11_init_113 : decode cX11_init 113 = .ok (.goto (-16), 3) := by decide +kernel
theorem dX11_init_116 : decode cX11_init 116 = .ok (.bipush 7, 2) := by decide +kernel
theorem dX11_init_118 : decode cX11_init 118 = .ok (.anewarray 55, 3) := by decide +kernel
theorem dX11_init_121 : decode cX11_init 121 = .ok (.astore_n 1, 1) := by decide +kernel
theorem dX11_init_122 : decode cX11_init 122 = .ok (.aload_n 1, 1) := by decide +kernel
theorem dX11_init_123 : decode cX11_init 123 = .ok (.iconst 0, 1) := by decide +kernel
theorem dX11_init_124 : decode cX11_init 124 = .ok (.new 55, 3) := by decide +kernel
theorem dX11_init_127 : decode cX11_init 127 = .ok (.dup, 1) := by decide +kernel
theorem dX11_init_128 : decode cX11_init 128 = .ok (.invokespecial 57, 3) := by decide +kernel
theorem dX11_init_131 : decode cX11_init 131 = .ok (.aastore, 1) := by decide +kernel
theorem dX11_init_132 : decode cX11_init 132 = .ok (.aload_n 1, 1) := by decide +kernel
theorem dX11_init_133 : decode cX11_init 133 = .ok (.iconst 1, 1) := by decide +kernel
theorem dX11_init_134 : decode cX11_init 134 = .ok (.new 58, 3) := by decide +kernel
theorem dX11_init_137 : decode cX11_init 137 = .ok (.dup, 1) := by decide +kernel
theorem dX11_init_138 : decode cX11_init 138 = .ok (.invokespecial 60, 3) := by decide +kernel
theorem dX11_init_141 : decode cX11_init 141 = .ok (.aastore, 1) := by decide +kernel
theorem dX11_init_142 : decode cX11_init 142 = .ok (.aload_n 1, 1) := by decide +kernel
theorem dX11_init_143 : decode cX11_init 143 = .ok (.iconst 2, 1) := by decide +kernel
theorem dX11_init_144 : decode cX11_init 144 = .ok (.new 61, 3) := by decide +kernel
theorem dX11_init_147 : decode cX11_init 147 = .ok (.dup, 1) := by decide +kernel
theorem dX11_init_148 : decode cX11_init 148 = .ok (.invokespecial 63, 3) := by decide +kernel
theorem dX11_init_151 : decode cX11_init 151 = .ok (.aastore, 1) := by decide +kernel
theorem dX11_init_152 : decode cX11_init 152 = .ok (.aload_n 1, 1) := by decide +kernel
theorem dX11_init_153 : decode cX11_init 153 = .ok (.iconst 3, 1) := by decide +kernel
theorem dX11_init_154 : decode cX11_init 154 = .ok (.new 64, 3) := by decide +kernel
theorem dX11_init_157 : decode cX11_init 157 = .ok (.dup, 1) := by decide +kernel
theorem dX11_init_158 : decode cX11_init 158 = .ok (.invokespecial 66, 3) := by decide +kernel
theorem dX11_init_161 : decode cX11_init 161 = .ok (.aastore, 1) := by decide +kernel
theorem dX11_init_162 : decode cX11_init 162 = .ok (.aload_n 1, 1) := by decide +kernel
theorem dX11_init_163 : decode cX11_init 163 = .ok (.iconst 4, 1) := by decide +kernel
theorem dX11_init_164 : decode cX11_init 164 = .ok (.new 67, 3) := by decide +kernel
theorem dX11_init_167 : decode cX11_init 167 = .ok (.dup, 1) := by decide +kernel
theorem dX11_init_168 : decode cX11_init 168 = .ok (.invokespecial 69, 3) := by decide +kernel
theorem dX11_init_171 : decode cX11_init 171 = .ok (.aastore, 1) := by decide +kernel
theorem dX11_init_172 : decode cX11_init 172 = .ok (.aload_n 1, 1) := by decide +kernel
theorem dX11_init_173 : decode cX11_init 173 = .ok (.iconst 5, 1) := by decide +kernel
theorem dX11_init_174 : decode cX11_init 174 = .ok (.new 70, 3) := by decide +kernel
theorem dX11_init_177 : decode cX11_init 177 = .ok (.dup, 1) := by decide +kernel
theorem dX11_init_178 : decode cX11_init 178 = .ok (.invokespecial 72, 3) := by decide +kernel
theorem dX11_init_181 : decode cX11_init 181 = .ok (.aastore, 1) := by decide +kernel
theorem dX11_init_182 : decode cX11_init 182 = .ok (.aload_n 1, 1) := by decide +kernel
theorem dX11_init_183 : decode cX11_init 183 = .ok (.bipush 6, 2) := by decide +kernel
theorem dX11_init_185 : decode cX11_init 185 = .ok (.new 73, 3) := by decide +kernel
theorem dX11_init_188 : decode cX11_init 188 = .ok (.dup, 1) := by decide +kernel
theorem dX11_init_189 : decode cX11_init 189 = .ok (.invokespecial 75, 3) := by decide +kernel
theorem dX11_init_192 : decode cX11_init 192 = .ok (.aastore, 1) := by decide +kernel
theorem dX11_init_193 : decode cX11_init 193 = .ok (.aload_n 0, 1) := by decide +kernel
theorem dX11_init_194 : decode cX11_init 194 = .ok (.new 76, 3) := by decide +kernel
theorem dX11_init_197 : decode cX11_init 197 = .ok (.dup, 1) := by decide +kernel
theorem dX11_init_198 : decode cX11_init 198 = .ok (.aload_n 1, 1) := by decide +kernel
theorem dX11_init_199 : decode cX11_init 199 = .ok (.invokespecial 78, 3) := by decide +kernel
theorem dX11_init_202 : decode cX11_init 202 = .ok (.putfield 81, 3) := by decide +kernel
theorem dX11_init_205 : decode cX11_init 205 = .ok (.aload_n 0, 1) := by decide +kernel
theorem dX11_init_206 : decode cX11_init 206 = .ok (.new 76, 3) := by decide +kernel
theorem dX11_init_209 : decode cX11_init 209 = .ok (.dup, 1) := by decide +kernel
theorem dX11_init_210 : decode cX11_init 210 = .ok (.aload_n 1, 1) := by decide +kernel
theorem dX11_init_211 : decode cX11_init 211 = .ok (.invokespecial 78, 3) := by decide +kernel
theorem dX11_init_214 : decode cX11_init 214 = .ok (.putfield 85, 3) := by decide +kernel
theorem dX11_init_217 : decode cX11_init 217 = .ok (.aload_n 0, 1) := by decide +kernel
theorem dX11_init_218 : decode cX11_init 218 = .ok (.new 76, 3) := by decide +kernel
theorem dX11_init_221 : decode cX11_init 221 = .ok (.dup, 1) := by decide +kernel
theorem dX11_init_222 : decode cX11_init 222 = .ok (.aload_n 1, 1) := by decide +kernel
theorem dX11_init_223 : decode cX11_init 223 = .ok (.invokespecial 78, 3) := by decide +kernel
theorem dX11_init_226 : decode cX11_init 226 = .ok (.putfield 88, 3) := by decide +kernel
theorem dX11_init_229 : decode cX11_init 229 = .ok (.return_, 1) := by decide +kernel
theorem dX11_row_0 : decode cX11_row 0 = .ok (.iload_n 1, 1) := by decide +kernel
theorem dX11_row_1 : decode cX11_row 1 = .ok (.bipush 8, 2) := by decide +kernel
theorem dX11_row_3 : decode cX11_row 3 = .ok (.invokestatic 91, 3) := by decide +kernel
theorem dX11_row_6 : decode cX11_row 6 = .ok (.ifCond .eq 9, 3) := by decide +kernel
theorem dX11_row_9 : decode cX11_row 9 = .ok (.aload_n 0, 1) := by decide +kernel
theorem dX11_row_10 : decode cX11_row 10 = .ok (.iconst 1, 1) := by decide +kernel
theorem dX11_row_11 : decode cX11_row 11 = .ok (.invokevirtual 95, 3) := by decide +kernel
theorem dX11_row_14 : decode cX11_row 14 = .ok (.ireturn, 1) := by decide +kernel
theorem dX11_row_15 : decode cX11_row 15 = .ok (.iload_n 3, 1) := by decide +kernel
theorem dX11_row_16 : decode cX11_row 16 = .ok (.ifCond .ge 9, 3) := by decide +kernel
theorem dX11_row_19 : decode cX11_row 19 = .ok (.aload_n 0, 1) := by decide +kernel
theorem dX11_row_20 : decode cX11_row 20 = .ok (.iconst 4, 1) := by decide +kernel
theorem dX11_row_21 : decode cX11_row 21 = .ok (.invokevirtual 95, 3) := by decide +kernel
theorem dX11_row_24 : decode cX11_row 24 = .ok (.ireturn, 1) := by decide +kernel
theorem dX11_row_25 : decode cX11_row 25 = .ok (.iload_n 2, 1) := by decide +kernel
theorem dX11_row_26 : decode cX11_row 26 = .ok (.iconst 4, 1) := by decide +kernel
theorem dX11_row_27 : decode cX11_row 27 = .ok (.invokestatic 91, 3) := by decide +kernel
theorem dX11_row_30 : decode cX11_row 30 = .ok (.ifCond .eq 10, 3) := by decide +kernel
theorem dX11_row_33 : decode cX11_row 33 = .ok (.aload_n 0, 1) := by decide +kernel
theorem dX11_row_34 : decode cX11_row 34 = .ok (.bipush 6, 2) := by decide +kernel
theorem dX11_row_36 : decode cX11_row 36 = .ok (.invokevirtual 95, 3) := by decide +kernel
theorem dX11_row_39 : decode cX11_row 39 = .ok (.ireturn, 1) := by decide +kernel
theorem dX11_row_40 : decode cX11_row 40 = .ok (.iload_n 3, 1) := by decide +kernel
theorem dX11_row_41 : decode cX11_row 41 = .ok (.sipush 160, 3) := by decide +kernel
theorem dX11_row_44 : decode cX11_row 44 = .ok (.if_icmp .le 10, 3) := by decide +kernel
theorem dX11_row_47 : decode cX11_row 47 = .ok (.aload_n 0, 1) := by decide +kernel
theorem dX11_row_48 : decode cX11_row 48 = .ok (.bipush 7, 2) := by decide +kernel
theorem dX11_row_50 : decode cX11_row 50 = .ok (.invokevirtual 95, 3) := by decide +kernel
theorem dX11_row_53 : decode cX11_row 53 = .ok (.ireturn, 1) := by decide +kernel
theorem dX11_row_54 : decode cX11_row 54 = .ok (.aload_n 0, 1) := by decide +kernel
theorem dX11_row_55 : decode cX11_row 55 = .ok (.getfield 9, 3) := by decide +kernel
theorem dX11_row_58 : decode cX11_row 58 = .ok (.iload_n 1, 1) := by decide +kernel
theorem dX11_row_59 : decode cX11_row 59 = .ok (.bipush 100, 2) := by decide +kernel
theorem dX11_row_61 : decode cX11_row 61 = .ok (.iload_n 2, 1) := by decide +kernel
theorem dX11_row_62 : decode cX11_row 62 = .ok (.iadd, 1) := by decide +kernel
theorem dX11_row_63 : decode cX11_row 63 = .ok (.iastore, 1) := by decide +kernel
theorem dX11_row_64 : decode cX11_row 64 = .ok (.aload_n 0, 1) := by decide +kernel
theorem dX11_row_65 : decode cX11_row 65 = .ok (.getfield 13, 3) := by decide +kernel
theorem dX11_row_68 : decode cX11_row 68 = .ok (.iload_n 1, 1) := by decide +kernel
theorem dX11_row_69 : decode cX11_row 69 = .ok (.iload_n 3, 1) := by decide +kernel
theorem dX11_row_70 : decode cX11_row 70 = .ok (.iastore, 1) := by decide +kernel
theorem dX11_row_71 : decode cX11_row 71 = .ok (.iconst 0, 1) := by decide +kernel
theorem dX11_row_72 : decode cX11_row 72 = .ok (.istore 4, 2) := by decide +kernel
theorem dX11_row_74 : decode cX11_row 74 = .ok (.iload 4, 2) := by decide +kernel
theorem dX11_row_76 : decode cX11_row 76 = .ok (.iload_n 3, 1) := by decide +kernel
theorem dX11_row_77 : decode cX11_row 77 = .ok (.if_icmp .ge 19, 3) := by decide +kernel
theorem dX11_row_80 : decode cX11_row 80 = .ok (.aload_n 0, 1) := by decide +kernel
theorem dX11_row_81 : decode cX11_row 81 = .ok (.getfield 18, 3) := by decide +kernel
theorem dX11_row_84 : decode cX11_row 84 = .ok (.iload_n 1, 1) := by decide +kernel
theorem dX11_row_85 : decode cX11_row 85 = .ok (.aaload, 1) := by decide +kernel
theorem dX11_row_86 : decode cX11_row 86 = .ok (.iload 4, 2) := by decide +kernel
theorem dX11_row_88 : decode cX11_row 88 = .ok (.lconst 0, 1) := by decide +kernel
theorem dX11_row_89 : decode cX11_row 89 = .ok (.lastore, 1) := by decide +kernel
theorem dX11_row_90 : decode cX11_row 90 = .ok (.iinc 4 1, 3) := by decide +kernel
theorem dX11_row_93 : decode cX11_row 93 = .ok (.goto (-19), 3) := by decide +kernel
theorem dX11_row_96 : decode cX11_row 96 = .ok (.iconst 1, 1) := by decide +kernel
theorem dX11_row_97 : decode cX11_row 97 = .ok (.ireturn, 1) := by decide +kernel
theorem dX11_set_0 : decode cX11_set 0 = .ok (.aload_n 0, 1) := by decide +kernel
theorem dX11_set_1 : decode cX11_set 1 = .ok (.iload_n 1, 1) := by decide +kernel
theorem dX11_set_2 : decode cX11_set 2 = .ok (.invokevirtual 99, 3) := by decide +kernel
theorem dX11_set_5 : decode cX11_set 5 = .ok (.istore 5, 2) := by decide +kernel
theorem dX11_set_7 : decode cX11_set 7 = .ok (.iload 5, 2) := by decide +kernel
theorem dX11_set_9 : decode cX11_set 9 = .ok (.ifCond .eq 10, 3) := by decide +kernel
theorem dX11_set_12 : decode cX11_set 12 = .ok (.aload_n 0, 1) := by decide +kernel
theorem dX11_set_13 : decode cX11_set 13 = .ok (.iload 5, 2) := by decide +kernel
theorem dX11_set_15 : decode cX11_set 15 = .ok (.invokevirtual 95, 3) := by decide +kernel
theorem dX11_set_18 : decode cX11_set 18 = .ok (.ireturn, 1) := by decide +kernel
theorem dX11_set_19 : decode cX11_set 19 = .ok (.iload_n 2, 1) := by decide +kernel
theorem dX11_set_20 : decode cX11_set 20 = .ok (.aload_n 0, 1) := by decide +kernel
theorem dX11_set_21 : decode cX11_set 21 = .ok (.getfield 13, 3) := by decide +kernel
theorem dX11_set_24 : decode cX11_set 24 = .ok (.iload_n 1, 1) := by decide +kernel
theorem dX11_set_25 : decode cX11_set 25 = .ok (.iaload, 1) := by decide +kernel
theorem dX11_set_26 : decode cX11_set 26 = .ok (.invokestatic 91, 3) := by decide +kernel
theorem dX11_set_29 : decode cX11_set 29 = .ok (.ifCond .eq 9, 3) := by decide +kernel
theorem dX11_set_32 : decode cX11_set 32 = .ok (.aload_n 0, 1) := by decide +kernel
theorem dX11_set_33 : decode cX11_set 33 = .ok (.iconst 5, 1) := by decide +kernel
theorem dX11_set_34 : decode cX11_set 34 = .ok (.invokevirtual 95, 3) := by decide +kernel
theorem dX11_set_37 : decode cX11_set 37 = .ok (.ireturn, 1) := by decide +kernel
theorem dX11_set_38 : decode cX11_set 38 = .ok (.aload_n 0, 1) := by decide +kernel
theorem dX11_set_39 : decode cX11_set 39 = .ok (.getfield 18, 3) := by decide +kernel
theorem dX11_set_42 : decode cX11_set 42 = .ok (.iload_n 1, 1) := by decide +kernel
theorem dX11_set_43 : decode cX11_set 43 = .ok (.aaload, 1) := by decide +kernel
theorem dX11_set_44 : decode cX11_set 44 = .ok (.iload_n 2, 1) := by decide +kernel
theorem dX11_set_45 : decode cX11_set 45 = .ok (.aload_n 0, 1) := by decide +kernel
theorem dX11_set_46 : decode cX11_set 46 = .ok (.getfield 9, 3) := by decide +kernel
theorem dX11_set_49 : decode cX11_set 49 = .ok (.iload_n 1, 1) := by decide +kernel
theorem dX11_set_50 : decode cX11_set 50 = .ok (.iaload, 1) := by decide +kernel
theorem dX11_set_51 : decode cX11_set 51 = .ok (.bipush 100, 2) := by decide +kernel
theorem dX11_set_53 : decode cX11_set 53 = .ok (.isub, 1) := by decide +kernel
theorem dX11_set_54 : decode cX11_set 54 = .ok (.lload_n 3, 1) := by decide +kernel
theorem dX11_set_55 : decode cX11_set 55 = .ok (.invokestatic 102, 3) := by decide +kernel
theorem dX11_set_58 : decode cX11_set 58 = .ok (.lastore, 1) := by decide +kernel
theorem dX11_set_59 : decode cX11_set 59 = .ok (.iconst 1, 1) := by decide +kernel
theorem dX11_set_60 : decode cX11_set 60 = .ok (.ireturn, 1) := by decide +kernel
theorem dX11_copy_0 : decode cX11_copy 0 = .ok (.iload_n 1, 1) := by decide +kernel
theorem dX11_copy_1 : decode cX11_copy 1 = .ok (.bipush 8, 2) := by decide +kernel
theorem dX11_copy_3 : decode cX11_copy 3 = .ok (.invokestatic 91, 3) := by decide +kernel
theorem dX11_copy_6 : decode cX11_copy 6 = .ok (.ifCond .ne 12, 3) := by decide +kernel
theorem dX11_copy_9 : decode cX11_copy 9 = .ok (.iload_n 2, 1) := by decide +kernel
theorem dX11_copy_10 : decode cX11_copy 10 = .ok (.bipush 8, 2) := by decide +kernel
theorem dX11_copy_12 : decode cX11_copy 12 = .ok (.invokestatic 91, 3) := by decide +kernel
theorem dX11_copy_15 : decode cX11_copy 15 = .ok (.ifCond .eq 9, 3) := by decide +kernel
theorem dX11_copy_18 : decode cX11_copy 18 = .ok (.aload_n 0, 1) := by decide +kernel
theorem dX11_copy_19 : decode cX11_copy 19 = .ok (.iconst 1, 1) := by decide +kernel
theorem dX11_copy_20 : decode cX11_copy 20 = .ok (.invokevirtual 95, 3) := by decide +kernel
theorem dX11_copy_23 : decode cX11_copy 23 = .ok (.ireturn, 1) := by decide +kernel
theorem dX11_copy_24 : decode cX11_copy 24 = .ok (.aload_n 0, 1) := by decide +kernel
theorem dX11_copy_25 : decode cX11_copy 25 = .ok (.iload_n 1, 1) := by decide +kernel
theorem dX11_copy_26 : decode cX11_copy 26 = .ok (.invokevirtual 106, 3) := by decide +kernel
theorem dX11_copy_29 : decode cX11_copy 29 = .ok (.ifCond .ne 42, 3) := by decide +kernel
theorem dX11_copy_32 : decode cX11_copy 32 = .ok (.aload_n 0, 1) := by decide +kernel
theorem dX11_copy_33 : decode cX11_copy 33 = .ok (.iload_n 2, 1) := by decide +kernel
theorem dX11_copy_34 : decode cX11_copy 34 = .ok (.invokevirtual 106, 3) := by decide +kernel
theorem dX11_copy_37 : decode cX11_copy 37 = .ok (.ifCond .ne 34, 3) := by decide +kernel
theorem dX11_copy_40 : decode cX11_copy 40 = .ok (.aload_n 0, 1) := by decide +kernel
theorem dX11_copy_41 : decode cX11_copy 41 = .ok (.iload_n 1, 1) := by decide +kernel
theorem dX11_copy_42 : decode cX11_copy 42 = .ok (.invokevirtual 110, 3) := by decide +kernel
theorem dX11_copy_45 : decode cX11_copy 45 = .ok (.ifCond .eq 32, 3) := by decide +kernel
theorem dX11_copy_48 : decode cX11_copy 48 = .ok (.aload_n 0, 1) := by decide +kernel
theorem dX11_copy_49 : decode cX11_copy 49 = .ok (.iload_n 2, 1) := by decide +kernel
theorem dX11_copy_50 : decode cX11_copy 50 = .ok (.invokevirtual 110, 3) := by decide +kernel
theorem dX11_copy_53 : decode cX11_copy 53 = .ok (.ifCond .eq 24, 3) := by decide +kernel
theorem dX11_copy_56 : decode cX11_copy 56 = .ok (.aload_n 0, 1) := by decide +kernel
theorem dX11_copy_57 : decode cX11_copy 57 = .ok (.getfield 9, 3) := by decide +kernel
theorem dX11_copy_60 : decode cX11_copy 60 = .ok (.iload_n 1, 1) := by decide +kernel
theorem dX11_copy_61 : decode cX11_copy 61 = .ok (.iaload, 1) := by decide +kernel
theorem dX11_copy_62 : decode cX11_copy 62 = .ok (.aload_n 0, 1) := by decide +kernel
theorem dX11_copy_63 : decode cX11_copy 63 = .ok (.getfield 9, 3) := by decide +kernel
theorem dX11_copy_66 : decode cX11_copy 66 = .ok (.iload_n 2, 1) := by decide +kernel
theorem dX11_copy_67 : decode cX11_copy 67 = .ok (.iaload, 1) := by decide +kernel
theorem dX11_copy_68 : decode cX11_copy 68 = .ok (.if_icmp .eq 9, 3) := by decide +kernel
theorem dX11_copy_71 : decode cX11_copy 71 = .ok (.aload_n 0, 1) := by decide +kernel
theorem dX11_copy_72 : decode cX11_copy 72 = .ok (.iconst 2, 1) := by decide +kernel
theorem dX11_copy_73 : decode cX11_copy 73 = .ok (.invokevirtual 95, 3) := by decide +kernel
theorem dX11_copy_76 : decode cX11_copy 76 = .ok (.ireturn, 1) := by decide +kernel
theorem dX11_copy_77 : decode cX11_copy 77 = .ok (.aload_n 0, 1) := by decide +kernel
theorem dX11_copy_78 : decode cX11_copy 78 = .ok (.iload_n 1, 1) := by decide +kernel
theorem dX11_copy_79 : decode cX11_copy 79 = .ok (.invokevirtual 110, 3) := by decide +kernel
theorem dX11_copy_82 : decode cX11_copy 82 = .ok (.ifCond .eq 11, 3) := by decide +kernel
theorem dX11_copy_85 : decode cX11_copy 85 = .ok (.aload_n 0, 1) := by decide +kernel
theorem dX11_copy_86 : decode cX11_copy 86 = .ok (.iload_n 2, 1) := by decide +kernel
theorem dX11_copy_87 : decode cX11_copy 87 = .ok (.invokevirtual 110, 3) := by decide +kernel
theorem dX11_copy_90 : decode cX11_copy 90 = .ok (.ifCond .ne 9, 3) := by decide +kernel
theorem dX11_copy_93 : decode cX11_copy 93 = .ok (.aload_n 0, 1) := by decide +kernel
theorem dX11_copy_94 : decode cX11_copy 94 = .ok (.iconst 3, 1) := by decide +kernel
theorem dX11_copy_95 : decode cX11_copy 95 = .ok (.invokevirtual 95, 3) := by decide +kernel
theorem dX11_copy_98 : decode cX11_copy 98 = .ok (.ireturn, 1) := by decide +kernel
theorem dX11_copy_99 : decode cX11_copy 99 = .ok (.iload 5, 2) := by decide +kernel
theorem dX11_copy_101 : decode cX11_copy 101 = .ok (.ifCond .ge 9, 3) := by decide +kernel
theorem dX11_copy_104 : decode cX11_copy 104 = .ok (.aload_n 0, 1) := by decide +kernel
theorem dX11_copy_105 : decode cX11_copy 105 = .ok (.iconst 4, 1) := by decide +kernel
theorem dX11_copy_106 : decode cX11_copy 106 = .ok (.invokevirtual 95, 3) := by decide +kernel
theorem dX11_copy_109 : decode cX11_copy 109 = .ok (.ireturn, 1) := by decide +kernel
theorem dX11_copy_110 : decode cX11_copy 110 = .ok (.aload_n 0, 1) := by decide +kernel
theorem dX11_copy_111 : decode cX11_copy 111 = .ok (.iload_n 1, 1) := by decide +kernel
theorem dX11_copy_112 : decode cX11_copy 112 = .ok (.iload_n 3, 1) := by decide +kernel
theorem dX11_copy_113 : decode cX11_copy 113 = .ok (.iload 5, 2) := by decide +kernel
theorem dX11_copy_115 : decode cX11_copy 115 = .ok (.invokevirtual 113, 3) := by decide +kernel
theorem dX11_copy_118 : decode cX11_copy 118 = .ok (.ifCond .ne 15, 3) := by decide +kernel
theorem dX11_copy_121 : decode cX11_copy 121 = .ok (.aload_n 0, 1) := by decide +kernel
theorem dX11_copy_122 : decode cX11_copy 122 = .ok (.iload_n 2, 1) := by decide +kernel
theorem dX11_copy_123 : decode cX11_copy 123 = .ok (.iload 4, 2) := by decide +kernel
theorem dX11_copy_125 : decode cX11_copy 125 = .ok (.iload 5, 2) := by decide +kernel
theorem dX11_copy_127 : decode cX11_copy 127 = .ok (.invokevirtual 113, 3) := by decide +kernel
theorem dX11_copy_130 : decode cX11_copy 130 = .ok (.ifCond .eq 9, 3) := by decide +kernel
theorem dX11_copy_133 : decode cX11_copy 133 = .ok (.aload_n 0, 1) := by decide +kernel
theorem dX11_copy_134 : decode cX11_copy 134 = .ok (.iconst 5, 1) := by decide +kernel
theorem dX11_copy_135 : decode cX11_copy 135 = .ok (.invokevirtual 95, 3) := by decide +kernel
theorem dX11_copy_138 : decode cX11_copy 138 = .ok (.ireturn, 1) := by decide +kernel
theorem dX11_copy_139 : decode cX11_copy 139 = .ok (.aload_n 0, 1) := by decide +kernel
theorem dX11_copy_140 : decode cX11_copy 140 = .ok (.getfield 18, 3) := by decide +kernel
theorem dX11_copy_143 : decode cX11_copy 143 = .ok (.iload_n 1, 1) := by decide +kernel
theorem dX11_copy_144 : decode cX11_copy 144 = .ok (.aaload, 1) := by decide +kernel
theorem dX11_copy_145 : decode cX11_copy 145 = .ok (.iload_n 3, 1) := by decide +kernel
theorem dX11_copy_146 : decode cX11_copy 146 = .ok (.aload_n 0, 1) := by decide +kernel
theorem dX11_copy_147 : decode cX11_copy 147 = .ok (.getfield 18, 3) := by decide +kernel
theorem dX11_copy_150 : decode cX11_copy 150 = .ok (.iload_n 2, 1) := by decide +kernel
theorem dX11_copy_151 : decode cX11_copy 151 = .ok (.aaload, 1) := by decide +kernel
theorem dX11_copy_152 : decode cX11_copy 152 = .ok (.iload 4, 2) := by decide +kernel
theorem dX11_copy_154 : decode cX11_copy 154 = .ok (.iload 5, 2) := by decide +kernel
theorem dX11_copy_156 : decode cX11_copy 156 = .ok (.invokestatic 117, 3) := by decide +kernel
theorem dX11_copy_159 : decode cX11_copy 159 = .ok (.iconst 1, 1) := by decide +kernel
theorem dX11_copy_160 : decode cX11_copy 160 = .ok (.ireturn, 1) := by decide +kernel
theorem dX11_element_0 : decode cX11_element 0 = .ok (.aload_n 0, 1) := by decide +kernel
theorem dX11_element_1 : decode cX11_element 1 = .ok (.iload_n 1, 1) := by decide +kernel
theorem dX11_element_2 : decode cX11_element 2 = .ok (.invokevirtual 99, 3) := by decide +kernel
theorem dX11_element_5 : decode cX11_element 5 = .ok (.ifCond .ne 16, 3) := by decide +kernel
theorem dX11_element_8 : decode cX11_element 8 = .ok (.iload_n 2, 1) := by decide +kernel
theorem dX11_element_9 : decode cX11_element 9 = .ok (.aload_n 0, 1) := by decide +kernel
theorem dX11_element_10 : decode cX11_element 10 = .ok (.getfield 13, 3) := by decide +kernel
theorem dX11_element_13 : decode cX11_element 13 = .ok (.iload_n 1, 1) := by decide +kernel
theorem dX11_element_14 : decode cX11_element 14 = .ok (.iaload, 1) := by decide +kernel
theorem dX11_element_15 : decode cX11_element 15 = .ok (.invokestatic 91, 3) := by decide +kernel
theorem dX11_element_18 : decode cX11_element 18 = .ok (.ifCond .eq 5, 3) := by decide +kernel
theorem dX11_element_21 : decode cX11_element 21 = .ok (.lconst 0, 1) := by decide +kernel
theorem dX11_element_22 : decode cX11_element 22 = .ok (.lreturn, 1) := by decide +kernel
theorem dX11_element_23 : decode cX11_element 23 = .ok (.aload_n 0, 1) := by decide +kernel
theorem dX11_element_24 : decode cX11_element 24 = .ok (.getfield 18, 3) := by decide +kernel
theorem dX11_element_27 : decode cX11_element 27 = .ok (.iload_n 1, 1) := by decide +kernel
theorem dX11_element_28 : decode cX11_element 28 = .ok (.aaload, 1) := by decide +kernel
theorem dX11_element_29 : decode cX11_element 29 = .ok (.iload_n 2, 1) := by decide +kernel
theorem dX11_element_30 : decode cX11_element 30 = .ok (.laload, 1) := by decide +kernel
theorem dX11_element_31 : decode cX11_element 31 = .ok (.lreturn, 1) := by decide +kernel
theorem dX11_show_0 : decode cX11_show 0 = .ok (.iload_n 1, 1) := by decide +kernel
theorem dX11_show_1 : decode cX11_show 1 = .ok (.bipush 8, 2) := by decide +kernel
theorem dX11_show_3 : decode cX11_show 3 = .ok (.invokestatic 91, 3) := by decide +kernel
theorem dX11_show_6 : decode cX11_show 6 = .ok (.ifCond .ne 16, 3) := by decide +kernel
theorem dX11_show_9 : decode cX11_show 9 = .ok (.iload_n 2, 1) := by decide +kernel
theorem dX11_show_10 : decode cX11_show 10 = .ok (.iconst (-1), 1) := by decide +kernel
theorem dX11_show_11 : decode cX11_show 11 = .ok (.if_icmp .eq 17, 3) := by decide +kernel
theorem dX11_show_14 : decode cX11_show 14 = .ok (.aload_n 0, 1) := by decide +kernel
theorem dX11_show_15 : decode cX11_show 15 = .ok (.iload_n 2, 1) := by decide +kernel
theorem dX11_show_16 : decode cX11_show 16 = .ok (.invokevirtual 123, 3) := by decide +kernel
theorem dX11_show_19 : decode cX11_show 19 = .ok (.ifCond .eq 9, 3) := by decide +kernel
theorem dX11_show_22 : decode cX11_show 22 = .ok (.aload_n 0, 1) := by decide +kernel
theorem dX11_show_23 : decode cX11_show 23 = .ok (.iconst 1, 1) := by decide +kernel
theorem dX11_show_24 : decode cX11_show 24 = .ok (.invokevirtual 95, 3) := by decide +kernel
theorem dX11_show_27 : decode cX11_show 27 = .ok (.ireturn, 1) := by decide +kernel
theorem dX11_show_28 : decode cX11_show 28 = .ok (.aload_n 0, 1) := by decide +kernel
theorem dX11_show_29 : decode cX11_show 29 = .ok (.getfield 9, 3) := by decide +kernel
theorem dX11_show_32 : decode cX11_show 32 = .ok (.iload_n 1, 1) := by decide +kernel
theorem dX11_show_33 : decode cX11_show 33 = .ok (.iload_n 2, 1) := by decide +kernel
theorem dX11_show_34 : decode cX11_show 34 = .ok (.iastore, 1) := by decide +kernel
theorem dX11_show_35 : decode cX11_show 35 = .ok (.iload_n 2, 1) := by decide +kernel
theorem dX11_show_36 : decode cX11_show 36 = .ok (.iconst (-1), 1) := by decide +kernel
theorem dX11_show_37 : decode cX11_show 37 = .ok (.if_icmp .ne 7, 3) := by decide +kernel
theorem dX11_show_40 : decode cX11_show 40 = .ok (.iconst 0, 1) := by decide +kernel
theorem dX11_show_41 : decode cX11_show 41 = .ok (.goto 4, 3) := by decide +kernel
theorem dX11_show_44 : decode cX11_show 44 = .ok (.iconst 1, 1) := by decide +kernel
theorem dX11_show_45 : decode cX11_show 45 = .ok (.ireturn, 1) := by decide +kernel
theorem dX11_holds_0 : decode cX11_holds 0 = .ok (.iload_n 1, 1) := by decide +kernel
theorem dX11_holds_1 : decode cX11_holds 1 = .ok (.bipush 8, 2) := by decide +kernel
theorem dX11_holds_3 : decode cX11_holds 3 = .ok (.invokestatic 91, 3) := by decide +kernel
theorem dX11_holds_6 : decode cX11_holds 6 = .ok (.ifCond .eq 7, 3) := by decide +kernel
theorem dX11_holds_9 : decode cX11_holds 9 = .ok (.iconst (-1), 1) := by decide +kernel
theorem dX11_holds_10 : decode cX11_holds 10 = .ok (.goto 9, 3) := by decide +kernel
theorem dX11_holds_13 : decode cX11_holds 13 = .ok (.aload_n 0, 1) := by decide +kernel
theorem dX11_holds_14 : decode cX11_holds 14 = .ok (.getfield 9, 3) := by decide +kernel
theorem dX11_holds_17 : decode cX11_holds 17 = .ok (.iload_n 1, 1) := by decide +kernel
theorem dX11_holds_18 : decode cX11_holds 18 = .ok (.iaload, 1) := by decide +kernel
theorem dX11_holds_19 : decode cX11_holds 19 = .ok (.ireturn, 1) := by decide +kernel
theorem dX11_says_0 : decode cX11_says 0 = .ok (.iload_n 1, 1) := by decide +kernel
theorem dX11_says_1 : decode cX11_says 1 = .ok (.bipush 8, 2) := by decide +kernel
theorem dX11_says_3 : decode cX11_says 3 = .ok (.invokestatic 91, 3) := by decide +kernel
theorem dX11_says_6 : decode cX11_says 6 = .ok (.ifCond .ne 12, 3) := by decide +kernel
theorem dX11_says_9 : decode cX11_says 9 = .ok (.iload_n 2, 1) := by decide +kernel
theorem dX11_says_10 : decode cX11_says 10 = .ok (.bipush 7, 2) := by decide +kernel
theorem dX11_says_12 : decode cX11_says 12 = .ok (.invokestatic 91, 3) := by decide +kernel
theorem dX11_says_15 : decode cX11_says 15 = .ok (.ifCond .eq 9, 3) := by decide +kernel
theorem dX11_says_18 : decode cX11_says 18 = .ok (.aload_n 0, 1) := by decide +kernel
theorem dX11_says_19 : decode cX11_says 19 = .ok (.iconst 1, 1) := by decide +kernel
theorem dX11_says_20 : decode cX11_says 20 = .ok (.invokevirtual 95, 3) := by decide +kernel
theorem dX11_says_23 : decode cX11_says 23 = .ok (.ireturn, 1) := by decide +kernel
theorem dX11_says_24 : decode cX11_says 24 = .ok (.aload_n 0, 1) := by decide +kernel
theorem dX11_says_25 : decode cX11_says 25 = .ok (.iload_n 1, 1) := by decide +kernel
theorem dX11_says_26 : decode cX11_says 26 = .ok (.invokevirtual 110, 3) := by decide +kernel
theorem dX11_says_29 : decode cX11_says 29 = .ok (.ifCond .eq 9, 3) := by decide +kernel
theorem dX11_says_32 : decode cX11_says 32 = .ok (.aload_n 0, 1) := by decide +kernel
theorem dX11_says_33 : decode cX11_says 33 = .ok (.iconst 2, 1) := by decide +kernel
theorem dX11_says_34 : decode cX11_says 34 = .ok (.invokevirtual 95, 3) := by decide +kernel
theorem dX11_says_37 : decode cX11_says 37 = .ok (.ireturn, 1) := by decide +kernel
theorem dX11_says_38 : decode cX11_says 38 = .ok (.aload_n 0, 1) := by decide +kernel
theorem dX11_says_39 : decode cX11_says 39 = .ok (.iload_n 1, 1) := by decide +kernel
theorem dX11_says_40 : decode cX11_says 40 = .ok (.invokevirtual 106, 3) := by decide +kernel
theorem dX11_says_43 : decode cX11_says 43 = .ok (.ifCond .ne 9, 3) := by decide +kernel
theorem dX11_says_46 : decode cX11_says 46 = .ok (.aload_n 0, 1) := by decide +kernel
theorem dX11_says_47 : decode cX11_says 47 = .ok (.iconst 3, 1) := by decide +kernel
theorem dX11_says_48 : decode cX11_says 48 = .ok (.invokevirtual 95, 3) := by decide +kernel
theorem dX11_says_51 : decode cX11_says 51 = .ok (.ireturn, 1) := by decide +kernel
theorem dX11_says_52 : decode cX11_says 52 = .ok (.aload_n 0, 1) := by decide +kernel
theorem dX11_says_53 : decode cX11_says 53 = .ok (.getfield 81, 3) := by decide +kernel
theorem dX11_says_56 : decode cX11_says 56 = .ok (.getfield 126, 3) := by decide +kernel
theorem dX11_says_59 : decode cX11_says 59 = .ok (.aload_n 0, 1) := by decide +kernel
theorem dX11_says_60 : decode cX11_says 60 = .ok (.getfield 9, 3) := by decide +kernel
theorem dX11_says_63 : decode cX11_says 63 = .ok (.iload_n 1, 1) := by decide +kernel
theorem dX11_says_64 : decode cX11_says 64 = .ok (.iaload, 1) := by decide +kernel
theorem dX11_says_65 : decode cX11_says 65 = .ok (.aaload, 1) := by decide +kernel
theorem dX11_says_66 : decode cX11_says 66 = .ok (.astore_n 3, 1) := by decide +kernel
theorem dX11_says_67 : decode cX11_says 67 = .ok (.aload_n 3, 1) := by decide +kernel
theorem dX11_says_68 : decode cX11_says 68 = .ok (.getfield 130, 3) := by decide +kernel
theorem dX11_says_71 : decode cX11_says 71 = .ok (.iload_n 2, 1) := by decide +kernel
theorem dX11_says_72 : decode cX11_says 72 = .ok (.invokestatic 136, 3) := by decide +kernel
theorem dX11_says_75 : decode cX11_says 75 = .ok (.ifCond .ne 9, 3) := by decide +kernel
theorem dX11_says_78 : decode cX11_says 78 = .ok (.aload_n 0, 1) := by decide +kernel
theorem dX11_says_79 : decode cX11_says 79 = .ok (.iconst 2, 1) := by decide +kernel
theorem dX11_says_80 : decode cX11_says 80 = .ok (.invokevirtual 95, 3) := by decide +kernel
theorem dX11_says_83 : decode cX11_says 83 = .ok (.ireturn, 1) := by decide +kernel
theorem dX11_says_84 : decode cX11_says 84 = .ok (.aload_n 0, 1) := by decide +kernel
theorem dX11_says_85 : decode cX11_says 85 = .ok (.aload_n 3, 1) := by decide +kernel
theorem dX11_says_86 : decode cX11_says 86 = .ok (.iload_n 2, 1) := by decide +kernel
theorem dX11_says_87 : decode cX11_says 87 = .ok (.invokevirtual 140, 3) := by decide +kernel
theorem dX11_says_90 : decode cX11_says 90 = .ok (.ireturn, 1) := by decide +kernel
theorem dX11_house_0 : decode cX11_house 0 = .ok (.iload_n 1, 1) := by decide +kernel
theorem dX11_house_1 : decode cX11_house 1 = .ok (.bipush 7, 2) := by decide +kernel
theorem dX11_house_3 : decode cX11_house 3 = .ok (.invokestatic 91, 3) := by decide +kernel
theorem dX11_house_6 : decode cX11_house 6 = .ok (.ifCond .eq 9, 3) := by decide +kernel
theorem dX11_house_9 : decode cX11_house 9 = .ok (.aload_n 0, 1) := by decide +kernel
theorem dX11_house_10 : decode cX11_house 10 = .ok (.iconst 1, 1) := by decide +kernel
theorem dX11_house_11 : decode cX11_house 11 = .ok (.invokevirtual 95, 3) := by decide +kernel
theorem dX11_house_14 : decode cX11_house 14 = .ok (.ireturn, 1) := by decide +kernel
theorem dX11_house_15 : decode cX11_house 15 = .ok (.iload_n 2, 1) := by decide +kernel
theorem dX11_house_16 : decode cX11_house 16 = .ok (.ifCond .lt 9, 3) := by decide +kernel
theorem dX11_house_19 : decode cX11_house 19 = .ok (.iload_n 2, 1) := by decide +kernel
theorem dX11_house_20 : decode cX11_house 20 = .ok (.bipush 9, 2) := by decide +kernel
theorem dX11_house_22 : decode cX11_house 22 = .ok (.if_icmp .le 10, 3) := by decide +kernel
theorem dX11_house_25 : decode cX11_house 25 = .ok (.aload_n 0, 1) := by decide +kernel
theorem dX11_house_26 : decode cX11_house 26 = .ok (.bipush 6, 2) := by decide +kernel
theorem dX11_house_28 : decode cX11_house 28 = .ok (.invokevirtual 95, 3) := by decide +kernel
theorem dX11_house_31 : decode cX11_house 31 = .ok (.ireturn, 1) := by decide +kernel
theorem dX11_house_32 : decode cX11_house 32 = .ok (.aload_n 0, 1) := by decide +kernel
theorem dX11_house_33 : decode cX11_house 33 = .ok (.getfield 81, 3) := by decide +kernel
theorem dX11_house_36 : decode cX11_house 36 = .ok (.getfield 144, 3) := by decide +kernel
theorem dX11_house_39 : decode cX11_house 39 = .ok (.bipush 6, 2) := by decide +kernel
theorem dX11_house_41 : decode cX11_house 41 = .ok (.if_icmp .lt 10, 3) := by decide +kernel
theorem dX11_house_44 : decode cX11_house 44 = .ok (.aload_n 0, 1) := by decide +kernel
theorem dX11_house_45 : decode cX11_house 45 = .ok (.bipush 7, 2) := by decide +kernel
theorem dX11_house_47 : decode cX11_house 47 = .ok (.invokevirtual 95, 3) := by decide +kernel
theorem dX11_house_50 : decode cX11_house 50 = .ok (.ireturn, 1) := by decide +kernel
theorem dX11_house_51 : decode cX11_house 51 = .ok (.aload_n 0, 1) := by decide +kernel
theorem dX11_house_52 : decode cX11_house 52 = .ok (.getfield 81, 3) := by decide +kernel
theorem dX11_house_55 : decode cX11_house 55 = .ok (.iload_n 1, 1) := by decide +kernel
theorem dX11_house_56 : decode cX11_house 56 = .ok (.iload_n 2, 1) := by decide +kernel
theorem dX11_house_57 : decode cX11_house 57 = .ok (.invokevirtual 147, 3) := by decide +kernel
theorem dX11_house_60 : decode cX11_house 60 = .ok (.ireturn, 1) := by decide +kernel
theorem dX11_houseOf_0 : decode cX11_houseOf 0 = .ok (.aload_n 0, 1) := by decide +kernel
theorem dX11_houseOf_1 : decode cX11_houseOf 1 = .ok (.iload_n 1, 1) := by decide +kernel
theorem dX11_houseOf_2 : decode cX11_houseOf 2 = .ok (.invokevirtual 123, 3) := by decide +kernel
theorem dX11_houseOf_5 : decode cX11_houseOf 5 = .ok (.ifCond .eq 9, 3) := by decide +kernel
theorem dX11_houseOf_8 : decode cX11_houseOf 8 = .ok (.aload_n 0, 1) := by decide +kernel
theorem dX11_houseOf_9 : decode cX11_houseOf 9 = .ok (.iconst 5, 1) := by decide +kernel
theorem dX11_houseOf_10 : decode cX11_houseOf 10 = .ok (.invokevirtual 95, 3) := by decide +kernel
theorem dX11_houseOf_13 : decode cX11_houseOf 13 = .ok (.ireturn, 1) := by decide +kernel
theorem dX11_houseOf_14 : decode cX11_houseOf 14 = .ok (.aload_n 0, 1) := by decide +kernel
theorem dX11_houseOf_15 : decode cX11_houseOf 15 = .ok (.getfield 81, 3) := by decide +kernel
theorem dX11_houseOf_18 : decode cX11_houseOf 18 = .ok (.getfield 126, 3) := by decide +kernel
theorem dX11_houseOf_21 : decode cX11_houseOf 21 = .ok (.iload_n 1, 1) := by decide +kernel
theorem dX11_houseOf_22 : decode cX11_houseOf 22 = .ok (.aaload, 1) := by decide +kernel
theorem dX11_houseOf_23 : decode cX11_houseOf 23 = .ok (.astore_n 3, 1) := by decide +kernel
theorem dX11_houseOf_24 : decode cX11_houseOf 24 = .ok (.iload_n 2, 1) := by decide +kernel
theorem dX11_houseOf_25 : decode cX11_houseOf 25 = .ok (.tableswitch 60 0 4 #[35, 40, 45, 50, 55], 35) := by decide +kernel
theorem dX11_houseOf_60 : decode cX11_houseOf 60 = .ok (.aload_n 3, 1) := by decide +kernel
theorem dX11_houseOf_61 : decode cX11_houseOf 61 = .ok (.getfield 151, 3) := by decide +kernel
theorem dX11_houseOf_64 : decode cX11_houseOf 64 = .ok (.ireturn, 1) := by decide +kernel
theorem dX11_houseOf_65 : decode cX11_houseOf 65 = .ok (.aload_n 3, 1) := by decide +kernel
theorem dX11_houseOf_66 : decode cX11_houseOf 66 = .ok (.getfield 154, 3) := by decide +kernel
theorem dX11_houseOf_69 : decode cX11_houseOf 69 = .ok (.ireturn, 1) := by decide +kernel
theorem dX11_houseOf_70 : decode cX11_houseOf 70 = .ok (.aload_n 3, 1) := by decide +kernel
theorem dX11_houseOf_71 : decode cX11_houseOf 71 = .ok (.getfield 157, 3) := by decide +kernel
theorem dX11_houseOf_74 : decode cX11_houseOf 74 = .ok (.ireturn, 1) := by decide +kernel
theorem dX11_houseOf_75 : decode cX11_houseOf 75 = .ok (.aload_n 3, 1) := by decide +kernel
theorem dX11_houseOf_76 : decode cX11_houseOf 76 = .ok (.invokevirtual 160, 3) := by decide +kernel
theorem dX11_houseOf_79 : decode cX11_houseOf 79 = .ok (.ireturn, 1) := by decide +kernel
theorem dX11_houseOf_80 : decode cX11_houseOf 80 = .ok (.aload_n 3, 1) := by decide +kernel
theorem dX11_houseOf_81 : decode cX11_houseOf 81 = .ok (.invokevirtual 164, 3) := by decide +kernel
theorem dX11_houseOf_84 : decode cX11_houseOf 84 = .ok (.ireturn, 1) := by decide +kernel
theorem dX11_houseOf_85 : decode cX11_houseOf 85 = .ok (.aload_n 0, 1) := by decide +kernel
theorem dX11_houseOf_86 : decode cX11_houseOf 86 = .ok (.iconst 5, 1) := by decide +kernel
theorem dX11_houseOf_87 : decode cX11_houseOf 87 = .ok (.invokevirtual 95, 3) := by decide +kernel
theorem dX11_houseOf_90 : decode cX11_houseOf 90 = .ok (.ireturn, 1) := by decide +kernel
theorem dX11_colour_0 : decode cX11_colour 0 = .ok (.iload_n 1, 1) := by decide +kernel
theorem dX11_colour_1 : decode cX11_colour 1 = .ok (.bipush 6, 2) := by decide +kernel
theorem dX11_colour_3 : decode cX11_colour 3 = .ok (.invokestatic 91, 3) := by decide +kernel
theorem dX11_colour_6 : decode cX11_colour 6 = .ok (.ifCond .eq 9, 3) := by decide +kernel
theorem dX11_colour_9 : decode cX11_colour 9 = .ok (.aload_n 0, 1) := by decide +kernel
theorem dX11_colour_10 : decode cX11_colour 10 = .ok (.iconst 1, 1) := by decide +kernel
theorem dX11_colour_11 : decode cX11_colour 11 = .ok (.invokevirtual 95, 3) := by decide +kernel
theorem dX11_colour_14 : decode cX11_colour 14 = .ok (.ireturn, 1) := by decide +kernel
theorem dX11_colour_15 : decode cX11_colour 15 = .ok (.iload_n 2, 1) := by decide +kernel
theorem dX11_colour_16 : decode cX11_colour 16 = .ok (.ifCond .eq 14, 3) := by decide +kernel
theorem dX11_colour_19 : decode cX11_colour 19 = .ok (.iload_n 2, 1) := by decide +kernel
theorem dX11_colour_20 : decode cX11_colour 20 = .ok (.iconst 1, 1) := by decide +kernel
theorem dX11_colour_21 : decode cX11_colour 21 = .ok (.if_icmp .eq 9, 3) := by decide +kernel
theorem dX11_colour_24 : decode cX11_colour 24 = .ok (.aload_n 0, 1) := by decide +kernel
theorem dX11_colour_25 : decode cX11_colour 25 = .ok (.iconst 5, 1) := by decide +kernel
theorem dX11_colour_26 : decode cX11_colour 26 = .ok (.invokevirtual 95, 3) := by decide +kernel
theorem dX11_colour_29 : decode cX11_colour 29 = .ok (.ireturn, 1) := by decide +kernel
theorem dX11_colour_30 : decode cX11_colour 30 = .ok (.iload_n 3, 1) := by decide +kernel
theorem dX11_colour_31 : decode cX11_colour 31 = .ok (.ifCond .lt 18, 3) := by decide +kernel
theorem dX11_colour_34 : decode cX11_colour 34 = .ok (.iload_n 3, 1) := by decide +kernel
theorem dX11_colour_35 : decode cX11_colour 35 = .ok (.iload_n 2, 1) := by decide +kernel
theorem dX11_colour_36 : decode cX11_colour 36 = .ok (.ifCond .ne 8, 3) := by decide +kernel
theorem dX11_colour_39 : decode cX11_colour 39 = .ok (.bipush 9, 2) := by decide +kernel
theorem dX11_colour_41 : decode cX11_colour 41 = .ok (.goto 5, 3) := by decide +kernel
theorem dX11_colour_44 : decode cX11_colour 44 = .ok (.bipush 99, 2) := by decide +kernel
theorem dX11_colour_46 : decode cX11_colour 46 = .ok (.if_icmp .le 10, 3) := by decide +kernel
theorem dX11_colour_49 : decode cX11_colour 49 = .ok (.aload_n 0, 1) := by decide +kernel
theorem dX11_colour_50 : decode cX11_colour 50 = .ok (.bipush 6, 2) := by decide +kernel
theorem dX11_colour_52 : decode cX11_colour 52 = .ok (.invokevirtual 95, 3) := by decide +kernel
theorem dX11_colour_55 : decode cX11_colour 55 = .ok (.ireturn, 1) := by decide +kernel
theorem dX11_colour_56 : decode cX11_colour 56 = .ok (.iload_n 2, 1) := by decide +kernel
theorem dX11_colour_57 : decode cX11_colour 57 = .ok (.ifCond .ne 13, 3) := by decide +kernel
theorem dX11_colour_60 : decode cX11_colour 60 = .ok (.aload_n 0, 1) := by decide +kernel
theorem dX11_colour_61 : decode cX11_colour 61 = .ok (.getfield 81, 3) := by decide +kernel
theorem dX11_colour_64 : decode cX11_colour 64 = .ok (.getfield 167, 3) := by decide +kernel
theorem dX11_colour_67 : decode cX11_colour 67 = .ok (.goto 10, 3) := by decide +kernel
theorem dX11_colour_70 : decode cX11_colour 70 = .ok (.aload_n 0, 1) := by decide +kernel
theorem dX11_colour_71 : decode cX11_colour 71 = .ok (.getfield 81, 3) := by decide +kernel
theorem dX11_colour_74 : decode cX11_colour 74 = .ok (.getfield 170, 3) := by decide +kernel
theorem dX11_colour_77 : decode cX11_colour 77 = .ok (.astore 4, 2) := by decide +kernel
theorem dX11_colour_79 : decode cX11_colour 79 = .ok (.aload 4, 2) := by decide +kernel
theorem dX11_colour_81 : decode cX11_colour 81 = .ok (.iload_n 1, 1) := by decide +kernel
theorem dX11_colour_82 : decode cX11_colour 82 = .ok (.iaload, 1) := by decide +kernel
theorem dX11_colour_83 : decode cX11_colour 83 = .ok (.istore 5, 2) := by decide +kernel
theorem dX11_colour_85 : decode cX11_colour 85 = .ok (.aload 4, 2) := by decide +kernel
theorem dX11_colour_87 : decode cX11_colour 87 = .ok (.iload_n 1, 1) := by decide +kernel
theorem dX11_colour_88 : decode cX11_colour 88 = .ok (.iload_n 3, 1) := by decide +kernel
theorem dX11_colour_89 : decode cX11_colour 89 = .ok (.iastore, 1) := by decide +kernel
theorem dX11_colour_90 : decode cX11_colour 90 = .ok (.iload 5, 2) := by decide +kernel
theorem dX11_colour_92 : decode cX11_colour 92 = .ok (.ireturn, 1) := by decide +kernel
theorem dX11_ask_0 : decode cX11_ask 0 = .ok (.iload_n 1, 1) := by decide +kernel
theorem dX11_ask_1 : decode cX11_ask 1 = .ok (.ifCond .ne 33, 3) := by decide +kernel
theorem dX11_ask_4 : decode cX11_ask 4 = .ok (.iload_n 2, 1) := by decide +kernel
theorem dX11_ask_5 : decode cX11_ask 5 = .ok (.iconst 1, 1) := by decide +kernel
theorem dX11_ask_6 : decode cX11_ask 6 = .ok (.if_icmp .lt 28, 3) := by decide +kernel
theorem dX11_ask_9 : decode cX11_ask 9 = .ok (.iload_n 2, 1) := by decide +kernel
theorem dX11_ask_10 : decode cX11_ask 10 = .ok (.sipush 999, 3) := by decide +kernel
theorem dX11_ask_13 : decode cX11_ask 13 = .ok (.if_icmp .gt 21, 3) := by decide +kernel
theorem dX11_ask_16 : decode cX11_ask 16 = .ok (.aload_n 0, 1) := by decide +kernel
theorem dX11_ask_17 : decode cX11_ask 17 = .ok (.getfield 81, 3) := by decide +kernel
theorem dX11_ask_20 : decode cX11_ask 20 = .ok (.getfield 173, 3) := by decide +kernel
theorem dX11_ask_23 : decode cX11_ask 23 = .ok (.istore_n 3, 1) := by decide +kernel
theorem dX11_ask_24 : decode cX11_ask 24 = .ok (.aload_n 0, 1) := by decide +kernel
theorem dX11_ask_25 : decode cX11_ask 25 = .ok (.getfield 81, 3) := by decide +kernel
theorem dX11_ask_28 : decode cX11_ask 28 = .ok (.iload_n 2, 1) := by decide +kernel
theorem dX11_ask_29 : decode cX11_ask 29 = .ok (.putfield 173, 3) := by decide +kernel
theorem dX11_ask_32 : decode cX11_ask 32 = .ok (.iload_n 3, 1) := by decide +kernel
theorem dX11_ask_33 : decode cX11_ask 33 = .ok (.ireturn, 1) := by decide +kernel
theorem dX11_ask_34 : decode cX11_ask 34 = .ok (.iload_n 1, 1) := by decide +kernel
theorem dX11_ask_35 : decode cX11_ask 35 = .ok (.iconst 1, 1) := by decide +kernel
theorem dX11_ask_36 : decode cX11_ask 36 = .ok (.if_icmp .ne 33, 3) := by decide +kernel
theorem dX11_ask_39 : decode cX11_ask 39 = .ok (.iload_n 2, 1) := by decide +kernel
theorem dX11_ask_40 : decode cX11_ask 40 = .ok (.bipush 10, 2) := by decide +kernel
theorem dX11_ask_42 : decode cX11_ask 42 = .ok (.if_icmp .lt 27, 3) := by decide +kernel
theorem dX11_ask_45 : decode cX11_ask 45 = .ok (.iload_n 2, 1) := by decide +kernel
theorem dX11_ask_46 : decode cX11_ask 46 = .ok (.bipush 99, 2) := by decide +kernel
theorem dX11_ask_48 : decode cX11_ask 48 = .ok (.if_icmp .gt 21, 3) := by decide +kernel
theorem dX11_ask_51 : decode cX11_ask 51 = .ok (.aload_n 0, 1) := by decide +kernel
theorem dX11_ask_52 : decode cX11_ask 52 = .ok (.getfield 81, 3) := by decide +kernel
theorem dX11_ask_55 : decode cX11_ask 55 = .ok (.getfield 176, 3) := by decide +kernel
theorem dX11_ask_58 : decode cX11_ask 58 = .ok (.istore_n 3, 1) := by decide +kernel
theorem dX11_ask_59 : decode cX11_ask 59 = .ok (.aload_n 0, 1) := by decide +kernel
theorem dX11_ask_60 : decode cX11_ask 60 = .ok (.getfield 81, 3) := by decide +kernel
theorem dX11_ask_63 : decode cX11_ask 63 = .ok (.iload_n 2, 1) := by decide +kernel
theorem dX11_ask_64 : decode cX11_ask 64 = .ok (.putfield 176, 3) := by decide +kernel
theorem dX11_ask_67 : decode cX11_ask 67 = .ok (.iload_n 3, 1) := by decide +kernel
theorem dX11_ask_68 : decode cX11_ask 68 = .ok (.ireturn, 1) := by decide +kernel
theorem dX11_ask_69 : decode cX11_ask 69 = .ok (.aload_n 0, 1) := by decide +kernel
theorem dX11_ask_70 : decode cX11_ask 70 = .ok (.bipush 6, 2) := by decide +kernel
theorem dX11_ask_72 : decode cX11_ask 72 = .ok (.invokevirtual 95, 3) := by decide +kernel
theorem dX11_ask_75 : decode cX11_ask 75 = .ok (.ireturn, 1) := by decide +kernel
theorem dX11_coat_0 : decode cX11_coat 0 = .ok (.aload_n 0, 1) := by decide +kernel
theorem dX11_coat_1 : decode cX11_coat 1 = .ok (.iload_n 1, 1) := by decide +kernel
theorem dX11_coat_2 : decode cX11_coat 2 = .ok (.invokevirtual 123, 3) := by decide +kernel
theorem dX11_coat_5 : decode cX11_coat 5 = .ok (.ifCond .ne 21, 3) := by decide +kernel
theorem dX11_coat_8 : decode cX11_coat 8 = .ok (.iload_n 2, 1) := by decide +kernel
theorem dX11_coat_9 : decode cX11_coat 9 = .ok (.bipush 8, 2) := by decide +kernel
theorem dX11_coat_11 : decode cX11_coat 11 = .ok (.invokestatic 91, 3) := by decide +kernel
theorem dX11_coat_14 : decode cX11_coat 14 = .ok (.ifCond .ne 12, 3) := by decide +kernel
theorem dX11_coat_17 : decode cX11_coat 17 = .ok (.iload_n 3, 1) := by decide +kernel
theorem dX11_coat_18 : decode cX11_coat 18 = .ok (.bipush 6, 2) := by decide +kernel
theorem dX11_coat_20 : decode cX11_coat 20 = .ok (.invokestatic 91, 3) := by decide +kernel
theorem dX11_coat_23 : decode cX11_coat 23 = .ok (.ifCond .eq 9, 3) := by decide +kernel
theorem dX11_coat_26 : decode cX11_coat 26 = .ok (.aload_n 0, 1) := by decide +kernel
theorem dX11_coat_27 : decode cX11_coat 27 = .ok (.iconst 1, 1) := by decide +kernel
theorem dX11_coat_28 : decode cX11_coat 28 = .ok (.invokevirtual 95, 3) := by decide +kernel
theorem dX11_coat_31 : decode cX11_coat 31 = .ok (.ireturn, 1) := by decide +kernel
theorem dX11_coat_32 : decode cX11_coat 32 = .ok (.iload 4, 2) := by decide +kernel
theorem dX11_coat_34 : decode cX11_coat 34 = .ok (.iconst 1, 1) := by decide +kernel
theorem dX11_coat_35 : decode cX11_coat 35 = .ok (.if_icmp .lt 20, 3) := by decide +kernel
theorem dX11_coat_38 : decode cX11_coat 38 = .ok (.iload 4, 2) := by decide +kernel
theorem dX11_coat_40 : decode cX11_coat 40 = .ok (.bipush 9, 2) := by decide +kernel
theorem dX11_coat_42 : decode cX11_coat 42 = .ok (.if_icmp .gt 13, 3) := by decide +kernel
theorem dX11_coat_45 : decode cX11_coat 45 = .ok (.iload 5, 2) := by decide +kernel
theorem dX11_coat_47 : decode cX11_coat 47 = .ok (.bipush 12, 2) := by decide +kernel
theorem dX11_coat_49 : decode cX11_coat 49 = .ok (.invokestatic 91, 3) := by decide +kernel
theorem dX11_coat_52 : decode cX11_coat 52 = .ok (.ifCond .eq 10, 3) := by decide +kernel
theorem dX11_coat_55 : decode cX11_coat 55 = .ok (.aload_n 0, 1) := by decide +kernel
theorem dX11_coat_56 : decode cX11_coat 56 = .ok (.bipush 6, 2) := by decide +kernel
theorem dX11_coat_58 : decode cX11_coat 58 = .ok (.invokevirtual 95, 3) := by decide +kernel
theorem dX11_coat_61 : decode cX11_coat 61 = .ok (.ireturn, 1) := by decide +kernel
theorem dX11_coat_62 : decode cX11_coat 62 = .ok (.aload_n 0, 1) := by decide +kernel
theorem dX11_coat_63 : decode cX11_coat 63 = .ok (.getfield 81, 3) := by decide +kernel
theorem dX11_coat_66 : decode cX11_coat 66 = .ok (.getfield 126, 3) := by decide +kernel
theorem dX11_coat_69 : decode cX11_coat 69 = .ok (.iload_n 1, 1) := by decide +kernel
theorem dX11_coat_70 : decode cX11_coat 70 = .ok (.aaload, 1) := by decide +kernel
theorem dX11_coat_71 : decode cX11_coat 71 = .ok (.astore 6, 2) := by decide +kernel
theorem dX11_coat_73 : decode cX11_coat 73 = .ok (.aload 6, 2) := by decide +kernel
theorem dX11_coat_75 : decode cX11_coat 75 = .ok (.getfield 157, 3) := by decide +kernel
theorem dX11_coat_78 : decode cX11_coat 78 = .ok (.bipush 8, 2) := by decide +kernel
theorem dX11_coat_80 : decode cX11_coat 80 = .ok (.if_icmp .lt 10, 3) := by decide +kernel
theorem dX11_coat_83 : decode cX11_coat 83 = .ok (.aload_n 0, 1) := by decide +kernel
theorem dX11_coat_84 : decode cX11_coat 84 = .ok (.bipush 7, 2) := by decide +kernel
theorem dX11_coat_86 : decode cX11_coat 86 = .ok (.invokevirtual 95, 3) := by decide +kernel
theorem dX11_coat_89 : decode cX11_coat 89 = .ok (.ireturn, 1) := by decide +kernel
theorem dX11_coat_90 : decode cX11_coat 90 = .ok (.aload 6, 2) := by decide +kernel
theorem dX11_coat_92 : decode cX11_coat 92 = .ok (.iload_n 2, 1) := by decide +kernel
theorem dX11_coat_93 : decode cX11_coat 93 = .ok (.iload_n 3, 1) := by decide +kernel
theorem dX11_coat_94 : decode cX11_coat 94 = .ok (.iload 4, 2) := by decide +kernel
theorem dX11_coat_96 : decode cX11_coat 96 = .ok (.iload 5, 2) := by decide +kernel
theorem dX11_coat_98 : decode cX11_coat 98 = .ok (.aload_n 0, 1) := by decide +kernel
theorem dX11_coat_99 : decode cX11_coat 99 = .ok (.getfield 81, 3) := by decide +kernel
theorem dX11_coat_102 : decode cX11_coat 102 = .ok (.getfield 179, 3) := by decide +kernel
theorem dX11_coat_105 : decode cX11_coat 105 = .ok (.invokevirtual 182, 3) := by decide +kernel
theorem dX11_coat_108 : decode cX11_coat 108 = .ok (.ireturn, 1) := by decide +kernel
theorem dX11_coatOf_0 : decode cX11_coatOf 0 = .ok (.aload_n 0, 1) := by decide +kernel
theorem dX11_coatOf_1 : decode cX11_coatOf 1 = .ok (.iload_n 1, 1) := by decide +kernel
theorem dX11_coatOf_2 : decode cX11_coatOf 2 = .ok (.invokevirtual 123, 3) := by decide +kernel
theorem dX11_coatOf_5 : decode cX11_coatOf 5 = .ok (.ifCond .ne 12, 3) := by decide +kernel
theorem dX11_coatOf_8 : decode cX11_coatOf 8 = .ok (.aload_n 0, 1) := by decide +kernel
theorem dX11_coatOf_9 : decode cX11_coatOf 9 = .ok (.iload_n 1, 1) := by decide +kernel
theorem dX11_coatOf_10 : decode cX11_coatOf 10 = .ok (.iload_n 2, 1) := by decide +kernel
theorem dX11_coatOf_11 : decode cX11_coatOf 11 = .ok (.invokevirtual 186, 3) := by decide +kernel
theorem dX11_coatOf_14 : decode cX11_coatOf 14 = .ok (.ifCond .eq 9, 3) := by decide +kernel
theorem dX11_coatOf_17 : decode cX11_coatOf 17 = .ok (.aload_n 0, 1) := by decide +kernel
theorem dX11_coatOf_18 : decode cX11_coatOf 18 = .ok (.iconst 5, 1) := by decide +kernel
theorem dX11_coatOf_19 : decode cX11_coatOf 19 = .ok (.invokevirtual 95, 3) := by decide +kernel
theorem dX11_coatOf_22 : decode cX11_coatOf 22 = .ok (.ireturn, 1) := by decide +kernel
theorem dX11_coatOf_23 : decode cX11_coatOf 23 = .ok (.aload_n 0, 1) := by decide +kernel
theorem dX11_coatOf_24 : decode cX11_coatOf 24 = .ok (.getfield 81, 3) := by decide +kernel
theorem dX11_coatOf_27 : decode cX11_coatOf 27 = .ok (.getfield 126, 3) := by decide +kernel
theorem dX11_coatOf_30 : decode cX11_coatOf 30 = .ok (.iload_n 1, 1) := by decide +kernel
theorem dX11_coatOf_31 : decode cX11_coatOf 31 = .ok (.aaload, 1) := by decide +kernel
theorem dX11_coatOf_32 : decode cX11_coatOf 32 = .ok (.astore 4, 2) := by decide +kernel
theorem dX11_coatOf_34 : decode cX11_coatOf 34 = .ok (.iload_n 3, 1) := by decide +kernel
theorem dX11_coatOf_35 : decode cX11_coatOf 35 = .ok (.tableswitch 112 0 6 #[41, 49, 57, 65, 73, 81, 105], 41) := by decide +kernel
theorem dX11_coatOf_76 : decode cX11_coatOf 76 = .ok (.aload 4, 2) := by decide +kernel
theorem dX11_coatOf_78 : decode cX11_coatOf 78 = .ok (.getfield 189, 3) := by decide +kernel
theorem dX11_coatOf_81 : decode cX11_coatOf 81 = .ok (.iload_n 2, 1) := by decide +kernel
theorem dX11_coatOf_82 : decode cX11_coatOf 82 = .ok (.iaload, 1) := by decide +kernel
theorem dX11_coatOf_83 : decode cX11_coatOf 83 = .ok (.ireturn, 1) := by decide +kernel
theorem dX11_coatOf_84 : decode cX11_coatOf 84 = .ok (.aload 4, 2) := by decide +kernel
theorem dX11_coatOf_86 : decode cX11_coatOf 86 = .ok (.getfield 192, 3) := by decide +kernel
theorem dX11_coatOf_89 : decode cX11_coatOf 89 = .ok (.iload_n 2, 1) := by decide +kernel
theorem dX11_coatOf_90 : decode cX11_coatOf 90 = .ok (.iaload, 1) := by decide +kernel
theorem dX11_coatOf_91 : decode cX11_coatOf 91 = .ok (.ireturn, 1) := by decide +kernel
theorem dX11_coatOf_92 : decode cX11_coatOf 92 = .ok (.aload 4, 2) := by decide +kernel
theorem dX11_coatOf_94 : decode cX11_coatOf 94 = .ok (.getfield 195, 3) := by decide +kernel
theorem dX11_coatOf_97 : decode cX11_coatOf 97 = .ok (.iload_n 2, 1) := by decide +kernel
theorem dX11_coatOf_98 : decode cX11_coatOf 98 = .ok (.iaload, 1) := by decide +kernel
theorem dX11_coatOf_99 : decode cX11_coatOf 99 = .ok (.ireturn, 1) := by decide +kernel
theorem dX11_coatOf_100 : decode cX11_coatOf 100 = .ok (.aload 4, 2) := by decide +kernel
theorem dX11_coatOf_102 : decode cX11_coatOf 102 = .ok (.getfield 198, 3) := by decide +kernel
theorem dX11_coatOf_105 : decode cX11_coatOf 105 = .ok (.iload_n 2, 1) := by decide +kernel
theorem dX11_coatOf_106 : decode cX11_coatOf 106 = .ok (.iaload, 1) := by decide +kernel
theorem dX11_coatOf_107 : decode cX11_coatOf 107 = .ok (.ireturn, 1) := by decide +kernel
theorem dX11_coatOf_108 : decode cX11_coatOf 108 = .ok (.aload 4, 2) := by decide +kernel
theorem dX11_coatOf_110 : decode cX11_coatOf 110 = .ok (.getfield 201, 3) := by decide +kernel
theorem dX11_coatOf_113 : decode cX11_coatOf 113 = .ok (.iload_n 2, 1) := by decide +kernel
theorem dX11_coatOf_114 : decode cX11_coatOf 114 = .ok (.iaload, 1) := by decide +kernel
theorem dX11_coatOf_115 : decode cX11_coatOf 115 = .ok (.ireturn, 1) := by decide +kernel
theorem dX11_coatOf_116 : decode cX11_coatOf 116 = .ok (.aload_n 0, 1) := by decide +kernel
theorem dX11_coatOf_117 : decode cX11_coatOf 117 = .ok (.getfield 81, 3) := by decide +kernel
theorem dX11_coatOf_120 : decode cX11_coatOf 120 = .ok (.aload 4, 2) := by decide +kernel
theorem dX11_coatOf_122 : decode cX11_coatOf 122 = .ok (.aload 4, 2) := by decide +kernel
theorem dX11_coatOf_124 : decode cX11_coatOf 124 = .ok (.getfield 192, 3) := by decide +kernel
theorem dX11_coatOf_127 : decode cX11_coatOf 127 = .ok (.iload_n 2, 1) := by decide +kernel
theorem dX11_coatOf_128 : decode cX11_coatOf 128 = .ok (.iaload, 1) := by decide +kernel
theorem dX11_coatOf_129 : decode cX11_coatOf 129 = .ok (.aload 4, 2) := by decide +kernel
theorem dX11_coatOf_131 : decode cX11_coatOf 131 = .ok (.getfield 195, 3) := by decide +kernel
theorem dX11_coatOf_134 : decode cX11_coatOf 134 = .ok (.iload_n 2, 1) := by decide +kernel
theorem dX11_coatOf_135 : decode cX11_coatOf 135 = .ok (.iaload, 1) := by decide +kernel
theorem dX11_coatOf_136 : decode cX11_coatOf 136 = .ok (.invokevirtual 203, 3) := by decide +kernel
theorem dX11_coatOf_139 : decode cX11_coatOf 139 = .ok (.ireturn, 1) := by decide +kernel
theorem dX11_coatOf_140 : decode cX11_coatOf 140 = .ok (.aload 4, 2) := by decide +kernel
theorem dX11_coatOf_142 : decode cX11_coatOf 142 = .ok (.iload_n 2, 1) := by decide +kernel
theorem dX11_coatOf_143 : decode cX11_coatOf 143 = .ok (.invokevirtual 207, 3) := by decide +kernel
theorem dX11_coatOf_146 : decode cX11_coatOf 146 = .ok (.ireturn, 1) := by decide +kernel
theorem dX11_coatOf_147 : decode cX11_coatOf 147 = .ok (.aload_n 0, 1) := by decide +kernel
theorem dX11_coatOf_148 : decode cX11_coatOf 148 = .ok (.iconst 5, 1) := by decide +kernel
theorem dX11_coatOf_149 : decode cX11_coatOf 149 = .ok (.invokevirtual 95, 3) := by decide +kernel
theorem dX11_coatOf_152 : decode cX11_coatOf 152 = .ok (.ireturn, 1) := by decide +kernel
theorem dX11_street_0 : decode cX11_street 0 = .ok (.aload_n 0, 1) := by decide +kernel
theorem dX11_street_1 : decode cX11_street 1 = .ok (.iload_n 1, 1) := by decide +kernel
theorem dX11_street_2 : decode cX11_street 2 = .ok (.invokevirtual 99, 3) := by decide +kernel
theorem dX11_street_5 : decode cX11_street 5 = .ok (.istore_n 2, 1) := by decide +kernel
theorem dX11_street_6 : decode cX11_street 6 = .ok (.iload_n 2, 1) := by decide +kernel
theorem dX11_street_7 : decode cX11_street 7 = .ok (.ifCond .eq 9, 3) := by decide +kernel
theorem dX11_street_10 : decode cX11_street 10 = .ok (.aload_n 0, 1) := by decide +kernel
theorem dX11_street_11 : decode cX11_street 11 = .ok (.iload_n 2, 1) := by decide +kernel
theorem dX11_street_12 : decode cX11_street 12 = .ok (.invokevirtual 95, 3) := by decide +kernel
theorem dX11_street_15 : decode cX11_street 15 = .ok (.ireturn, 1) := by decide +kernel
theorem dX11_street_16 : decode cX11_street 16 = .ok (.aload_n 0, 1) := by decide +kernel
theorem dX11_street_17 : decode cX11_street 17 = .ok (.getfield 85, 3) := by decide +kernel
theorem dX11_street_20 : decode cX11_street 20 = .ok (.aload_n 0, 1) := by decide +kernel
theorem dX11_street_21 : decode cX11_street 21 = .ok (.getfield 81, 3) := by decide +kernel
theorem dX11_street_24 : decode cX11_street 24 = .ok (.invokevirtual 210, 3) := by decide +kernel
theorem dX11_street_27 : decode cX11_street 27 = .ok (.aload_n 0, 1) := by decide +kernel
theorem dX11_street_28 : decode cX11_street 28 = .ok (.getfield 41, 3) := by decide +kernel
theorem dX11_street_31 : decode cX11_street 31 = .ok (.aload_n 0, 1) := by decide +kernel
theorem dX11_street_32 : decode cX11_street 32 = .ok (.getfield 85, 3) := by decide +kernel
theorem dX11_street_35 : decode cX11_street 35 = .ok (.aload_n 0, 1) := by decide +kernel
theorem dX11_street_36 : decode cX11_street 36 = .ok (.getfield 18, 3) := by decide +kernel
theorem dX11_street_39 : decode cX11_street 39 = .ok (.iload_n 1, 1) := by decide +kernel
theorem dX11_street_40 : decode cX11_street 40 = .ok (.aaload, 1) := by decide +kernel
theorem dX11_street_41 : decode cX11_street 41 = .ok (.aload_n 0, 1) := by decide +kernel
theorem dX11_street_42 : decode cX11_street 42 = .ok (.getfield 13, 3) := by decide +kernel
theorem dX11_street_45 : decode cX11_street 45 = .ok (.iload_n 1, 1) := by decide +kernel
theorem dX11_street_46 : decode cX11_street 46 = .ok (.iaload, 1) := by decide +kernel
theorem dX11_street_47 : decode cX11_street 47 = .ok (.invokevirtual 214, 3) := by decide +kernel
theorem dX11_street_50 : decode cX11_street 50 = .ok (.istore_n 3, 1) := by decide +kernel
theorem dX11_street_51 : decode cX11_street 51 = .ok (.aload_n 0, 1) := by decide +kernel
theorem dX11_street_52 : decode cX11_street 52 = .ok (.aload_n 0, 1) := by decide +kernel
theorem dX11_street_53 : decode cX11_street 53 = .ok (.getfield 41, 3) := by decide +kernel
theorem dX11_street_56 : decode cX11_street 56 = .ok (.getfield 218, 3) := by decide +kernel
theorem dX11_street_59 : decode cX11_street 59 = .ok (.putfield 45, 3) := by decide +kernel
theorem dX11_street_62 : decode cX11_street 62 = .ok (.aload_n 0, 1) := by decide +kernel
theorem dX11_street_63 : decode cX11_street 63 = .ok (.getfield 45, 3) := by decide +kernel
theorem dX11_street_66 : decode cX11_street 66 = .ok (.iconst (-1), 1) := by decide +kernel
theorem dX11_street_67 : decode cX11_street 67 = .ok (.if_icmp .eq 10, 3) := by decide +kernel
theorem dX11_street_70 : decode cX11_street 70 = .ok (.aload_n 0, 1) := by decide +kernel
theorem dX11_street_71 : decode cX11_street 71 = .ok (.bipush 6, 2) := by decide +kernel
theorem dX11_street_73 : decode cX11_street 73 = .ok (.invokevirtual 95, 3) := by decide +kernel
theorem dX11_street_76 : decode cX11_street 76 = .ok (.ireturn, 1) := by decide +kernel
theorem dX11_street_77 : decode cX11_street 77 = .ok (.aload_n 0, 1) := by decide +kernel
theorem dX11_street_78 : decode cX11_street 78 = .ok (.getfield 81, 3) := by decide +kernel
theorem dX11_street_81 : decode cX11_street 81 = .ok (.astore 4, 2) := by decide +kernel
theorem dX11_street_83 : decode cX11_street 83 = .ok (.aload_n 0, 1) := by decide +kernel
theorem dX11_street_84 : decode cX11_street 84 = .ok (.aload_n 0, 1) := by decide +kernel
theorem dX11_street_85 : decode cX11_street 85 = .ok (.getfield 85, 3) := by decide +kernel
theorem dX11_street_88 : decode cX11_street 88 = .ok (.putfield 81, 3) := by decide +kernel
theorem dX11_street_91 : decode cX11_street 91 = .ok (.aload_n 0, 1) := by decide +kernel
theorem dX11_street_92 : decode cX11_street 92 = .ok (.aload 4, 2) := by decide +kernel
theorem dX11_street_94 : decode cX11_street 94 = .ok (.putfield 85, 3) := by decide +kernel
theorem dX11_street_97 : decode cX11_street 97 = .ok (.iload_n 3, 1) := by decide +kernel
theorem dX11_street_98 : decode cX11_street 98 = .ok (.ireturn, 1) := by decide +kernel
theorem dX11_fault_0 : decode cX11_fault 0 = .ok (.aload_n 0, 1) := by decide +kernel
theorem dX11_fault_1 : decode cX11_fault 1 = .ok (.getfield 45, 3) := by decide +kernel
theorem dX11_fault_4 : decode cX11_fault 4 = .ok (.ireturn, 1) := by decide +kernel
theorem dX11_seen_0 : decode cX11_seen 0 = .ok (.aload_n 0, 1) := by decide +kernel
theorem dX11_seen_1 : decode cX11_seen 1 = .ok (.iload_n 1, 1) := by decide +kernel
theorem dX11_seen_2 : decode cX11_seen 2 = .ok (.invokevirtual 123, 3) := by decide +kernel
theorem dX11_seen_5 : decode cX11_seen 5 = .ok (.ifCond .eq 11, 3) := by decide +kernel
theorem dX11_seen_8 : decode cX11_seen 8 = .ok (.aload_n 0, 1) := by decide +kernel
theorem dX11_seen_9 : decode cX11_seen 9 = .ok (.iconst 1, 1) := by decide +kernel
theorem dX11_seen_10 : decode cX11_seen 10 = .ok (.bipush 10, 2) := by decide +kernel
theorem dX11_seen_12 : decode cX11_seen 12 = .ok (.invokevirtual 221, 3) := by decide +kernel
theorem dX11_seen_15 : decode cX11_seen 15 = .ok (.ireturn, 1) := by decide +kernel
theorem dX11_seen_16 : decode cX11_seen 16 = .ok (.iload_n 2, 1) := by decide +kernel
theorem dX11_seen_17 : decode cX11_seen 17 = .ok (.bipush 12, 2) := by decide +kernel
theorem dX11_seen_19 : decode cX11_seen 19 = .ok (.invokestatic 91, 3) := by decide +kernel
theorem dX11_seen_22 : decode cX11_seen 22 = .ok (.ifCond .eq 11, 3) := by decide +kernel
theorem dX11_seen_25 : decode cX11_seen 25 = .ok (.aload_n 0, 1) := by decide +kernel
theorem dX11_seen_26 : decode cX11_seen 26 = .ok (.iconst 5, 1) := by decide +kernel
theorem dX11_seen_27 : decode cX11_seen 27 = .ok (.bipush 10, 2) := by decide +kernel
theorem dX11_seen_29 : decode cX11_seen 29 = .ok (.invokevirtual 221, 3) := by decide +kernel
theorem dX11_seen_32 : decode cX11_seen 32 = .ok (.ireturn, 1) := by decide +kernel
theorem dX11_seen_33 : decode cX11_seen 33 = .ok (.iload_n 3, 1) := by decide +kernel
theorem dX11_seen_34 : decode cX11_seen 34 = .ok (.bipush 100, 2) := by decide +kernel
theorem dX11_seen_36 : decode cX11_seen 36 = .ok (.invokestatic 91, 3) := by decide +kernel
theorem dX11_seen_39 : decode cX11_seen 39 = .ok (.ifCond .eq 12, 3) := by decide +kernel
theorem dX11_seen_42 : decode cX11_seen 42 = .ok (.aload_n 0, 1) := by decide +kernel
theorem dX11_seen_43 : decode cX11_seen 43 = .ok (.bipush 6, 2) := by decide +kernel
theorem dX11_seen_45 : decode cX11_seen 45 = .ok (.bipush 10, 2) := by decide +kernel
theorem dX11_seen_47 : decode cX11_seen 47 = .ok (.invokevirtual 221, 3) := by decide +kernel
theorem dX11_seen_50 : decode cX11_seen 50 = .ok (.ireturn, 1) := by decide +kernel
theorem dX11_seen_51 : decode cX11_seen 51 = .ok (.aload_n 0, 1) := by decide +kernel
theorem dX11_seen_52 : decode cX11_seen 52 = .ok (.getfield 81, 3) := by decide +kernel
theorem dX11_seen_55 : decode cX11_seen 55 = .ok (.getfield 126, 3) := by decide +kernel
theorem dX11_seen_58 : decode cX11_seen 58 = .ok (.iload_n 1, 1) := by decide +kernel
theorem dX11_seen_59 : decode cX11_seen 59 = .ok (.aaload, 1) := by decide +kernel
theorem dX11_seen_60 : decode cX11_seen 60 = .ok (.astore 4, 2) := by decide +kernel
theorem dX11_seen_62 : decode cX11_seen 62 = .ok (.aload_n 0, 1) := by decide +kernel
theorem dX11_seen_63 : decode cX11_seen 63 = .ok (.getfield 81, 3) := by decide +kernel
theorem dX11_seen_66 : decode cX11_seen 66 = .ok (.aload 4, 2) := by decide +kernel
theorem dX11_seen_68 : decode cX11_seen 68 = .ok (.aload 4, 2) := by decide +kernel
theorem dX11_seen_70 : decode cX11_seen 70 = .ok (.iload_n 2, 1) := by decide +kernel
theorem dX11_seen_71 : decode cX11_seen 71 = .ok (.invokevirtual 224, 3) := by decide +kernel
theorem dX11_seen_74 : decode cX11_seen 74 = .ok (.iload_n 2, 1) := by decide +kernel
theorem dX11_seen_75 : decode cX11_seen 75 = .ok (.iload_n 3, 1) := by decide +kernel
theorem dX11_seen_76 : decode cX11_seen 76 = .ok (.invokevirtual 227, 3) := by decide +kernel
theorem dX11_seen_79 : decode cX11_seen 79 = .ok (.ireturn, 1) := by decide +kernel
theorem dX11_wet_0 : decode cX11_wet 0 = .ok (.aload_n 0, 1) := by decide +kernel
theorem dX11_wet_1 : decode cX11_wet 1 = .ok (.iload_n 1, 1) := by decide +kernel
theorem dX11_wet_2 : decode cX11_wet 2 = .ok (.invokevirtual 123, 3) := by decide +kernel
theorem dX11_wet_5 : decode cX11_wet 5 = .ok (.ifCond .eq 9, 3) := by decide +kernel
theorem dX11_wet_8 : decode cX11_wet 8 = .ok (.aload_n 0, 1) := by decide +kernel
theorem dX11_wet_9 : decode cX11_wet 9 = .ok (.iconst 1, 1) := by decide +kernel
theorem dX11_wet_10 : decode cX11_wet 10 = .ok (.invokevirtual 95, 3) := by decide +kernel
theorem dX11_wet_13 : decode cX11_wet 13 = .ok (.ireturn, 1) := by decide +kernel
theorem dX11_wet_14 : decode cX11_wet 14 = .ok (.iload_n 2, 1) := by decide +kernel
theorem dX11_wet_15 : decode cX11_wet 15 = .ok (.bipush 12, 2) := by decide +kernel
theorem dX11_wet_17 : decode cX11_wet 17 = .ok (.invokestatic 91, 3) := by decide +kernel
theorem dX11_wet_20 : decode cX11_wet 20 = .ok (.ifCond .eq 9, 3) := by decide +kernel
theorem dX11_wet_23 : decode cX11_wet 23 = .ok (.aload_n 0, 1) := by decide +kernel
theorem dX11_wet_24 : decode cX11_wet 24 = .ok (.iconst 5, 1) := by decide +kernel
theorem dX11_wet_25 : decode cX11_wet 25 = .ok (.invokevirtual 95, 3) := by decide +kernel
theorem dX11_wet_28 : decode cX11_wet 28 = .ok (.ireturn, 1) := by decide +kernel
theorem dX11_wet_29 : decode cX11_wet 29 = .ok (.iload_n 3, 1) := by decide +kernel
theorem dX11_wet_30 : decode cX11_wet 30 = .ok (.bipush 100, 2) := by decide +kernel
theorem dX11_wet_32 : decode cX11_wet 32 = .ok (.invokestatic 91, 3) := by decide +kernel
theorem dX11_wet_35 : decode cX11_wet 35 = .ok (.ifCond .eq 10, 3) := by decide +kernel
theorem dX11_wet_38 : decode cX11_wet 38 = .ok (.aload_n 0, 1) := by decide +kernel
theorem dX11_wet_39 : decode cX11_wet 39 = .ok (.bipush 6, 2) := by decide +kernel
theorem dX11_wet_41 : decode cX11_wet 41 = .ok (.invokevirtual 95, 3) := by decide +kernel
theorem dX11_wet_44 : decode cX11_wet 44 = .ok (.ireturn, 1) := by decide +kernel
theorem dX11_wet_45 : decode cX11_wet 45 = .ok (.aload_n 0, 1) := by decide +kernel
theorem dX11_wet_46 : decode cX11_wet 46 = .ok (.getfield 81, 3) := by decide +kernel
theorem dX11_wet_49 : decode cX11_wet 49 = .ok (.getfield 126, 3) := by decide +kernel
theorem dX11_wet_52 : decode cX11_wet 52 = .ok (.iload_n 1, 1) := by decide +kernel
theorem dX11_wet_53 : decode cX11_wet 53 = .ok (.aaload, 1) := by decide +kernel
theorem dX11_wet_54 : decode cX11_wet 54 = .ok (.iload_n 2, 1) := by decide +kernel
theorem dX11_wet_55 : decode cX11_wet 55 = .ok (.iload_n 3, 1) := by decide +kernel
theorem dX11_wet_56 : decode cX11_wet 56 = .ok (.invokevirtual 231, 3) := by decide +kernel
theorem dX11_wet_59 : decode cX11_wet 59 = .ok (.ireturn, 1) := by decide +kernel
theorem dX11_deep_0 : decode cX11_deep 0 = .ok (.aload_n 0, 1) := by decide +kernel
theorem dX11_deep_1 : decode cX11_deep 1 = .ok (.iload_n 1, 1) := by decide +kernel
theorem dX11_deep_2 : decode cX11_deep 2 = .ok (.invokevirtual 123, 3) := by decide +kernel
theorem dX11_deep_5 : decode cX11_deep 5 = .ok (.ifCond .eq 9, 3) := by decide +kernel
theorem dX11_deep_8 : decode cX11_deep 8 = .ok (.aload_n 0, 1) := by decide +kernel
theorem dX11_deep_9 : decode cX11_deep 9 = .ok (.iconst 1, 1) := by decide +kernel
theorem dX11_deep_10 : decode cX11_deep 10 = .ok (.invokevirtual 95, 3) := by decide +kernel
theorem dX11_deep_13 : decode cX11_deep 13 = .ok (.ireturn, 1) := by decide +kernel
theorem dX11_deep_14 : decode cX11_deep 14 = .ok (.iload_n 2, 1) := by decide +kernel
theorem dX11_deep_15 : decode cX11_deep 15 = .ok (.bipush 12, 2) := by decide +kernel
theorem dX11_deep_17 : decode cX11_deep 17 = .ok (.invokestatic 91, 3) := by decide +kernel
theorem dX11_deep_20 : decode cX11_deep 20 = .ok (.ifCond .eq 9, 3) := by decide +kernel
theorem dX11_deep_23 : decode cX11_deep 23 = .ok (.aload_n 0, 1) := by decide +kernel
theorem dX11_deep_24 : decode cX11_deep 24 = .ok (.iconst 5, 1) := by decide +kernel
theorem dX11_deep_25 : decode cX11_deep 25 = .ok (.invokevirtual 95, 3) := by decide +kernel
theorem dX11_deep_28 : decode cX11_deep 28 = .ok (.ireturn, 1) := by decide +kernel
theorem dX11_deep_29 : decode cX11_deep 29 = .ok (.aload_n 0, 1) := by decide +kernel
theorem dX11_deep_30 : decode cX11_deep 30 = .ok (.getfield 81, 3) := by decide +kernel
theorem dX11_deep_33 : decode cX11_deep 33 = .ok (.getfield 126, 3) := by decide +kernel
theorem dX11_deep_36 : decode cX11_deep 36 = .ok (.iload_n 1, 1) := by decide +kernel
theorem dX11_deep_37 : decode cX11_deep 37 = .ok (.aaload, 1) := by decide +kernel
theorem dX11_deep_38 : decode cX11_deep 38 = .ok (.iload_n 2, 1) := by decide +kernel
theorem dX11_deep_39 : decode cX11_deep 39 = .ok (.invokevirtual 234, 3) := by decide +kernel
theorem dX11_deep_42 : decode cX11_deep 42 = .ok (.ireturn, 1) := by decide +kernel
theorem dX11_skin_0 : decode cX11_skin 0 = .ok (.aload_n 0, 1) := by decide +kernel
theorem dX11_skin_1 : decode cX11_skin 1 = .ok (.iload_n 1, 1) := by decide +kernel
theorem dX11_skin_2 : decode cX11_skin 2 = .ok (.invokevirtual 123, 3) := by decide +kernel
theorem dX11_skin_5 : decode cX11_skin 5 = .ok (.ifCond .eq 9, 3) := by decide +kernel
theorem dX11_skin_8 : decode cX11_skin 8 = .ok (.aload_n 0, 1) := by decide +kernel
theorem dX11_skin_9 : decode cX11_skin 9 = .ok (.iconst 1, 1) := by decide +kernel
theorem dX11_skin_10 : decode cX11_skin 10 = .ok (.invokevirtual 95, 3) := by decide +kernel
theorem dX11_skin_13 : decode cX11_skin 13 = .ok (.ireturn, 1) := by decide +kernel
theorem dX11_skin_14 : decode cX11_skin 14 = .ok (.aload_n 0, 1) := by decide +kernel
theorem dX11_skin_15 : decode cX11_skin 15 = .ok (.getfield 81, 3) := by decide +kernel
theorem dX11_skin_18 : decode cX11_skin 18 = .ok (.getfield 126, 3) := by decide +kernel
theorem dX11_skin_21 : decode cX11_skin 21 = .ok (.iload_n 1, 1) := by decide +kernel
theorem dX11_skin_22 : decode cX11_skin 22 = .ok (.aaload, 1) := by decide +kernel
theorem dX11_skin_23 : decode cX11_skin 23 = .ok (.invokevirtual 160, 3) := by decide +kernel
theorem dX11_skin_26 : decode cX11_skin 26 = .ok (.ireturn, 1) := by decide +kernel
theorem dX11_hailed_0 : decode cX11_hailed 0 = .ok (.aload_n 0, 1) := by decide +kernel
theorem dX11_hailed_1 : decode cX11_hailed 1 = .ok (.iload_n 1, 1) := by decide +kernel
theorem dX11_hailed_2 : decode cX11_hailed 2 = .ok (.invokevirtual 123, 3) := by decide +kernel
theorem dX11_hailed_5 : decode cX11_hailed 5 = .ok (.ifCond .eq 9, 3) := by decide +kernel
theorem dX11_hailed_8 : decode cX11_hailed 8 = .ok (.aload_n 0, 1) := by decide +kernel
theorem dX11_hailed_9 : decode cX11_hailed 9 = .ok (.iconst 1, 1) := by decide +kernel
theorem dX11_hailed_10 : decode cX11_hailed 10 = .ok (.invokevirtual 95, 3) := by decide +kernel
theorem dX11_hailed_13 : decode cX11_hailed 13 = .ok (.ireturn, 1) := by decide +kernel
theorem dX11_hailed_14 : decode cX11_hailed 14 = .ok (.iload_n 2, 1) := by decide +kernel
theorem dX11_hailed_15 : decode cX11_hailed 15 = .ok (.bipush 12, 2) := by decide +kernel
theorem dX11_hailed_17 : decode cX11_hailed 17 = .ok (.invokestatic 91, 3) := by decide +kernel
theorem dX11_hailed_20 : decode cX11_hailed 20 = .ok (.ifCond .eq 9, 3) := by decide +kernel
theorem dX11_hailed_23 : decode cX11_hailed 23 = .ok (.aload_n 0, 1) := by decide +kernel
theorem dX11_hailed_24 : decode cX11_hailed 24 = .ok (.iconst 5, 1) := by decide +kernel
theorem dX11_hailed_25 : decode cX11_hailed 25 = .ok (.invokevirtual 95, 3) := by decide +kernel
theorem dX11_hailed_28 : decode cX11_hailed 28 = .ok (.ireturn, 1) := by decide +kernel
theorem dX11_hailed_29 : decode cX11_hailed 29 = .ok (.iload_n 3, 1) := by decide +kernel
theorem dX11_hailed_30 : decode cX11_hailed 30 = .ok (.bipush 100, 2) := by decide +kernel
theorem dX11_hailed_32 : decode cX11_hailed 32 = .ok (.invokestatic 91, 3) := by decide +kernel
theorem dX11_hailed_35 : decode cX11_hailed 35 = .ok (.ifCond .eq 10, 3) := by decide +kernel
theorem dX11_hailed_38 : decode cX11_hailed 38 = .ok (.aload_n 0, 1) := by decide +kernel
theorem dX11_hailed_39 : decode cX11_hailed 39 = .ok (.bipush 6, 2) := by decide +kernel
theorem dX11_hailed_41 : decode cX11_hailed 41 = .ok (.invokevirtual 95, 3) := by decide +kernel
theorem dX11_hailed_44 : decode cX11_hailed 44 = .ok (.ireturn, 1) := by decide +kernel
theorem dX11_hailed_45 : decode cX11_hailed 45 = .ok (.aload_n 0, 1) := by decide +kernel
theorem dX11_hailed_46 : decode cX11_hailed 46 = .ok (.getfield 81, 3) := by decide +kernel
theorem dX11_hailed_49 : decode cX11_hailed 49 = .ok (.getfield 126, 3) := by decide +kernel
theorem dX11_hailed_52 : decode cX11_hailed 52 = .ok (.iload_n 1, 1) := by decide +kernel
theorem dX11_hailed_53 : decode cX11_hailed 53 = .ok (.aaload, 1) := by decide +kernel
theorem dX11_hailed_54 : decode cX11_hailed 54 = .ok (.iload_n 2, 1) := by decide +kernel
theorem dX11_hailed_55 : decode cX11_hailed 55 = .ok (.iload_n 3, 1) := by decide +kernel
theorem dX11_hailed_56 : decode cX11_hailed 56 = .ok (.invokevirtual 237, 3) := by decide +kernel
theorem dX11_hailed_59 : decode cX11_hailed 59 = .ok (.ireturn, 1) := by decide +kernel
theorem dX11_razor_0 : decode cX11_razor 0 = .ok (.aload_n 0, 1) := by decide +kernel
theorem dX11_razor_1 : decode cX11_razor 1 = .ok (.iload_n 1, 1) := by decide +kernel
theorem dX11_razor_2 : decode cX11_razor 2 = .ok (.invokevirtual 123, 3) := by decide +kernel
theorem dX11_razor_5 : decode cX11_razor 5 = .ok (.ifCond .ne 12, 3) := by decide +kernel
theorem dX11_razor_8 : decode cX11_razor 8 = .ok (.aload_n 0, 1) := by decide +kernel
theorem dX11_razor_9 : decode cX11_razor 9 = .ok (.iload_n 1, 1) := by decide +kernel
theorem dX11_razor_10 : decode cX11_razor 10 = .ok (.iload_n 2, 1) := by decide +kernel
theorem dX11_razor_11 : decode cX11_razor 11 = .ok (.invokevirtual 186, 3) := by decide +kernel
theorem dX11_razor_14 : decode cX11_razor 14 = .ok (.ifCond .eq 11, 3) := by decide +kernel
theorem dX11_razor_17 : decode cX11_razor 17 = .ok (.aload_n 0, 1) := by decide +kernel
theorem dX11_razor_18 : decode cX11_razor 18 = .ok (.iconst 1, 1) := by decide +kernel
theorem dX11_razor_19 : decode cX11_razor 19 = .ok (.bipush 10, 2) := by decide +kernel
theorem dX11_razor_21 : decode cX11_razor 21 = .ok (.invokevirtual 221, 3) := by decide +kernel
theorem dX11_razor_24 : decode cX11_razor 24 = .ok (.ireturn, 1) := by decide +kernel
theorem dX11_razor_25 : decode cX11_razor 25 = .ok (.iload_n 3, 1) := by decide +kernel
theorem dX11_razor_26 : decode cX11_razor 26 = .ok (.ifCond .eq 16, 3) := by decide +kernel
theorem dX11_razor_29 : decode cX11_razor 29 = .ok (.iload_n 3, 1) := by decide +kernel
theorem dX11_razor_30 : decode cX11_razor 30 = .ok (.iconst 1, 1) := by decide +kernel
theorem dX11_razor_31 : decode cX11_razor 31 = .ok (.if_icmp .eq 11, 3) := by decide +kernel
theorem dX11_razor_34 : decode cX11_razor 34 = .ok (.aload_n 0, 1) := by decide +kernel
theorem dX11_razor_35 : decode cX11_razor 35 = .ok (.iconst 5, 1) := by decide +kernel
theorem dX11_razor_36 : decode cX11_razor 36 = .ok (.bipush 10, 2) := by decide +kernel
theorem dX11_razor_38 : decode cX11_razor 38 = .ok (.invokevirtual 221, 3) := by decide +kernel
theorem dX11_razor_41 : decode cX11_razor 41 = .ok (.ireturn, 1) := by decide +kernel
theorem dX11_razor_42 : decode cX11_razor 42 = .ok (.aload_n 0, 1) := by decide +kernel
theorem dX11_razor_43 : decode cX11_razor 43 = .ok (.getfield 81, 3) := by decide +kernel
theorem dX11_razor_46 : decode cX11_razor 46 = .ok (.getfield 126, 3) := by decide +kernel
theorem dX11_razor_49 : decode cX11_razor 49 = .ok (.iload_n 1, 1) := by decide +kernel
theorem dX11_razor_50 : decode cX11_razor 50 = .ok (.aaload, 1) := by decide +kernel
theorem dX11_razor_51 : decode cX11_razor 51 = .ok (.astore 4, 2) := by decide +kernel
theorem dX11_razor_53 : decode cX11_razor 53 = .ok (.iconst (-1), 1) := by decide +kernel
theorem dX11_razor_54 : decode cX11_razor 54 = .ok (.istore 5, 2) := by decide +kernel
theorem dX11_razor_56 : decode cX11_razor 56 = .ok (.iconst (-1), 1) := by decide +kernel
theorem dX11_razor_57 : decode cX11_razor 57 = .ok (.istore 6, 2) := by decide +kernel
theorem dX11_razor_59 : decode cX11_razor 59 = .ok (.iconst 0, 1) := by decide +kernel
theorem dX11_razor_60 : decode cX11_razor 60 = .ok (.istore 7, 2) := by decide +kernel
theorem dX11_razor_62 : decode cX11_razor 62 = .ok (.iload 7, 2) := by decide +kernel
theorem dX11_razor_64 : decode cX11_razor 64 = .ok (.bipush 12, 2) := by decide +kernel
theorem dX11_razor_66 : decode cX11_razor 66 = .ok (.if_icmp .ge 53, 3) := by decide +kernel
theorem dX11_razor_69 : decode cX11_razor 69 = .ok (.aload 4, 2) := by decide +kernel
theorem dX11_razor_71 : decode cX11_razor 71 = .ok (.iload_n 2, 1) := by decide +kernel
theorem dX11_razor_72 : decode cX11_razor 72 = .ok (.iload 7, 2) := by decide +kernel
theorem dX11_razor_74 : decode cX11_razor 74 = .ok (.invokevirtual 240, 3) := by decide +kernel
theorem dX11_razor_77 : decode cX11_razor 77 = .ok (.ifCond .eq 36, 3) := by decide +kernel
theorem dX11_razor_80 : decode cX11_razor 80 = .ok (.aload 4, 2) := by decide +kernel
theorem dX11_razor_82 : decode cX11_razor 82 = .ok (.iload_n 2, 1) := by decide +kernel
theorem dX11_razor_83 : decode cX11_razor 83 = .ok (.iconst 1, 1) := by decide +kernel
theorem dX11_razor_84 : decode cX11_razor 84 = .ok (.iadd, 1) := by decide +kernel
theorem dX11_razor_85 : decode cX11_razor 85 = .ok (.iload 7, 2) := by decide +kernel
theorem dX11_razor_87 : decode cX11_razor 87 = .ok (.invokevirtual 243, 3) := by decide +kernel
theorem dX11_razor_90 : decode cX11_razor 90 = .ok (.istore 8, 2) := by decide +kernel
theorem dX11_razor_92 : decode cX11_razor 92 = .ok (.iload 5, 2) := by decide +kernel
theorem dX11_razor_94 : decode cX11_razor 94 = .ok (.iconst (-1), 1) := by decide +kernel
theorem dX11_razor_95 : decode cX11_razor 95 = .ok (.if_icmp .eq 10, 3) := by decide +kernel
theorem dX11_razor_98 : decode cX11_razor 98 = .ok (.iload 8, 2) := by decide +kernel
theorem dX11_razor_100 : decode cX11_razor 100 = .ok (.iload 6, 2) := by decide +kernel
theorem dX11_razor_102 : decode cX11_razor 102 = .ok (.if_icmp .ge 11, 3) := by decide +kernel
theorem dX11_razor_105 : decode cX11_razor 105 = .ok (.iload 7, 2) := by decide +kernel
theorem dX11_razor_107 : decode cX11_razor 107 = .ok (.istore 5, 2) := by decide +kernel
theorem dX11_razor_109 : decode cX11_razor 109 = .ok (.iload 8, 2) := by decide +kernel
theorem dX11_razor_111 : decode cX11_razor 111 = .ok (.istore 6, 2) := by decide +kernel
theorem dX11_razor_113 : decode cX11_razor 113 = .ok (.iinc 7 1, 3) := by decide +kernel
theorem dX11_razor_116 : decode cX11_razor 116 = .ok (.goto (-54), 3) := by decide +kernel
theorem dX11_razor_119 : decode cX11_razor 119 = .ok (.iload_n 3, 1) := by decide +kernel
theorem dX11_razor_120 : decode cX11_razor 120 = .ok (.ifCond .ne 8, 3) := by decide +kernel
theorem dX11_razor_123 : decode cX11_razor 123 = .ok (.iload 5, 2) := by decide +kernel
theorem dX11_razor_125 : decode cX11_razor 125 = .ok (.goto 5, 3) := by decide +kernel
theorem dX11_razor_128 : decode cX11_razor 128 = .ok (.iload 6, 2) := by decide +kernel
theorem dX11_razor_130 : decode cX11_razor 130 = .ok (.ireturn, 1) := by decide +kernel
theorem dX11_hidden_0 : decode cX11_hidden 0 = .ok (.aload_n 0, 1) := by decide +kernel
theorem dX11_hidden_1 : decode cX11_hidden 1 = .ok (.iload_n 1, 1) := by decide +kernel
theorem dX11_hidden_2 : decode cX11_hidden 2 = .ok (.invokevirtual 123, 3) := by decide +kernel
theorem dX11_hidden_5 : decode cX11_hidden 5 = .ok (.ifCond .eq 9, 3) := by decide +kernel
theorem dX11_hidden_8 : decode cX11_hidden 8 = .ok (.aload_n 0, 1) := by decide +kernel
theorem dX11_hidden_9 : decode cX11_hidden 9 = .ok (.iconst 1, 1) := by decide +kernel
theorem dX11_hidden_10 : decode cX11_hidden 10 = .ok (.invokevirtual 95, 3) := by decide +kernel
theorem dX11_hidden_13 : decode cX11_hidden 13 = .ok (.ireturn, 1) := by decide +kernel
theorem dX11_hidden_14 : decode cX11_hidden 14 = .ok (.iload_n 2, 1) := by decide +kernel
theorem dX11_hidden_15 : decode cX11_hidden 15 = .ok (.bipush 100, 2) := by decide +kernel
theorem dX11_hidden_17 : decode cX11_hidden 17 = .ok (.invokestatic 91, 3) := by decide +kernel
theorem dX11_hidden_20 : decode cX11_hidden 20 = .ok (.ifCond .eq 10, 3) := by decide +kernel
theorem dX11_hidden_23 : decode cX11_hidden 23 = .ok (.aload_n 0, 1) := by decide +kernel
theorem dX11_hidden_24 : decode cX11_hidden 24 = .ok (.bipush 6, 2) := by decide +kernel
theorem dX11_hidden_26 : decode cX11_hidden 26 = .ok (.invokevirtual 95, 3) := by decide +kernel
theorem dX11_hidden_29 : decode cX11_hidden 29 = .ok (.ireturn, 1) := by decide +kernel
theorem dX11_hidden_30 : decode cX11_hidden 30 = .ok (.aload_n 0, 1) := by decide +kernel
theorem dX11_hidden_31 : decode cX11_hidden 31 = .ok (.getfield 81, 3) := by decide +kernel
theorem dX11_hidden_34 : decode cX11_hidden 34 = .ok (.getfield 126, 3) := by decide +kernel
theorem dX11_hidden_37 : decode cX11_hidden 37 = .ok (.iload_n 1, 1) := by decide +kernel
theorem dX11_hidden_38 : decode cX11_hidden 38 = .ok (.aaload, 1) := by decide +kernel
theorem dX11_hidden_39 : decode cX11_hidden 39 = .ok (.astore_n 3, 1) := by decide +kernel
theorem dX11_hidden_40 : decode cX11_hidden 40 = .ok (.iconst 1, 1) := by decide +kernel
theorem dX11_hidden_41 : decode cX11_hidden 41 = .ok (.aload_n 3, 1) := by decide +kernel
theorem dX11_hidden_42 : decode cX11_hidden 42 = .ok (.getfield 157, 3) := by decide +kernel
theorem dX11_hidden_45 : decode cX11_hidden 45 = .ok (.ishl, 1) := by decide +kernel
theorem dX11_hidden_46 : decode cX11_hidden 46 = .ok (.iconst 1, 1) := by decide +kernel
theorem dX11_hidden_47 : decode cX11_hidden 47 = .ok (.isub, 1) := by decide +kernel
theorem dX11_hidden_48 : decode cX11_hidden 48 = .ok (.aload_n 0, 1) := by decide +kernel
theorem dX11_hidden_49 : decode cX11_hidden 49 = .ok (.getfield 81, 3) := by decide +kernel
theorem dX11_hidden_52 : decode cX11_hidden 52 = .ok (.aload_n 3, 1) := by decide +kernel
theorem dX11_hidden_53 : decode cX11_hidden 53 = .ok (.iload_n 2, 1) := by decide +kernel
theorem dX11_hidden_54 : decode cX11_hidden 54 = .ok (.invokevirtual 246, 3) := by decide +kernel
theorem dX11_hidden_57 : decode cX11_hidden 57 = .ok (.iconst (-1), 1) := by decide +kernel
theorem dX11_hidden_58 : decode cX11_hidden 58 = .ok (.ixor, 1) := by decide +kernel
theorem dX11_hidden_59 : decode cX11_hidden 59 = .ok (.iand, 1) := by decide +kernel
theorem dX11_hidden_60 : decode cX11_hidden 60 = .ok (.ireturn, 1) := by decide +kernel
theorem dX11_shown_0 : decode cX11_shown 0 = .ok (.aload_n 0, 1) := by decide +kernel
theorem dX11_shown_1 : decode cX11_shown 1 = .ok (.iload_n 1, 1) := by decide +kernel
theorem dX11_shown_2 : decode cX11_shown 2 = .ok (.invokevirtual 123, 3) := by decide +kernel
theorem dX11_shown_5 : decode cX11_shown 5 = .ok (.ifCond .eq 9, 3) := by decide +kernel
theorem dX11_shown_8 : decode cX11_shown 8 = .ok (.aload_n 0, 1) := by decide +kernel
theorem dX11_shown_9 : decode cX11_shown 9 = .ok (.iconst 1, 1) := by decide +kernel
theorem dX11_shown_10 : decode cX11_shown 10 = .ok (.invokevirtual 95, 3) := by decide +kernel
theorem dX11_shown_13 : decode cX11_shown 13 = .ok (.ireturn, 1) := by decide +kernel
theorem dX11_shown_14 : decode cX11_shown 14 = .ok (.iload_n 2, 1) := by decide +kernel
theorem dX11_shown_15 : decode cX11_shown 15 = .ok (.bipush 100, 2) := by decide +kernel
theorem dX11_shown_17 : decode cX11_shown 17 = .ok (.invokestatic 91, 3) := by decide +kernel
theorem dX11_shown_20 : decode cX11_shown 20 = .ok (.ifCond .eq 10, 3) := by decide +kernel
theorem dX11_shown_23 : decode cX11_shown 23 = .ok (.aload_n 0, 1) := by decide +kernel
theorem dX11_shown_24 : decode cX11_shown 24 = .ok (.bipush 6, 2) := by decide +kernel
theorem dX11_shown_26 : decode cX11_shown 26 = .ok (.invokevirtual 95, 3) := by decide +kernel
theorem dX11_shown_29 : decode cX11_shown 29 = .ok (.ireturn, 1) := by decide +kernel
theorem dX11_shown_30 : decode cX11_shown 30 = .ok (.aload_n 0, 1) := by decide +kernel
theorem dX11_shown_31 : decode cX11_shown 31 = .ok (.getfield 81, 3) := by decide +kernel
theorem dX11_shown_34 : decode cX11_shown 34 = .ok (.getfield 126, 3) := by decide +kernel
theorem dX11_shown_37 : decode cX11_shown 37 = .ok (.iload_n 1, 1) := by decide +kernel
theorem dX11_shown_38 : decode cX11_shown 38 = .ok (.aaload, 1) := by decide +kernel
theorem dX11_shown_39 : decode cX11_shown 39 = .ok (.astore_n 3, 1) := by decide +kernel
theorem dX11_shown_40 : decode cX11_shown 40 = .ok (.iconst 0, 1) := by decide +kernel
theorem dX11_shown_41 : decode cX11_shown 41 = .ok (.istore 4, 2) := by decide +kernel
theorem dX11_shown_43 : decode cX11_shown 43 = .ok (.iconst 0, 1) := by decide +kernel
theorem dX11_shown_44 : decode cX11_shown 44 = .ok (.istore 5, 2) := by decide +kernel
theorem dX11_shown_46 : decode cX11_shown 46 = .ok (.iload 5, 2) := by decide +kernel
theorem dX11_shown_48 : decode cX11_shown 48 = .ok (.bipush 12, 2) := by decide +kernel
theorem dX11_shown_50 : decode cX11_shown 50 = .ok (.if_icmp .ge 44, 3) := by decide +kernel
theorem dX11_shown_53 : decode cX11_shown 53 = .ok (.aload_n 0, 1) := by decide +kernel
theorem dX11_shown_54 : decode cX11_shown 54 = .ok (.getfield 81, 3) := by decide +kernel
theorem dX11_shown_57 : decode cX11_shown 57 = .ok (.aload_n 3, 1) := by decide +kernel
theorem dX11_shown_58 : decode cX11_shown 58 = .ok (.aload_n 3, 1) := by decide +kernel
theorem dX11_shown_59 : decode cX11_shown 59 = .ok (.iload 5, 2) := by decide +kernel
theorem dX11_shown_61 : decode cX11_shown 61 = .ok (.iload_n 2, 1) := by decide +kernel
theorem dX11_shown_62 : decode cX11_shown 62 = .ok (.invokevirtual 237, 3) := by decide +kernel
theorem dX11_shown_65 : decode cX11_shown 65 = .ok (.iload 5, 2) := by decide +kernel
theorem dX11_shown_67 : decode cX11_shown 67 = .ok (.iconst 0, 1) := by decide +kernel
theorem dX11_shown_68 : decode cX11_shown 68 = .ok (.invokevirtual 227, 3) := by decide +kernel
theorem dX11_shown_71 : decode cX11_shown 71 = .ok (.istore 6, 2) := by decide +kernel
theorem dX11_shown_73 : decode cX11_shown 73 = .ok (.iload 6, 2) := by decide +kernel
theorem dX11_shown_75 : decode cX11_shown 75 = .ok (.iconst (-1), 1) := by decide +kernel
theorem dX11_shown_76 : decode cX11_shown 76 = .ok (.if_icmp .eq 12, 3) := by decide +kernel
theorem dX11_shown_79 : decode cX11_shown 79 = .ok (.iload 4, 2) := by decide +kernel
theorem dX11_shown_81 : decode cX11_shown 81 = .ok (.iconst 1, 1) := by decide +kernel
theorem dX11_shown_82 : decode cX11_shown 82 = .ok (.iload 6, 2) := by decide +kernel
theorem dX11_shown_84 : decode cX11_shown 84 = .ok (.ishl, 1) := by decide +kernel
theorem dX11_shown_85 : decode cX11_shown 85 = .ok (.ior, 1) := by decide +kernel
theorem dX11_shown_86 : decode cX11_shown 86 = .ok (.istore 4, 2) := by decide +kernel
theorem dX11_shown_88 : decode cX11_shown 88 = .ok (.iinc 5 1, 3) := by decide +kernel
theorem dX11_shown_91 : decode cX11_shown 91 = .ok (.goto (-45), 3) := by decide +kernel
theorem dX11_shown_94 : decode cX11_shown 94 = .ok (.iload 4, 2) := by decide +kernel
theorem dX11_shown_96 : decode cX11_shown 96 = .ok (.aload_n 0, 1) := by decide +kernel
theorem dX11_shown_97 : decode cX11_shown 97 = .ok (.getfield 81, 3) := by decide +kernel
theorem dX11_shown_100 : decode cX11_shown 100 = .ok (.aload_n 3, 1) := by decide +kernel
theorem dX11_shown_101 : decode cX11_shown 101 = .ok (.iconst 0, 1) := by decide +kernel
theorem dX11_shown_102 : decode cX11_shown 102 = .ok (.invokevirtual 246, 3) := by decide +kernel
theorem dX11_shown_105 : decode cX11_shown 105 = .ok (.iconst (-1), 1) := by decide +kernel
theorem dX11_shown_106 : decode cX11_shown 106 = .ok (.ixor, 1) := by decide +kernel
theorem dX11_shown_107 : decode cX11_shown 107 = .ok (.iand, 1) := by decide +kernel
theorem dX11_shown_108 : decode cX11_shown 108 = .ok (.ireturn, 1) := by decide +kernel
theorem dX11_firstWet_0 : decode cX11_firstWet 0 = .ok (.aload_n 0, 1) := by decide +kernel
theorem dX11_firstWet_1 : decode cX11_firstWet 1 = .ok (.iload_n 1, 1) := by decide +kernel
theorem dX11_firstWet_2 : decode cX11_firstWet 2 = .ok (.invokevirtual 123, 3) := by decide +kernel
theorem dX11_firstWet_5 : decode cX11_firstWet 5 = .ok (.ifCond .ne 12, 3) := by decide +kernel
theorem dX11_firstWet_8 : decode cX11_firstWet 8 = .ok (.aload_n 0, 1) := by decide +kernel
theorem dX11_firstWet_9 : decode cX11_firstWet 9 = .ok (.iload_n 1, 1) := by decide +kernel
theorem dX11_firstWet_10 : decode cX11_firstWet 10 = .ok (.iload_n 2, 1) := by decide +kernel
theorem dX11_firstWet_11 : decode cX11_firstWet 11 = .ok (.invokevirtual 186, 3) := by decide +kernel
theorem dX11_firstWet_14 : decode cX11_firstWet 14 = .ok (.ifCond .eq 11, 3) := by decide +kernel
theorem dX11_firstWet_17 : decode cX11_firstWet 17 = .ok (.aload_n 0, 1) := by decide +kernel
theorem dX11_firstWet_18 : decode cX11_firstWet 18 = .ok (.iconst 1, 1) := by decide +kernel
theorem dX11_firstWet_19 : decode cX11_firstWet 19 = .ok (.bipush 10, 2) := by decide +kernel
theorem dX11_firstWet_21 : decode cX11_firstWet 21 = .ok (.invokevirtual 221, 3) := by decide +kernel
theorem dX11_firstWet_24 : decode cX11_firstWet 24 = .ok (.ireturn, 1) := by decide +kernel
theorem dX11_firstWet_25 : decode cX11_firstWet 25 = .ok (.aload_n 0, 1) := by decide +kernel
theorem dX11_firstWet_26 : decode cX11_firstWet 26 = .ok (.getfield 81, 3) := by decide +kernel
theorem dX11_firstWet_29 : decode cX11_firstWet 29 = .ok (.getfield 126, 3) := by decide +kernel
theorem dX11_firstWet_32 : decode cX11_firstWet 32 = .ok (.iload_n 1, 1) := by decide +kernel
theorem dX11_firstWet_33 : decode cX11_firstWet 33 = .ok (.aaload, 1) := by decide +kernel
theorem dX11_firstWet_34 : decode cX11_firstWet 34 = .ok (.astore_n 3, 1) := by decide +kernel
theorem dX11_firstWet_35 : decode cX11_firstWet 35 = .ok (.iconst 0, 1) := by decide +kernel
theorem dX11_firstWet_36 : decode cX11_firstWet 36 = .ok (.istore 4, 2) := by decide +kernel
theorem dX11_firstWet_38 : decode cX11_firstWet 38 = .ok (.iload 4, 2) := by decide +kernel
theorem dX11_firstWet_40 : decode cX11_firstWet 40 = .ok (.bipush 100, 2) := by decide +kernel
theorem dX11_firstWet_42 : decode cX11_firstWet 42 = .ok (.if_icmp .ge 29, 3) := by decide +kernel
theorem dX11_firstWet_45 : decode cX11_firstWet 45 = .ok (.aload_n 0, 1) := by decide +kernel
theorem dX11_firstWet_46 : decode cX11_firstWet 46 = .ok (.getfield 81, 3) := by decide +kernel
theorem dX11_firstWet_49 : decode cX11_firstWet 49 = .ok (.aload_n 3, 1) := by decide +kernel
theorem dX11_firstWet_50 : decode cX11_firstWet 50 = .ok (.iload 4, 2) := by decide +kernel
theorem dX11_firstWet_52 : decode cX11_firstWet 52 = .ok (.invokevirtual 246, 3) := by decide +kernel
theorem dX11_firstWet_55 : decode cX11_firstWet 55 = .ok (.iload_n 2, 1) := by decide +kernel
theorem dX11_firstWet_56 : decode cX11_firstWet 56 = .ok (.ishr, 1) := by decide +kernel
theorem dX11_firstWet_57 : decode cX11_firstWet 57 = .ok (.iconst 1, 1) := by decide +kernel
theorem dX11_firstWet_58 : decode cX11_firstWet 58 = .ok (.iand, 1) := by decide +kernel
theorem dX11_firstWet_59 : decode cX11_firstWet 59 = .ok (.ifCond .eq 6, 3) := by decide +kernel
theorem dX11_firstWet_62 : decode cX11_firstWet 62 = .ok (.iload 4, 2) := by decide +kernel
theorem dX11_firstWet_64 : decode cX11_firstWet 64 = .ok (.ireturn, 1) := by decide +kernel
theorem dX11_firstWet_65 : decode cX11_firstWet 65 = .ok (.iinc 4 1, 3) := by decide +kernel
theorem dX11_firstWet_68 : decode cX11_firstWet 68 = .ok (.goto (-30), 3) := by decide +kernel
theorem dX11_firstWet_71 : decode cX11_firstWet 71 = .ok (.iconst (-1), 1) := by decide +kernel
theorem dX11_firstWet_72 : decode cX11_firstWet 72 = .ok (.ireturn, 1) := by decide +kernel
theorem dX11_paint_0 : decode cX11_paint 0 = .ok (.aload_n 0, 1) := by decide +kernel
theorem dX11_paint_1 : decode cX11_paint 1 = .ok (.iload_n 1, 1) := by decide +kernel
theorem dX11_paint_2 : decode cX11_paint 2 = .ok (.invokevirtual 123, 3) := by decide +kernel
theorem dX11_paint_5 : decode cX11_paint 5 = .ok (.ifCond .eq 11, 3) := by decide +kernel
theorem dX11_paint_8 : decode cX11_paint 8 = .ok (.aload_n 0, 1) := by decide +kernel
theorem dX11_paint_9 : decode cX11_paint 9 = .ok (.iconst 1, 1) := by decide +kernel
theorem dX11_paint_10 : decode cX11_paint 10 = .ok (.bipush 10, 2) := by decide +kernel
theorem dX11_paint_12 : decode cX11_paint 12 = .ok (.invokevirtual 221, 3) := by decide +kernel
theorem dX11_paint_15 : decode cX11_paint 15 = .ok (.ireturn, 1) := by decide +kernel
theorem dX11_paint_16 : decode cX11_paint 16 = .ok (.iload_n 2, 1) := by decide +kernel
theorem dX11_paint_17 : decode cX11_paint 17 = .ok (.bipush 12, 2) := by decide +kernel
theorem dX11_paint_19 : decode cX11_paint 19 = .ok (.invokestatic 91, 3) := by decide +kernel
theorem dX11_paint_22 : decode cX11_paint 22 = .ok (.ifCond .ne 12, 3) := by decide +kernel
theorem dX11_paint_25 : decode cX11_paint 25 = .ok (.iload_n 3, 1) := by decide +kernel
theorem dX11_paint_26 : decode cX11_paint 26 = .ok (.bipush 100, 2) := by decide +kernel
theorem dX11_paint_28 : decode cX11_paint 28 = .ok (.invokestatic 91, 3) := by decide +kernel
theorem dX11_paint_31 : decode cX11_paint 31 = .ok (.ifCond .eq 12, 3) := by decide +kernel
theorem dX11_paint_34 : decode cX11_paint 34 = .ok (.aload_n 0, 1) := by decide +kernel
theorem dX11_paint_35 : decode cX11_paint 35 = .ok (.bipush 6, 2) := by decide +kernel
theorem dX11_paint_37 : decode cX11_paint 37 = .ok (.bipush 10, 2) := by decide +kernel
theorem dX11_paint_39 : decode cX11_paint 39 = .ok (.invokevirtual 221, 3) := by decide +kernel
theorem dX11_paint_42 : decode cX11_paint 42 = .ok (.ireturn, 1) := by decide +kernel
theorem dX11_paint_43 : decode cX11_paint 43 = .ok (.aload_n 0, 1) := by decide +kernel
theorem dX11_paint_44 : decode cX11_paint 44 = .ok (.getfield 81, 3) := by decide +kernel
theorem dX11_paint_47 : decode cX11_paint 47 = .ok (.getfield 126, 3) := by decide +kernel
theorem dX11_paint_50 : decode cX11_paint 50 = .ok (.iload_n 1, 1) := by decide +kernel
theorem dX11_paint_51 : decode cX11_paint 51 = .ok (.aaload, 1) := by decide +kernel
theorem dX11_paint_52 : decode cX11_paint 52 = .ok (.astore 4, 2) := by decide +kernel
theorem dX11_paint_54 : decode cX11_paint 54 = .ok (.aload 4, 2) := by decide +kernel
theorem dX11_paint_56 : decode cX11_paint 56 = .ok (.getfield 157, 3) := by decide +kernel
theorem dX11_paint_59 : decode cX11_paint 59 = .ok (.bipush 8, 2) := by decide +kernel
theorem dX11_paint_61 : decode cX11_paint 61 = .ok (.if_icmp .lt 12, 3) := by decide +kernel
theorem dX11_paint_64 : decode cX11_paint 64 = .ok (.aload_n 0, 1) := by decide +kernel
theorem dX11_paint_65 : decode cX11_paint 65 = .ok (.bipush 7, 2) := by decide +kernel
theorem dX11_paint_67 : decode cX11_paint 67 = .ok (.bipush 10, 2) := by decide +kernel
theorem dX11_paint_69 : decode cX11_paint 69 = .ok (.invokevirtual 221, 3) := by decide +kernel
theorem dX11_paint_72 : decode cX11_paint 72 = .ok (.ireturn, 1) := by decide +kernel
theorem dX11_paint_73 : decode cX11_paint 73 = .ok (.aload_n 0, 1) := by decide +kernel
theorem dX11_paint_74 : decode cX11_paint 74 = .ok (.aload 4, 2) := by decide +kernel
theorem dX11_paint_76 : decode cX11_paint 76 = .ok (.aload 4, 2) := by decide +kernel
theorem dX11_paint_78 : decode cX11_paint 78 = .ok (.iload_n 2, 1) := by decide +kernel
theorem dX11_paint_79 : decode cX11_paint 79 = .ok (.iload_n 3, 1) := by decide +kernel
theorem dX11_paint_80 : decode cX11_paint 80 = .ok (.invokevirtual 249, 3) := by decide +kernel
theorem dX11_paint_83 : decode cX11_paint 83 = .ok (.invokevirtual 252, 3) := by decide +kernel
theorem dX11_paint_86 : decode cX11_paint 86 = .ok (.ireturn, 1) := by decide +kernel
theorem dX11_gap_0 : decode cX11_gap 0 = .ok (.aload_n 0, 1) := by decide +kernel
theorem dX11_gap_1 : decode cX11_gap 1 = .ok (.iload_n 1, 1) := by decide +kernel
theorem dX11_gap_2 : decode cX11_gap 2 = .ok (.invokevirtual 123, 3) := by decide +kernel
theorem dX11_gap_5 : decode cX11_gap 5 = .ok (.ifCond .ne 12, 3) := by decide +kernel
theorem dX11_gap_8 : decode cX11_gap 8 = .ok (.iload_n 2, 1) := by decide +kernel
theorem dX11_gap_9 : decode cX11_gap 9 = .ok (.bipush 8, 2) := by decide +kernel
theorem dX11_gap_11 : decode cX11_gap 11 = .ok (.invokestatic 91, 3) := by decide +kernel
theorem dX11_gap_14 : decode cX11_gap 14 = .ok (.ifCond .eq 11, 3) := by decide +kernel
theorem dX11_gap_17 : decode cX11_gap 17 = .ok (.aload_n 0, 1) := by decide +kernel
theorem dX11_gap_18 : decode cX11_gap 18 = .ok (.iconst 1, 1) := by decide +kernel
theorem dX11_gap_19 : decode cX11_gap 19 = .ok (.bipush 10, 2) := by decide +kernel
theorem dX11_gap_21 : decode cX11_gap 21 = .ok (.invokevirtual 221, 3) := by decide +kernel
theorem dX11_gap_24 : decode cX11_gap 24 = .ok (.ireturn, 1) := by decide +kernel
theorem dX11_gap_25 : decode cX11_gap 25 = .ok (.aload_n 0, 1) := by decide +kernel
theorem dX11_gap_26 : decode cX11_gap 26 = .ok (.getfield 81, 3) := by decide +kernel
theorem dX11_gap_29 : decode cX11_gap 29 = .ok (.getfield 126, 3) := by decide +kernel
theorem dX11_gap_32 : decode cX11_gap 32 = .ok (.iload_n 1, 1) := by decide +kernel
theorem dX11_gap_33 : decode cX11_gap 33 = .ok (.aaload, 1) := by decide +kernel
theorem dX11_gap_34 : decode cX11_gap 34 = .ok (.astore_n 3, 1) := by decide +kernel
theorem dX11_gap_35 : decode cX11_gap 35 = .ok (.iconst (-1), 1) := by decide +kernel
theorem dX11_gap_36 : decode cX11_gap 36 = .ok (.istore 4, 2) := by decide +kernel
theorem dX11_gap_38 : decode cX11_gap 38 = .ok (.iconst 0, 1) := by decide +kernel
theorem dX11_gap_39 : decode cX11_gap 39 = .ok (.istore 5, 2) := by decide +kernel
theorem dX11_gap_41 : decode cX11_gap 41 = .ok (.iconst 0, 1) := by decide +kernel
theorem dX11_gap_42 : decode cX11_gap 42 = .ok (.istore 6, 2) := by decide +kernel
theorem dX11_gap_44 : decode cX11_gap 44 = .ok (.iload 6, 2) := by decide +kernel
theorem dX11_gap_46 : decode cX11_gap 46 = .ok (.bipush 12, 2) := by decide +kernel
theorem dX11_gap_48 : decode cX11_gap 48 = .ok (.if_icmp .ge 74, 3) := by decide +kernel
theorem dX11_gap_51 : decode cX11_gap 51 = .ok (.aload_n 0, 1) := by decide +kernel
theorem dX11_gap_52 : decode cX11_gap 52 = .ok (.getfield 81, 3) := by decide +kernel
theorem dX11_gap_55 : decode cX11_gap 55 = .ok (.aload_n 3, 1) := by decide +kernel
theorem dX11_gap_56 : decode cX11_gap 56 = .ok (.aload_n 3, 1) := by decide +kernel
theorem dX11_gap_57 : decode cX11_gap 57 = .ok (.iload 6, 2) := by decide +kernel
theorem dX11_gap_59 : decode cX11_gap 59 = .ok (.invokevirtual 224, 3) := by decide +kernel
theorem dX11_gap_62 : decode cX11_gap 62 = .ok (.iload 6, 2) := by decide +kernel
theorem dX11_gap_64 : decode cX11_gap 64 = .ok (.iconst 0, 1) := by decide +kernel
theorem dX11_gap_65 : decode cX11_gap 65 = .ok (.invokevirtual 227, 3) := by decide +kernel
theorem dX11_gap_68 : decode cX11_gap 68 = .ok (.istore 7, 2) := by decide +kernel
theorem dX11_gap_70 : decode cX11_gap 70 = .ok (.iload 7, 2) := by decide +kernel
theorem dX11_gap_72 : decode cX11_gap 72 = .ok (.iconst (-1), 1) := by decide +kernel
theorem dX11_gap_73 : decode cX11_gap 73 = .ok (.if_icmp .eq 14, 3) := by decide +kernel
theorem dX11_gap_76 : decode cX11_gap 76 = .ok (.aload_n 3, 1) := by decide +kernel
theorem dX11_gap_77 : decode cX11_gap 77 = .ok (.getfield 189, 3) := by decide +kernel
theorem dX11_gap_80 : decode cX11_gap 80 = .ok (.iload 7, 2) := by decide +kernel
theorem dX11_gap_82 : decode cX11_gap 82 = .ok (.iaload, 1) := by decide +kernel
theorem dX11_gap_83 : decode cX11_gap 83 = .ok (.iload_n 2, 1) := by decide +kernel
theorem dX11_gap_84 : decode cX11_gap 84 = .ok (.if_icmp .eq 32, 3) := by decide +kernel
theorem dX11_gap_87 : decode cX11_gap 87 = .ok (.aload_n 3, 1) := by decide +kernel
theorem dX11_gap_88 : decode cX11_gap 88 = .ok (.iload 6, 2) := by decide +kernel
theorem dX11_gap_90 : decode cX11_gap 90 = .ok (.invokevirtual 234, 3) := by decide +kernel
theorem dX11_gap_93 : decode cX11_gap 93 = .ok (.istore 8, 2) := by decide +kernel
theorem dX11_gap_95 : decode cX11_gap 95 = .ok (.iload 4, 2) := by decide +kernel
theorem dX11_gap_97 : decode cX11_gap 97 = .ok (.iconst (-1), 1) := by decide +kernel
theorem dX11_gap_98 : decode cX11_gap 98 = .ok (.if_icmp .eq 10, 3) := by decide +kernel
theorem dX11_gap_101 : decode cX11_gap 101 = .ok (.iload 8, 2) := by decide +kernel
theorem dX11_gap_103 : decode cX11_gap 103 = .ok (.iload 5, 2) := by decide +kernel
theorem dX11_gap_105 : decode cX11_gap 105 = .ok (.if_icmp .ge 11, 3) := by decide +kernel
theorem dX11_gap_108 : decode cX11_gap 108 = .ok (.iload 6, 2) := by decide +kernel
theorem dX11_gap_110 : decode cX11_gap 110 = .ok (.istore 4, 2) := by decide +kernel
theorem dX11_gap_112 : decode cX11_gap 112 = .ok (.iload 8, 2) := by decide +kernel
theorem dX11_gap_114 : decode cX11_gap 114 = .ok (.istore 5, 2) := by decide +kernel
theorem dX11_gap_116 : decode cX11_gap 116 = .ok (.iinc 6 1, 3) := by decide +kernel
theorem dX11_gap_119 : decode cX11_gap 119 = .ok (.goto (-75), 3) := by decide +kernel
theorem dX11_gap_122 : decode cX11_gap 122 = .ok (.iload 4, 2) := by decide +kernel
theorem dX11_gap_124 : decode cX11_gap 124 = .ok (.ireturn, 1) := by decide +kernel
theorem dX11_moves_0 : decode cX11_moves 0 = .ok (.iload_n 1, 1) := by decide +kernel
theorem dX11_moves_1 : decode cX11_moves 1 = .ok (.bipush 8, 2) := by decide +kernel
theorem dX11_moves_3 : decode cX11_moves 3 = .ok (.invokestatic 91, 3) := by decide +kernel
theorem dX11_moves_6 : decode cX11_moves 6 = .ok (.ifCond .eq 9, 3) := by decide +kernel
theorem dX11_moves_9 : decode cX11_moves 9 = .ok (.aload_n 0, 1) := by decide +kernel
theorem dX11_moves_10 : decode cX11_moves 10 = .ok (.iconst 1, 1) := by decide +kernel
theorem dX11_moves_11 : decode cX11_moves 11 = .ok (.invokevirtual 95, 3) := by decide +kernel
theorem dX11_moves_14 : decode cX11_moves 14 = .ok (.ireturn, 1) := by decide +kernel
theorem dX11_moves_15 : decode cX11_moves 15 = .ok (.iload_n 2, 1) := by decide +kernel
theorem dX11_moves_16 : decode cX11_moves 16 = .ok (.ifCond .eq 14, 3) := by decide +kernel
theorem dX11_moves_19 : decode cX11_moves 19 = .ok (.iload_n 2, 1) := by decide +kernel
theorem dX11_moves_20 : decode cX11_moves 20 = .ok (.iconst 1, 1) := by decide +kernel
theorem dX11_moves_21 : decode cX11_moves 21 = .ok (.if_icmp .eq 9, 3) := by decide +kernel
theorem dX11_moves_24 : decode cX11_moves 24 = .ok (.aload_n 0, 1) := by decide +kernel
theorem dX11_moves_25 : decode cX11_moves 25 = .ok (.iconst 5, 1) := by decide +kernel
theorem dX11_moves_26 : decode cX11_moves 26 = .ok (.invokevirtual 95, 3) := by decide +kernel
theorem dX11_moves_29 : decode cX11_moves 29 = .ok (.ireturn, 1) := by decide +kernel
theorem dX11_moves_30 : decode cX11_moves 30 = .ok (.iconst 0, 1) := by decide +kernel
theorem dX11_moves_31 : decode cX11_moves 31 = .ok (.istore_n 3, 1) := by decide +kernel
theorem dX11_moves_32 : decode cX11_moves 32 = .ok (.iconst 0, 1) := by decide +kernel
theorem dX11_moves_33 : decode cX11_moves 33 = .ok (.istore 4, 2) := by decide +kernel
theorem dX11_moves_35 : decode cX11_moves 35 = .ok (.iconst 0, 1) := by decide +kernel
theorem dX11_moves_36 : decode cX11_moves 36 = .ok (.istore 5, 2) := by decide +kernel
theorem dX11_moves_38 : decode cX11_moves 38 = .ok (.iload 5, 2) := by decide +kernel
theorem dX11_moves_40 : decode cX11_moves 40 = .ok (.aload_n 0, 1) := by decide +kernel
theorem dX11_moves_41 : decode cX11_moves 41 = .ok (.getfield 81, 3) := by decide +kernel
theorem dX11_moves_44 : decode cX11_moves 44 = .ok (.getfield 144, 3) := by decide +kernel
theorem dX11_moves_47 : decode cX11_moves 47 = .ok (.if_icmp .ge 44, 3) := by decide +kernel
theorem dX11_moves_50 : decode cX11_moves 50 = .ok (.aload_n 0, 1) := by decide +kernel
theorem dX11_moves_51 : decode cX11_moves 51 = .ok (.getfield 81, 3) := by decide +kernel
theorem dX11_moves_54 : decode cX11_moves 54 = .ok (.getfield 126, 3) := by decide +kernel
theorem dX11_moves_57 : decode cX11_moves 57 = .ok (.iload 5, 2) := by decide +kernel
theorem dX11_moves_59 : decode cX11_moves 59 = .ok (.aaload, 1) := by decide +kernel
theorem dX11_moves_60 : decode cX11_moves 60 = .ok (.iload_n 1, 1) := by decide +kernel
theorem dX11_moves_61 : decode cX11_moves 61 = .ok (.invokevirtual 255, 3) := by decide +kernel
theorem dX11_moves_64 : decode cX11_moves 64 = .ok (.istore 6, 2) := by decide +kernel
theorem dX11_moves_66 : decode cX11_moves 66 = .ok (.iload 4, 2) := by decide +kernel
theorem dX11_moves_68 : decode cX11_moves 68 = .ok (.iload 6, 2) := by decide +kernel
theorem dX11_moves_70 : decode cX11_moves 70 = .ok (.iadd, 1) := by decide +kernel
theorem dX11_moves_71 : decode cX11_moves 71 = .ok (.istore 4, 2) := by decide +kernel
theorem dX11_moves_73 : decode cX11_moves 73 = .ok (.iload 6, 2) := by decide +kernel
theorem dX11_moves_75 : decode cX11_moves 75 = .ok (.ifCond .le 10, 3) := by decide +kernel
theorem dX11_moves_78 : decode cX11_moves 78 = .ok (.iload_n 3, 1) := by decide +kernel
theorem dX11_moves_79 : decode cX11_moves 79 = .ok (.iconst 1, 1) := by decide +kernel
theorem dX11_moves_80 : decode cX11_moves 80 = .ok (.iload 5, 2) := by decide +kernel
theorem dX11_moves_82 : decode cX11_moves 82 = .ok (.ishl, 1) := by decide +kernel
theorem dX11_moves_83 : decode cX11_moves 83 = .ok (.ior, 1) := by decide +kernel
theorem dX11_moves_84 : decode cX11_moves 84 = .ok (.istore_n 3, 1) := by decide +kernel
theorem dX11_moves_85 : decode cX11_moves 85 = .ok (.iinc 5 1, 3) := by decide +kernel
theorem dX11_moves_88 : decode cX11_moves 88 = .ok (.goto (-50), 3) := by decide +kernel
theorem dX11_moves_91 : decode cX11_moves 91 = .ok (.iload_n 2, 1) := by decide +kernel
theorem dX11_moves_92 : decode cX11_moves 92 = .ok (.ifCond .ne 7, 3) := by decide +kernel
theorem dX11_moves_95 : decode cX11_moves 95 = .ok (.iload_n 3, 1) := by decide +kernel
theorem dX11_moves_96 : decode cX11_moves 96 = .ok (.goto 5, 3) := by decide +kernel
theorem dX11_moves_99 : decode cX11_moves 99 = .ok (.iload 4, 2) := by decide +kernel
theorem dX11_moves_101 : decode cX11_moves 101 = .ok (.ireturn, 1) := by decide +kernel
theorem dX11_orders_0 : decode cX11_orders 0 = .ok (.aload_n 0, 1) := by decide +kernel
theorem dX11_orders_1 : decode cX11_orders 1 = .ok (.iload_n 1, 1) := by decide +kernel
theorem dX11_orders_2 : decode cX11_orders 2 = .ok (.iload_n 2, 1) := by decide +kernel
theorem dX11_orders_3 : decode cX11_orders 3 = .ok (.iload_n 3, 1) := by decide +kernel
theorem dX11_orders_4 : decode cX11_orders 4 = .ok (.iconst (-1), 1) := by decide +kernel
theorem dX11_orders_5 : decode cX11_orders 5 = .ok (.if_icmp .ge 7, 3) := by decide +kernel
theorem dX11_orders_8 : decode cX11_orders 8 = .ok (.iconst 1, 1) := by decide +kernel
theorem dX11_orders_9 : decode cX11_orders 9 = .ok (.goto 4, 3) := by decide +kernel
theorem dX11_orders_12 : decode cX11_orders 12 = .ok (.iconst 0, 1) := by decide +kernel
theorem dX11_orders_13 : decode cX11_orders 13 = .ok (.invokevirtual 258, 3) := by decide +kernel
theorem dX11_orders_16 : decode cX11_orders 16 = .ok (.istore 4, 2) := by decide +kernel
theorem dX11_orders_18 : decode cX11_orders 18 = .ok (.iload 4, 2) := by decide +kernel
theorem dX11_orders_20 : decode cX11_orders 20 = .ok (.ifCond .eq 10, 3) := by decide +kernel
theorem dX11_orders_23 : decode cX11_orders 23 = .ok (.aload_n 0, 1) := by decide +kernel
theorem dX11_orders_24 : decode cX11_orders 24 = .ok (.iload 4, 2) := by decide +kernel
theorem dX11_orders_26 : decode cX11_orders 26 = .ok (.invokevirtual 95, 3) := by decide +kernel
theorem dX11_orders_29 : decode cX11_orders 29 = .ok (.ireturn, 1) := by decide +kernel
theorem dX11_orders_30 : decode cX11_orders 30 = .ok (.aload_n 0, 1) := by decide +kernel
theorem dX11_orders_31 : decode cX11_orders 31 = .ok (.invokevirtual 262, 3) := by decide +kernel
theorem dX11_orders_34 : decode cX11_orders 34 = .ok (.iconst 0, 1) := by decide +kernel
theorem dX11_orders_35 : decode cX11_orders 35 = .ok (.istore 5, 2) := by decide +kernel
theorem dX11_orders_37 : decode cX11_orders 37 = .ok (.iload 5, 2) := by decide +kernel
theorem dX11_orders_39 : decode cX11_orders 39 = .ok (.iload_n 2, 1) := by decide +kernel
theorem dX11_orders_40 : decode cX11_orders 40 = .ok (.if_icmp .ge 23, 3) := by decide +kernel
theorem dX11_orders_43 : decode cX11_orders 43 = .ok (.aload_n 0, 1) := by decide +kernel
theorem dX11_orders_44 : decode cX11_orders 44 = .ok (.aload_n 0, 1) := by decide +kernel
theorem dX11_orders_45 : decode cX11_orders 45 = .ok (.getfield 18, 3) := by decide +kernel
theorem dX11_orders_48 : decode cX11_orders 48 = .ok (.iload_n 1, 1) := by decide +kernel
theorem dX11_orders_49 : decode cX11_orders 49 = .ok (.aaload, 1) := by decide +kernel
theorem dX11_orders_50 : decode cX11_orders 50 = .ok (.iload 5, 2) := by decide +kernel
theorem dX11_orders_52 : decode cX11_orders 52 = .ok (.laload, 1) := by decide +kernel
theorem dX11_orders_53 : decode cX11_orders 53 = .ok (.l2i, 1) := by decide +kernel
theorem dX11_orders_54 : decode cX11_orders 54 = .ok (.invokevirtual 265, 3) := by decide +kernel
theorem dX11_orders_57 : decode cX11_orders 57 = .ok (.iinc 5 1, 3) := by decide +kernel
theorem dX11_orders_60 : decode cX11_orders 60 = .ok (.goto (-23), 3) := by decide +kernel
theorem dX11_orders_63 : decode cX11_orders 63 = .ok (.iload_n 3, 1) := by decide +kernel
theorem dX11_orders_64 : decode cX11_orders 64 = .ok (.iconst (-1), 1) := by decide +kernel
theorem dX11_orders_65 : decode cX11_orders 65 = .ok (.if_icmp .ne 8, 3) := by decide +kernel
theorem dX11_orders_68 : decode cX11_orders 68 = .ok (.aload_n 0, 1) := by decide +kernel
theorem dX11_orders_69 : decode cX11_orders 69 = .ok (.invokevirtual 269, 3) := by decide +kernel
theorem dX11_orders_72 : decode cX11_orders 72 = .ok (.ireturn, 1) := by decide +kernel
theorem dX11_orders_73 : decode cX11_orders 73 = .ok (.iload_n 3, 1) := by decide +kernel
theorem dX11_orders_74 : decode cX11_orders 74 = .ok (.aload_n 0, 1) := by decide +kernel
theorem dX11_orders_75 : decode cX11_orders 75 = .ok (.getfield 24, 3) := by decide +kernel
theorem dX11_orders_78 : decode cX11_orders 78 = .ok (.invokestatic 272, 3) := by decide +kernel
theorem dX11_orders_81 : decode cX11_orders 81 = .ok (.if_icmp .ge 10, 3) := by decide +kernel
theorem dX11_orders_84 : decode cX11_orders 84 = .ok (.aload_n 0, 1) := by decide +kernel
theorem dX11_orders_85 : decode cX11_orders 85 = .ok (.invokevirtual 277, 3) := by decide +kernel
theorem dX11_orders_88 : decode cX11_orders 88 = .ok (.ifCond .ne 9, 3) := by decide +kernel
theorem dX11_orders_91 : decode cX11_orders 91 = .ok (.aload_n 0, 1) := by decide +kernel
theorem dX11_orders_92 : decode cX11_orders 92 = .ok (.iconst 5, 1) := by decide +kernel
theorem dX11_orders_93 : decode cX11_orders 93 = .ok (.invokevirtual 95, 3) := by decide +kernel
theorem dX11_orders_96 : decode cX11_orders 96 = .ok (.ireturn, 1) := by decide +kernel
theorem dX11_orders_97 : decode cX11_orders 97 = .ok (.aload_n 0, 1) := by decide +kernel
theorem dX11_orders_98 : decode cX11_orders 98 = .ok (.iload_n 3, 1) := by decide +kernel
theorem dX11_orders_99 : decode cX11_orders 99 = .ok (.invokevirtual 281, 3) := by decide +kernel
theorem dX11_orders_102 : decode cX11_orders 102 = .ok (.ireturn, 1) := by decide +kernel
theorem dX11_forged_0 : decode cX11_forged 0 = .ok (.aload_n 0, 1) := by decide +kernel
theorem dX11_forged_1 : decode cX11_forged 1 = .ok (.iload_n 1, 1) := by decide +kernel
theorem dX11_forged_2 : decode cX11_forged 2 = .ok (.iload_n 2, 1) := by decide +kernel
theorem dX11_forged_3 : decode cX11_forged 3 = .ok (.iconst 0, 1) := by decide +kernel
theorem dX11_forged_4 : decode cX11_forged 4 = .ok (.invokevirtual 258, 3) := by decide +kernel
theorem dX11_forged_7 : decode cX11_forged 7 = .ok (.istore_n 3, 1) := by decide +kernel
theorem dX11_forged_8 : decode cX11_forged 8 = .ok (.iload_n 3, 1) := by decide +kernel
theorem dX11_forged_9 : decode cX11_forged 9 = .ok (.ifCond .eq 11, 3) := by decide +kernel
theorem dX11_forged_12 : decode cX11_forged 12 = .ok (.aload_n 0, 1) := by decide +kernel
theorem dX11_forged_13 : decode cX11_forged 13 = .ok (.iload_n 3, 1) := by decide +kernel
theorem dX11_forged_14 : decode cX11_forged 14 = .ok (.bipush 10, 2) := by decide +kernel
theorem dX11_forged_16 : decode cX11_forged 16 = .ok (.invokevirtual 221, 3) := by decide +kernel
theorem dX11_forged_19 : decode cX11_forged 19 = .ok (.ireturn, 1) := by decide +kernel
theorem dX11_forged_20 : decode cX11_forged 20 = .ok (.aload_n 0, 1) := by decide +kernel
theorem dX11_forged_21 : decode cX11_forged 21 = .ok (.invokevirtual 262, 3) := by decide +kernel
theorem dX11_forged_24 : decode cX11_forged 24 = .ok (.iconst 0, 1) := by decide +kernel
theorem dX11_forged_25 : decode cX11_forged 25 = .ok (.istore 4, 2) := by decide +kernel
theorem dX11_forged_27 : decode cX11_forged 27 = .ok (.iload 4, 2) := by decide +kernel
theorem dX11_forged_29 : decode cX11_forged 29 = .ok (.iload_n 2, 1) := by decide +kernel
theorem dX11_forged_30 : decode cX11_forged 30 = .ok (.if_icmp .ge 33, 3) := by decide +kernel
theorem dX11_forged_33 : decode cX11_forged 33 = .ok (.aload_n 0, 1) := by decide +kernel
theorem dX11_forged_34 : decode cX11_forged 34 = .ok (.aload_n 0, 1) := by decide +kernel
theorem dX11_forged_35 : decode cX11_forged 35 = .ok (.getfield 18, 3) := by decide +kernel
theorem dX11_forged_38 : decode cX11_forged 38 = .ok (.iload_n 1, 1) := by decide +kernel
theorem dX11_forged_39 : decode cX11_forged 39 = .ok (.aaload, 1) := by decide +kernel
theorem dX11_forged_40 : decode cX11_forged 40 = .ok (.iload 4, 2) := by decide +kernel
theorem dX11_forged_42 : decode cX11_forged 42 = .ok (.laload, 1) := by decide +kernel
theorem dX11_forged_43 : decode cX11_forged 43 = .ok (.l2i, 1) := by decide +kernel
theorem dX11_forged_44 : decode cX11_forged 44 = .ok (.invokevirtual 265, 3) := by decide +kernel
theorem dX11_forged_47 : decode cX11_forged 47 = .ok (.aload_n 0, 1) := by decide +kernel
theorem dX11_forged_48 : decode cX11_forged 48 = .ok (.invokevirtual 277, 3) := by decide +kernel
theorem dX11_forged_51 : decode cX11_forged 51 = .ok (.ifCond .ne 6, 3) := by decide +kernel
theorem dX11_forged_54 : decode cX11_forged 54 = .ok (.iload 4, 2) := by decide +kernel
theorem dX11_forged_56 : decode cX11_forged 56 = .ok (.ireturn, 1) := by decide +kernel
theorem dX11_forged_57 : decode cX11_forged 57 = .ok (.iinc 4 1, 3) := by decide +kernel
theorem dX11_forged_60 : decode cX11_forged 60 = .ok (.goto (-33), 3) := by decide +kernel
theorem dX11_forged_63 : decode cX11_forged 63 = .ok (.iconst (-1), 1) := by decide +kernel
theorem dX11_forged_64 : decode cX11_forged 64 = .ok (.ireturn, 1) := by decide +kernel
theorem dX11_lane_0 : decode cX11_lane 0 = .ok (.aload_n 0, 1) := by decide +kernel
theorem dX11_lane_1 : decode cX11_lane 1 = .ok (.iload_n 1, 1) := by decide +kernel
theorem dX11_lane_2 : decode cX11_lane 2 = .ok (.invokevirtual 123, 3) := by decide +kernel
theorem dX11_lane_5 : decode cX11_lane 5 = .ok (.ifCond .ne 11, 3) := by decide +kernel
theorem dX11_lane_8 : decode cX11_lane 8 = .ok (.aload_n 0, 1) := by decide +kernel
theorem dX11_lane_9 : decode cX11_lane 9 = .ok (.iload_n 2, 1) := by decide +kernel
theorem dX11_lane_10 : decode cX11_lane 10 = .ok (.invokevirtual 123, 3) := by decide +kernel
theorem dX11_lane_13 : decode cX11_lane 13 = .ok (.ifCond .eq 12, 3) := by decide +kernel
theorem dX11_lane_16 : decode cX11_lane 16 = .ok (.aload_n 0, 1) := by decide +kernel
theorem dX11_lane_17 : decode cX11_lane 17 = .ok (.iconst 1, 1) := by decide +kernel
theorem dX11_lane_18 : decode cX11_lane 18 = .ok (.sipush 1000, 3) := by decide +kernel
theorem dX11_lane_21 : decode cX11_lane 21 = .ok (.invokevirtual 221, 3) := by decide +kernel
theorem dX11_lane_24 : decode cX11_lane 24 = .ok (.ireturn, 1) := by decide +kernel
theorem dX11_lane_25 : decode cX11_lane 25 = .ok (.iload_n 1, 1) := by decide +kernel
theorem dX11_lane_26 : decode cX11_lane 26 = .ok (.iload_n 2, 1) := by decide +kernel
theorem dX11_lane_27 : decode cX11_lane 27 = .ok (.if_icmp .ne 13, 3) := by decide +kernel
theorem dX11_lane_30 : decode cX11_lane 30 = .ok (.aload_n 0, 1) := by decide +kernel
theorem dX11_lane_31 : decode cX11_lane 31 = .ok (.bipush 6, 2) := by decide +kernel
theorem dX11_lane_33 : decode cX11_lane 33 = .ok (.sipush 1000, 3) := by decide +kernel
theorem dX11_lane_36 : decode cX11_lane 36 = .ok (.invokevirtual 221, 3) := by decide +kernel
theorem dX11_lane_39 : decode cX11_lane 39 = .ok (.ireturn, 1) := by decide +kernel
theorem dX11_lane_40 : decode cX11_lane 40 = .ok (.aload_n 0, 1) := by decide +kernel
theorem dX11_lane_41 : decode cX11_lane 41 = .ok (.getfield 81, 3) := by decide +kernel
theorem dX11_lane_44 : decode cX11_lane 44 = .ok (.getfield 176, 3) := by decide +kernel
theorem dX11_lane_47 : decode cX11_lane 47 = .ok (.aload_n 0, 1) := by decide +kernel
theorem dX11_lane_48 : decode cX11_lane 48 = .ok (.getfield 81, 3) := by decide +kernel
theorem dX11_lane_51 : decode cX11_lane 51 = .ok (.getfield 126, 3) := by decide +kernel
theorem dX11_lane_54 : decode cX11_lane 54 = .ok (.iload_n 1, 1) := by decide +kernel
theorem dX11_lane_55 : decode cX11_lane 55 = .ok (.aaload, 1) := by decide +kernel
theorem dX11_lane_56 : decode cX11_lane 56 = .ok (.invokevirtual 284, 3) := by decide +kernel
theorem dX11_lane_59 : decode cX11_lane 59 = .ok (.isub, 1) := by decide +kernel
theorem dX11_lane_60 : decode cX11_lane 60 = .ok (.aload_n 0, 1) := by decide +kernel
theorem dX11_lane_61 : decode cX11_lane 61 = .ok (.getfield 81, 3) := by decide +kernel
theorem dX11_lane_64 : decode cX11_lane 64 = .ok (.getfield 126, 3) := by decide +kernel
theorem dX11_lane_67 : decode cX11_lane 67 = .ok (.iload_n 2, 1) := by decide +kernel
theorem dX11_lane_68 : decode cX11_lane 68 = .ok (.aaload, 1) := by decide +kernel
theorem dX11_lane_69 : decode cX11_lane 69 = .ok (.invokevirtual 284, 3) := by decide +kernel
theorem dX11_lane_72 : decode cX11_lane 72 = .ok (.isub, 1) := by decide +kernel
theorem dX11_lane_73 : decode cX11_lane 73 = .ok (.ireturn, 1) := by decide +kernel
theorem dX11_price_0 : decode cX11_price 0 = .ok (.aload_n 0, 1) := by decide +kernel
theorem dX11_price_1 : decode cX11_price 1 = .ok (.iload_n 1, 1) := by decide +kernel
theorem dX11_price_2 : decode cX11_price 2 = .ok (.invokevirtual 123, 3) := by decide +kernel
theorem dX11_price_5 : decode cX11_price 5 = .ok (.ifCond .eq 9, 3) := by decide +kernel
theorem dX11_price_8 : decode cX11_price 8 = .ok (.aload_n 0, 1) := by decide +kernel
theorem dX11_price_9 : decode cX11_price 9 = .ok (.iconst 1, 1) := by decide +kernel
theorem dX11_price_10 : decode cX11_price 10 = .ok (.invokevirtual 95, 3) := by decide +kernel
theorem dX11_price_13 : decode cX11_price 13 = .ok (.ireturn, 1) := by decide +kernel
theorem dX11_price_14 : decode cX11_price 14 = .ok (.iload_n 2, 1) := by decide +kernel
theorem dX11_price_15 : decode cX11_price 15 = .ok (.bipush 100, 2) := by decide +kernel
theorem dX11_price_17 : decode cX11_price 17 = .ok (.invokestatic 91, 3) := by decide +kernel
theorem dX11_price_20 : decode cX11_price 20 = .ok (.ifCond .eq 10, 3) := by decide +kernel
theorem dX11_price_23 : decode cX11_price 23 = .ok (.aload_n 0, 1) := by decide +kernel
theorem dX11_price_24 : decode cX11_price 24 = .ok (.bipush 6, 2) := by decide +kernel
theorem dX11_price_26 : decode cX11_price 26 = .ok (.invokevirtual 95, 3) := by decide +kernel
theorem dX11_price_29 : decode cX11_price 29 = .ok (.ireturn, 1) := by decide +kernel
theorem dX11_price_30 : decode cX11_price 30 = .ok (.aload_n 0, 1) := by decide +kernel
theorem dX11_price_31 : decode cX11_price 31 = .ok (.getfield 81, 3) := by decide +kernel
theorem dX11_price_34 : decode cX11_price 34 = .ok (.getfield 126, 3) := by decide +kernel
theorem dX11_price_37 : decode cX11_price 37 = .ok (.iload_n 1, 1) := by decide +kernel
theorem dX11_price_38 : decode cX11_price 38 = .ok (.aaload, 1) := by decide +kernel
theorem dX11_price_39 : decode cX11_price 39 = .ok (.astore_n 3, 1) := by decide +kernel
theorem dX11_price_40 : decode cX11_price 40 = .ok (.aload_n 0, 1) := by decide +kernel
theorem dX11_price_41 : decode cX11_price 41 = .ok (.getfield 81, 3) := by decide +kernel
theorem dX11_price_44 : decode cX11_price 44 = .ok (.aload_n 3, 1) := by decide +kernel
theorem dX11_price_45 : decode cX11_price 45 = .ok (.iload_n 2, 1) := by decide +kernel
theorem dX11_price_46 : decode cX11_price 46 = .ok (.invokevirtual 246, 3) := by decide +kernel
theorem dX11_price_49 : decode cX11_price 49 = .ok (.istore 4, 2) := by decide +kernel
theorem dX11_price_51 : decode cX11_price 51 = .ok (.iconst 0, 1) := by decide +kernel
theorem dX11_price_52 : decode cX11_price 52 = .ok (.istore 5, 2) := by decide +kernel
theorem dX11_price_54 : decode cX11_price 54 = .ok (.iconst 0, 1) := by decide +kernel
theorem dX11_price_55 : decode cX11_price 55 = .ok (.istore 6, 2) := by decide +kernel
theorem dX11_price_57 : decode cX11_price 57 = .ok (.iload 6, 2) := by decide +kernel
theorem dX11_price_59 : decode cX11_price 59 = .ok (.aload_n 3, 1) := by decide +kernel
theorem dX11_price_60 : decode cX11_price 60 = .ok (.getfield 157, 3) := by decide +kernel
theorem dX11_price_63 : decode cX11_price 63 = .ok (.if_icmp .ge 33, 3) := by decide +kernel
theorem dX11_price_66 : decode cX11_price 66 = .ok (.iload 4, 2) := by decide +kernel
theorem dX11_price_68 : decode cX11_price 68 = .ok (.iload 6, 2) := by decide +kernel
theorem dX11_price_70 : decode cX11_price 70 = .ok (.ishr, 1) := by decide +kernel
theorem dX11_price_71 : decode cX11_price 71 = .ok (.iconst 1, 1) := by decide +kernel
theorem dX11_price_72 : decode cX11_price 72 = .ok (.iand, 1) := by decide +kernel
theorem dX11_price_73 : decode cX11_price 73 = .ok (.ifCond .eq 17, 3) := by decide +kernel
theorem dX11_price_76 : decode cX11_price 76 = .ok (.iload 5, 2) := by decide +kernel
theorem dX11_price_78 : decode cX11_price 78 = .ok (.iconst 1, 1) := by decide +kernel
theorem dX11_price_79 : decode cX11_price 79 = .ok (.aload_n 3, 1) := by decide +kernel
theorem dX11_price_80 : decode cX11_price 80 = .ok (.getfield 192, 3) := by decide +kernel
theorem dX11_price_83 : decode cX11_price 83 = .ok (.iload 6, 2) := by decide +kernel
theorem dX11_price_85 : decode cX11_price 85 = .ok (.iaload, 1) := by decide +kernel
theorem dX11_price_86 : decode cX11_price 86 = .ok (.ishl, 1) := by decide +kernel
theorem dX11_price_87 : decode cX11_price 87 = .ok (.ior, 1) := by decide +kernel
theorem dX11_price_88 : decode cX11_price 88 = .ok (.istore 5, 2) := by decide +kernel
theorem dX11_price_90 : decode cX11_price 90 = .ok (.iinc 6 1, 3) := by decide +kernel
theorem dX11_price_93 : decode cX11_price 93 = .ok (.goto (-36), 3) := by decide +kernel
theorem dX11_price_96 : decode cX11_price 96 = .ok (.iconst 0, 1) := by decide +kernel
theorem dX11_price_97 : decode cX11_price 97 = .ok (.istore 6, 2) := by decide +kernel
theorem dX11_price_99 : decode cX11_price 99 = .ok (.iconst 0, 1) := by decide +kernel
theorem dX11_price_100 : decode cX11_price 100 = .ok (.istore 7, 2) := by decide +kernel
theorem dX11_price_102 : decode cX11_price 102 = .ok (.iload 7, 2) := by decide +kernel
theorem dX11_price_104 : decode cX11_price 104 = .ok (.bipush 6, 2) := by decide +kernel
theorem dX11_price_106 : decode cX11_price 106 = .ok (.if_icmp .ge 34, 3) := by decide +kernel
theorem dX11_price_109 : decode cX11_price 109 = .ok (.iload 5, 2) := by decide +kernel
theorem dX11_price_111 : decode cX11_price 111 = .ok (.iload 7, 2) := by decide +kernel
theorem dX11_price_113 : decode cX11_price 113 = .ok (.ishr, 1) := by decide +kernel
theorem dX11_price_114 : decode cX11_price 114 = .ok (.iconst 1, 1) := by decide +kernel
theorem dX11_price_115 : decode cX11_price 115 = .ok (.iand, 1) := by decide +kernel
theorem dX11_price_116 : decode cX11_price 116 = .ok (.ifCond .eq 18, 3) := by decide +kernel
theorem dX11_price_119 : decode cX11_price 119 = .ok (.iload 6, 2) := by decide +kernel
theorem dX11_price_121 : decode cX11_price 121 = .ok (.aload_n 0, 1) := by decide +kernel
theorem dX11_price_122 : decode cX11_price 122 = .ok (.getfield 81, 3) := by decide +kernel
theorem dX11_price_125 : decode cX11_price 125 = .ok (.getfield 170, 3) := by decide +kernel
theorem dX11_price_128 : decode cX11_price 128 = .ok (.iload 7, 2) := by decide +kernel
theorem dX11_price_130 : decode cX11_price 130 = .ok (.iaload, 1) := by decide +kernel
theorem dX11_price_131 : decode cX11_price 131 = .ok (.iadd, 1) := by decide +kernel
theorem dX11_price_132 : decode cX11_price 132 = .ok (.istore 6, 2) := by decide +kernel
theorem dX11_price_134 : decode cX11_price 134 = .ok (.iinc 7 1, 3) := by decide +kernel
theorem dX11_price_137 : decode cX11_price 137 = .ok (.goto (-35), 3) := by decide +kernel
theorem dX11_price_140 : decode cX11_price 140 = .ok (.iload 6, 2) := by decide +kernel
theorem dX11_price_142 : decode cX11_price 142 = .ok (.ireturn, 1) := by decide +kernel
theorem dX11_hail_0 : decode cX11_hail 0 = .ok (.iload_n 1, 1) := by decide +kernel
theorem dX11_hail_1 : decode cX11_hail 1 = .ok (.bipush 100, 2) := by decide +kernel
theorem dX11_hail_3 : decode cX11_hail 3 = .ok (.invokestatic 91, 3) := by decide +kernel
theorem dX11_hail_6 : decode cX11_hail 6 = .ok (.ifCond .eq 10, 3) := by decide +kernel
theorem dX11_hail_9 : decode cX11_hail 9 = .ok (.aload_n 0, 1) := by decide +kernel
theorem dX11_hail_10 : decode cX11_hail 10 = .ok (.bipush 6, 2) := by decide +kernel
theorem dX11_hail_12 : decode cX11_hail 12 = .ok (.invokevirtual 95, 3) := by decide +kernel
theorem dX11_hail_15 : decode cX11_hail 15 = .ok (.ireturn, 1) := by decide +kernel
theorem dX11_hail_16 : decode cX11_hail 16 = .ok (.aload_n 0, 1) := by decide +kernel
theorem dX11_hail_17 : decode cX11_hail 17 = .ok (.getfield 81, 3) := by decide +kernel
theorem dX11_hail_20 : decode cX11_hail 20 = .ok (.iload_n 1, 1) := by decide +kernel
theorem dX11_hail_21 : decode cX11_hail 21 = .ok (.invokevirtual 287, 3) := by decide +kernel
theorem dX11_hail_24 : decode cX11_hail 24 = .ok (.ireturn, 1) := by decide +kernel
theorem dX11_scratch_0 : decode cX11_scratch 0 = .ok (.aload_n 0, 1) := by decide +kernel
theorem dX11_scratch_1 : decode cX11_scratch 1 = .ok (.iload_n 1, 1) := by decide +kernel
theorem dX11_scratch_2 : decode cX11_scratch 2 = .ok (.invokevirtual 123, 3) := by decide +kernel
theorem dX11_scratch_5 : decode cX11_scratch 5 = .ok (.ifCond .eq 9, 3) := by decide +kernel
theorem dX11_scratch_8 : decode cX11_scratch 8 = .ok (.aload_n 0, 1) := by decide +kernel
theorem dX11_scratch_9 : decode cX11_scratch 9 = .ok (.iconst 1, 1) := by decide +kernel
theorem dX11_scratch_10 : decode cX11_scratch 10 = .ok (.invokevirtual 95, 3) := by decide +kernel
theorem dX11_scratch_13 : decode cX11_scratch 13 = .ok (.ireturn, 1) := by decide +kernel
theorem dX11_scratch_14 : decode cX11_scratch 14 = .ok (.iload_n 2, 1) := by decide +kernel
theorem dX11_scratch_15 : decode cX11_scratch 15 = .ok (.bipush 12, 2) := by decide +kernel
theorem dX11_scratch_17 : decode cX11_scratch 17 = .ok (.invokestatic 91, 3) := by decide +kernel
theorem dX11_scratch_20 : decode cX11_scratch 20 = .ok (.ifCond .eq 9, 3) := by decide +kernel
theorem dX11_scratch_23 : decode cX11_scratch 23 = .ok (.aload_n 0, 1) := by decide +kernel
theorem dX11_scratch_24 : decode cX11_scratch 24 = .ok (.iconst 5, 1) := by decide +kernel
theorem dX11_scratch_25 : decode cX11_scratch 25 = .ok (.invokevirtual 95, 3) := by decide +kernel
theorem dX11_scratch_28 : decode cX11_scratch 28 = .ok (.ireturn, 1) := by decide +kernel
theorem dX11_scratch_29 : decode cX11_scratch 29 = .ok (.aload_n 0, 1) := by decide +kernel
theorem dX11_scratch_30 : decode cX11_scratch 30 = .ok (.getfield 81, 3) := by decide +kernel
theorem dX11_scratch_33 : decode cX11_scratch 33 = .ok (.getfield 126, 3) := by decide +kernel
theorem dX11_scratch_36 : decode cX11_scratch 36 = .ok (.iload_n 1, 1) := by decide +kernel
theorem dX11_scratch_37 : decode cX11_scratch 37 = .ok (.aaload, 1) := by decide +kernel
theorem dX11_scratch_38 : decode cX11_scratch 38 = .ok (.astore_n 3, 1) := by decide +kernel
theorem dX11_scratch_39 : decode cX11_scratch 39 = .ok (.aload_n 3, 1) := by decide +kernel
theorem dX11_scratch_40 : decode cX11_scratch 40 = .ok (.iload_n 2, 1) := by decide +kernel
theorem dX11_scratch_41 : decode cX11_scratch 41 = .ok (.invokevirtual 224, 3) := by decide +kernel
theorem dX11_scratch_44 : decode cX11_scratch 44 = .ok (.ifCond .ne 10, 3) := by decide +kernel
theorem dX11_scratch_47 : decode cX11_scratch 47 = .ok (.aload_n 0, 1) := by decide +kernel
theorem dX11_scratch_48 : decode cX11_scratch 48 = .ok (.bipush 6, 2) := by decide +kernel
theorem dX11_scratch_50 : decode cX11_scratch 50 = .ok (.invokevirtual 95, 3) := by decide +kernel
theorem dX11_scratch_53 : decode cX11_scratch 53 = .ok (.ireturn, 1) := by decide +kernel
theorem dX11_scratch_54 : decode cX11_scratch 54 = .ok (.aload_n 3, 1) := by decide +kernel
theorem dX11_scratch_55 : decode cX11_scratch 55 = .ok (.iload_n 2, 1) := by decide +kernel
theorem dX11_scratch_56 : decode cX11_scratch 56 = .ok (.invokevirtual 290, 3) := by decide +kernel
theorem dX11_scratch_59 : decode cX11_scratch 59 = .ok (.ireturn, 1) := by decide +kernel
theorem dX11_falls_0 : decode cX11_falls 0 = .ok (.aload_n 0, 1) := by decide +kernel
theorem dX11_falls_1 : decode cX11_falls 1 = .ok (.getfield 81, 3) := by decide +kernel
theorem dX11_falls_4 : decode cX11_falls 4 = .ok (.invokevirtual 293, 3) := by decide +kernel
theorem dX11_falls_7 : decode cX11_falls 7 = .ok (.ireturn, 1) := by decide +kernel
theorem dX11_years_0 : decode cX11_years 0 = .ok (.aload_n 0, 1) := by decide +kernel
theorem dX11_years_1 : decode cX11_years 1 = .ok (.getfield 81, 3) := by decide +kernel
theorem dX11_years_4 : decode cX11_years 4 = .ok (.getfield 144, 3) := by decide +kernel
theorem dX11_years_7 : decode cX11_years 7 = .ok (.ifCond .ne 9, 3) := by decide +kernel
theorem dX11_years_10 : decode cX11_years 10 = .ok (.aload_n 0, 1) := by decide +kernel
theorem dX11_years_11 : decode cX11_years 11 = .ok (.iconst 5, 1) := by decide +kernel
theorem dX11_years_12 : decode cX11_years 12 = .ok (.invokevirtual 95, 3) := by decide +kernel
theorem dX11_years_15 : decode cX11_years 15 = .ok (.ireturn, 1) := by decide +kernel
theorem dX11_years_16 : decode cX11_years 16 = .ok (.iload_n 1, 1) := by decide +kernel
theorem dX11_years_17 : decode cX11_years 17 = .ok (.iconst 1, 1) := by decide +kernel
theorem dX11_years_18 : decode cX11_years 18 = .ok (.if_icmp .lt 9, 3) := by decide +kernel
theorem dX11_years_21 : decode cX11_years 21 = .ok (.iload_n 1, 1) := by decide +kernel
theorem dX11_years_22 : decode cX11_years 22 = .ok (.bipush 40, 2) := by decide +kernel
theorem dX11_years_24 : decode cX11_years 24 = .ok (.if_icmp .le 10, 3) := by decide +kernel
theorem dX11_years_27 : decode cX11_years 27 = .ok (.aload_n 0, 1) := by decide +kernel
theorem dX11_years_28 : decode cX11_years 28 = .ok (.bipush 6, 2) := by decide +kernel
theorem dX11_years_30 : decode cX11_years 30 = .ok (.invokevirtual 95, 3) := by decide +kernel
theorem dX11_years_33 : decode cX11_years 33 = .ok (.ireturn, 1) := by decide +kernel
theorem dX11_years_34 : decode cX11_years 34 = .ok (.aload_n 0, 1) := by decide +kernel
theorem dX11_years_35 : decode cX11_years 35 = .ok (.getfield 81, 3) := by decide +kernel
theorem dX11_years_38 : decode cX11_years 38 = .ok (.getfield 296, 3) := by decide +kernel
theorem dX11_years_41 : decode cX11_years 41 = .ok (.istore_n 2, 1) := by decide +kernel
theorem dX11_years_42 : decode cX11_years 42 = .ok (.iconst 0, 1) := by decide +kernel
theorem dX11_years_43 : decode cX11_years 43 = .ok (.istore_n 3, 1) := by decide +kernel
theorem dX11_years_44 : decode cX11_years 44 = .ok (.iload_n 3, 1) := by decide +kernel
theorem dX11_years_45 : decode cX11_years 45 = .ok (.iload_n 1, 1) := by decide +kernel
theorem dX11_years_46 : decode cX11_years 46 = .ok (.if_icmp .ge 16, 3) := by decide +kernel
theorem dX11_years_49 : decode cX11_years 49 = .ok (.aload_n 0, 1) := by decide +kernel
theorem dX11_years_50 : decode cX11_years 50 = .ok (.getfield 81, 3) := by decide +kernel
theorem dX11_years_53 : decode cX11_years 53 = .ok (.invokevirtual 299, 3) := by decide +kernel
theorem dX11_years_56 : decode cX11_years 56 = .ok (.iinc 3 1, 3) := by decide +kernel
theorem dX11_years_59 : decode cX11_years 59 = .ok (.goto (-15), 3) := by decide +kernel
theorem dX11_years_62 : decode cX11_years 62 = .ok (.aload_n 0, 1) := by decide +kernel
theorem dX11_years_63 : decode cX11_years 63 = .ok (.getfield 81, 3) := by decide +kernel
theorem dX11_years_66 : decode cX11_years 66 = .ok (.getfield 296, 3) := by decide +kernel
theorem dX11_years_69 : decode cX11_years 69 = .ok (.iload_n 2, 1) := by decide +kernel
theorem dX11_years_70 : decode cX11_years 70 = .ok (.isub, 1) := by decide +kernel
theorem dX11_years_71 : decode cX11_years 71 = .ok (.ireturn, 1) := by decide +kernel
theorem dX11_seed_0 : decode cX11_seed 0 = .ok (.aload_n 0, 1) := by decide +kernel
theorem dX11_seed_1 : decode cX11_seed 1 = .ok (.getfield 81, 3) := by decide +kernel
theorem dX11_seed_4 : decode cX11_seed 4 = .ok (.getfield 302, 3) := by decide +kernel
theorem dX11_seed_7 : decode cX11_seed 7 = .ok (.istore_n 2, 1) := by decide +kernel
theorem dX11_seed_8 : decode cX11_seed 8 = .ok (.aload_n 0, 1) := by decide +kernel
theorem dX11_seed_9 : decode cX11_seed 9 = .ok (.getfield 81, 3) := by decide +kernel
theorem dX11_seed_12 : decode cX11_seed 12 = .ok (.iload_n 1, 1) := by decide +kernel
theorem dX11_seed_13 : decode cX11_seed 13 = .ok (.putfield 302, 3) := by decide +kernel
theorem dX11_seed_16 : decode cX11_seed 16 = .ok (.iload_n 2, 1) := by decide +kernel
theorem dX11_seed_17 : decode cX11_seed 17 = .ok (.ireturn, 1) := by decide +kernel
theorem dX11_act_0 : decode cX11_act 0 = .ok (.aload_n 0, 1) := by decide +kernel
theorem dX11_act_1 : decode cX11_act 1 = .ok (.getfield 51, 3) := by decide +kernel
theorem dX11_act_4 : decode cX11_act 4 = .ok (.iconst 0, 1) := by decide +kernel
theorem dX11_act_5 : decode cX11_act 5 = .ok (.putfield 305, 3) := by decide +kernel
theorem dX11_act_8 : decode cX11_act 8 = .ok (.aload_n 0, 1) := by decide +kernel
theorem dX11_act_9 : decode cX11_act 9 = .ok (.iload_n 1, 1) := by decide +kernel
theorem dX11_act_10 : decode cX11_act 10 = .ok (.invokevirtual 123, 3) := by decide +kernel
theorem dX11_act_13 : decode cX11_act 13 = .ok (.ifCond .eq 5, 3) := by decide +kernel
theorem dX11_act_16 : decode cX11_act 16 = .ok (.iconst 0, 1) := by decide +kernel
theorem dX11_act_17 : decode cX11_act 17 = .ok (.ireturn, 1) := by decide +kernel
theorem dX11_act_18 : decode cX11_act 18 = .ok (.aload_n 0, 1) := by decide +kernel
theorem dX11_act_19 : decode cX11_act 19 = .ok (.getfield 81, 3) := by decide +kernel
theorem dX11_act_22 : decode cX11_act 22 = .ok (.getfield 126, 3) := by decide +kernel
theorem dX11_act_25 : decode cX11_act 25 = .ok (.iload_n 1, 1) := by decide +kernel
theorem dX11_act_26 : decode cX11_act 26 = .ok (.aaload, 1) := by decide +kernel
theorem dX11_act_27 : decode cX11_act 27 = .ok (.astore 4, 2) := by decide +kernel
theorem dX11_act_29 : decode cX11_act 29 = .ok (.aload_n 0, 1) := by decide +kernel
theorem dX11_act_30 : decode cX11_act 30 = .ok (.getfield 51, 3) := by decide +kernel
theorem dX11_act_33 : decode cX11_act 33 = .ok (.iload_n 1, 1) := by decide +kernel
theorem dX11_act_34 : decode cX11_act 34 = .ok (.putfield 308, 3) := by decide +kernel
theorem dX11_act_37 : decode cX11_act 37 = .ok (.aload_n 0, 1) := by decide +kernel
theorem dX11_act_38 : decode cX11_act 38 = .ok (.getfield 51, 3) := by decide +kernel
theorem dX11_act_41 : decode cX11_act 41 = .ok (.aload 4, 2) := by decide +kernel
theorem dX11_act_43 : decode cX11_act 43 = .ok (.getfield 154, 3) := by decide +kernel
theorem dX11_act_46 : decode cX11_act 46 = .ok (.putfield 311, 3) := by decide +kernel
theorem dX11_act_49 : decode cX11_act 49 = .ok (.iload_n 2, 1) := by decide +kernel
theorem dX11_act_50 : decode cX11_act 50 = .ok (.tableswitch 68 0 2 #[26, 40, 54], 26) := by decide +kernel
theorem dX11_act_76 : decode cX11_act 76 = .ok (.aload 4, 2) := by decide +kernel
theorem dX11_act_78 : decode cX11_act 78 = .ok (.getfield 130, 3) := by decide +kernel
theorem dX11_act_81 : decode cX11_act 81 = .ok (.aload_n 0, 1) := by decide +kernel
theorem dX11_act_82 : decode cX11_act 82 = .ok (.getfield 51, 3) := by decide +kernel
theorem dX11_act_85 : decode cX11_act 85 = .ok (.iload_n 3, 1) := by decide +kernel
theorem dX11_act_86 : decode cX11_act 86 = .ok (.invokevirtual 314, 3) := by decide +kernel
theorem dX11_act_89 : decode cX11_act 89 = .ok (.ireturn, 1) := by decide +kernel
theorem dX11_act_90 : decode cX11_act 90 = .ok (.aload 4, 2) := by decide +kernel
theorem dX11_act_92 : decode cX11_act 92 = .ok (.getfield 130, 3) := by decide +kernel
theorem dX11_act_95 : decode cX11_act 95 = .ok (.aload_n 0, 1) := by decide +kernel
theorem dX11_act_96 : decode cX11_act 96 = .ok (.getfield 51, 3) := by decide +kernel
theorem dX11_act_99 : decode cX11_act 99 = .ok (.iload_n 3, 1) := by decide +kernel
theorem dX11_act_100 : decode cX11_act 100 = .ok (.invokevirtual 318, 3) := by decide +kernel
theorem dX11_act_103 : decode cX11_act 103 = .ok (.ireturn, 1) := by decide +kernel
theorem dX11_act_104 : decode cX11_act 104 = .ok (.aload 4, 2) := by decide +kernel
theorem dX11_act_106 : decode cX11_act 106 = .ok (.getfield 130, 3) := by decide +kernel
theorem dX11_act_109 : decode cX11_act 109 = .ok (.aload_n 0, 1) := by decide +kernel
theorem dX11_act_110 : decode cX11_act 110 = .ok (.getfield 51, 3) := by decide +kernel
theorem dX11_act_113 : decode cX11_act 113 = .ok (.iload_n 3, 1) := by decide +kernel
theorem dX11_act_114 : decode cX11_act 114 = .ok (.invokevirtual 321, 3) := by decide +kernel
theorem dX11_act_117 : decode cX11_act 117 = .ok (.ireturn, 1) := by decide +kernel
theorem dX11_act_118 : decode cX11_act 118 = .ok (.iconst 0, 1) := by decide +kernel
theorem dX11_act_119 : decode cX11_act 119 = .ok (.ireturn, 1) := by decide +kernel
theorem dX11_trace_0 : decode cX11_trace 0 = .ok (.iload_n 1, 1) := by decide +kernel
theorem dX11_trace_1 : decode cX11_trace 1 = .ok (.aload_n 0, 1) := by decide +kernel
theorem dX11_trace_2 : decode cX11_trace 2 = .ok (.getfield 51, 3) := by decide +kernel
theorem dX11_trace_5 : decode cX11_trace 5 = .ok (.getfield 305, 3) := by decide +kernel
theorem dX11_trace_8 : decode cX11_trace 8 = .ok (.invokestatic 91, 3) := by decide +kernel
theorem dX11_trace_11 : decode cX11_trace 11 = .ok (.ifCond .ne 9, 3) := by decide +kernel
theorem dX11_trace_14 : decode cX11_trace 14 = .ok (.iload_n 1, 1) := by decide +kernel
theorem dX11_trace_15 : decode cX11_trace 15 = .ok (.bipush 20, 2) := by decide +kernel
theorem dX11_trace_17 : decode cX11_trace 17 = .ok (.if_icmp .lt 5, 3) := by decide +kernel
theorem dX11_trace_20 : decode cX11_trace 20 = .ok (.iconst (-1), 1) := by decide +kernel
theorem dX11_trace_21 : decode cX11_trace 21 = .ok (.ireturn, 1) := by decide +kernel
theorem dX11_trace_22 : decode cX11_trace 22 = .ok (.aload_n 0, 1) := by decide +kernel
theorem dX11_trace_23 : decode cX11_trace 23 = .ok (.getfield 51, 3) := by decide +kernel
theorem dX11_trace_26 : decode cX11_trace 26 = .ok (.getfield 324, 3) := by decide +kernel
theorem dX11_trace_29 : decode cX11_trace 29 = .ok (.iload_n 1, 1) := by decide +kernel
theorem dX11_trace_30 : decode cX11_trace 30 = .ok (.iaload, 1) := by decide +kernel
theorem dX11_trace_31 : decode cX11_trace 31 = .ok (.ireturn, 1) := by decide +kernel
theorem dX11_image_0 : decode cX11_image 0 = .ok (.aload_n 0, 1) := by decide +kernel
theorem dX11_image_1 : decode cX11_image 1 = .ok (.getfield 88, 3) := by decide +kernel
theorem dX11_image_4 : decode cX11_image 4 = .ok (.aload_n 0, 1) := by decide +kernel
theorem dX11_image_5 : decode cX11_image 5 = .ok (.getfield 81, 3) := by decide +kernel
theorem dX11_image_8 : decode cX11_image 8 = .ok (.invokevirtual 210, 3) := by decide +kernel
theorem dX11_image_11 : decode cX11_image 11 = .ok (.aload_n 0, 1) := by decide +kernel
theorem dX11_image_12 : decode cX11_image 12 = .ok (.iconst 1, 1) := by decide +kernel
theorem dX11_image_13 : decode cX11_image 13 = .ok (.putfield 34, 3) := by decide +kernel
theorem dX11_image_16 : decode cX11_image 16 = .ok (.aload_n 0, 1) := by decide +kernel
theorem dX11_image_17 : decode cX11_image 17 = .ok (.getfield 81, 3) := by decide +kernel
theorem dX11_image_20 : decode cX11_image 20 = .ok (.getfield 144, 3) := by decide +kernel
theorem dX11_image_23 : decode cX11_image 23 = .ok (.ireturn, 1) := by decide +kernel
theorem dX11_restore_0 : decode cX11_restore 0 = .ok (.aload_n 0, 1) := by decide +kernel
theorem dX11_restore_1 : decode cX11_restore 1 = .ok (.getfield 34, 3) := by decide +kernel
theorem dX11_restore_4 : decode cX11_restore 4 = .ok (.ifCond .ne 10, 3) := by decide +kernel
theorem dX11_restore_7 : decode cX11_restore 7 = .ok (.aload_n 0, 1) := by decide +kernel
theorem dX11_restore_8 : decode cX11_restore 8 = .ok (.bipush 6, 2) := by decide +kernel
theorem dX11_restore_10 : decode cX11_restore 10 = .ok (.invokevirtual 95, 3) := by decide +kernel
theorem dX11_restore_13 : decode cX11_restore 13 = .ok (.ireturn, 1) := by decide +kernel
theorem dX11_restore_14 : decode cX11_restore 14 = .ok (.aload_n 0, 1) := by decide +kernel
theorem dX11_restore_15 : decode cX11_restore 15 = .ok (.getfield 81, 3) := by decide +kernel
theorem dX11_restore_18 : decode cX11_restore 18 = .ok (.aload_n 0, 1) := by decide +kernel
theorem dX11_restore_19 : decode cX11_restore 19 = .ok (.getfield 88, 3) := by decide +kernel
theorem dX11_restore_22 : decode cX11_restore 22 = .ok (.invokevirtual 210, 3) := by decide +kernel
theorem dX11_restore_25 : decode cX11_restore 25 = .ok (.iconst 0, 1) := by decide +kernel
theorem dX11_restore_26 : decode cX11_restore 26 = .ok (.istore_n 1, 1) := by decide +kernel
theorem dX11_restore_27 : decode cX11_restore 27 = .ok (.iload_n 1, 1) := by decide +kernel
theorem dX11_restore_28 : decode cX11_restore 28 = .ok (.bipush 8, 2) := by decide +kernel
theorem dX11_restore_30 : decode cX11_restore 30 = .ok (.if_icmp .ge 37, 3) := by decide +kernel
theorem dX11_restore_33 : decode cX11_restore 33 = .ok (.aload_n 0, 1) := by decide +kernel
theorem dX11_restore_34 : decode cX11_restore 34 = .ok (.iload_n 1, 1) := by decide +kernel
theorem dX11_restore_35 : decode cX11_restore 35 = .ok (.invokevirtual 106, 3) := by decide +kernel
theorem dX11_restore_38 : decode cX11_restore 38 = .ok (.ifCond .eq 23, 3) := by decide +kernel
theorem dX11_restore_41 : decode cX11_restore 41 = .ok (.aload_n 0, 1) := by decide +kernel
theorem dX11_restore_42 : decode cX11_restore 42 = .ok (.aload_n 0, 1) := by decide +kernel
theorem dX11_restore_43 : decode cX11_restore 43 = .ok (.getfield 9, 3) := by decide +kernel
theorem dX11_restore_46 : decode cX11_restore 46 = .ok (.iload_n 1, 1) := by decide +kernel
theorem dX11_restore_47 : decode cX11_restore 47 = .ok (.iaload, 1) := by decide +kernel
theorem dX11_restore_48 : decode cX11_restore 48 = .ok (.invokevirtual 123, 3) := by decide +kernel
theorem dX11_restore_51 : decode cX11_restore 51 = .ok (.ifCond .eq 10, 3) := by decide +kernel
theorem dX11_restore_54 : decode cX11_restore 54 = .ok (.aload_n 0, 1) := by decide +kernel
theorem dX11_restore_55 : decode cX11_restore 55 = .ok (.getfield 9, 3) := by decide +kernel
theorem dX11_restore_58 : decode cX11_restore 58 = .ok (.iload_n 1, 1) := by decide +kernel
theorem dX11_restore_59 : decode cX11_restore 59 = .ok (.iconst (-1), 1) := by decide +kernel
theorem dX11_restore_60 : decode cX11_restore 60 = .ok (.iastore, 1) := by decide +kernel
theorem dX11_restore_61 : decode cX11_restore 61 = .ok (.iinc 1 1, 3) := by decide +kernel
theorem dX11_restore_64 : decode cX11_restore 64 = .ok (.goto (-37), 3) := by decide +kernel
theorem dX11_restore_67 : decode cX11_restore 67 = .ok (.aload_n 0, 1) := by decide +kernel
theorem dX11_restore_68 : decode cX11_restore 68 = .ok (.getfield 81, 3) := by decide +kernel
theorem dX11_restore_71 : decode cX11_restore 71 = .ok (.getfield 144, 3) := by decide +kernel
theorem dX11_restore_74 : decode cX11_restore 74 = .ok (.ireturn, 1) := by decide +kernel
theorem dX11_status_0 : decode cX11_status 0 = .ok (.iload_n 1, 1) := by decide +kernel
theorem dX11_status_1 : decode cX11_status 1 = .ok (.bipush 10, 2) := by decide +kernel
theorem dX11_status_3 : decode cX11_status 3 = .ok (.if_icmp .le 19, 3) := by decide +kernel
theorem dX11_status_6 : decode cX11_status 6 = .ok (.iload_n 1, 1) := by decide +kernel
theorem dX11_status_7 : decode cX11_status 7 = .ok (.bipush 17, 2) := by decide +kernel
theorem dX11_status_9 : decode cX11_status 9 = .ok (.if_icmp .gt 13, 3) := by decide +kernel
theorem dX11_status_12 : decode cX11_status 12 = .ok (.aload_n 0, 1) := by decide +kernel
theorem dX11_status_13 : decode cX11_status 13 = .ok (.getfield 21, 3) := by decide +kernel
theorem dX11_status_16 : decode cX11_status 16 = .ok (.iload_n 1, 1) := by decide +kernel
theorem dX11_status_17 : decode cX11_status 17 = .ok (.bipush 10, 2) := by decide +kernel
theorem dX11_status_19 : decode cX11_status 19 = .ok (.isub, 1) := by decide +kernel
theorem dX11_status_20 : decode cX11_status 20 = .ok (.iaload, 1) := by decide +kernel
theorem dX11_status_21 : decode cX11_status 21 = .ok (.ireturn, 1) := by decide +kernel
theorem dX11_status_22 : decode cX11_status 22 = .ok (.iload_n 1, 1) := by decide +kernel
theorem dX11_status_23 : decode cX11_status 23 = .ok (.tableswitch 109 0 7 #[45, 53, 61, 69, 77, 85, 93, 101], 45) := by decide +kernel
theorem dX11_status_68 : decode cX11_status 68 = .ok (.aload_n 0, 1) := by decide +kernel
theorem dX11_status_69 : decode cX11_status 69 = .ok (.getfield 81, 3) := by decide +kernel
theorem dX11_status_72 : decode cX11_status 72 = .ok (.getfield 144, 3) := by decide +kernel
theorem dX11_status_75 : decode cX11_status 75 = .ok (.ireturn, 1) := by decide +kernel
theorem dX11_status_76 : decode cX11_status 76 = .ok (.aload_n 0, 1) := by decide +kernel
theorem dX11_status_77 : decode cX11_status 77 = .ok (.getfield 81, 3) := by decide +kernel
theorem dX11_status_80 : decode cX11_status 80 = .ok (.invokevirtual 327, 3) := by decide +kernel
theorem dX11_status_83 : decode cX11_status 83 = .ok (.ireturn, 1) := by decide +kernel
theorem dX11_status_84 : decode cX11_status 84 = .ok (.aload_n 0, 1) := by decide +kernel
theorem dX11_status_85 : decode cX11_status 85 = .ok (.getfield 81, 3) := by decide +kernel
theorem dX11_status_88 : decode cX11_status 88 = .ok (.getfield 173, 3) := by decide +kernel
theorem dX11_status_91 : decode cX11_status 91 = .ok (.ireturn, 1) := by decide +kernel
theorem dX11_status_92 : decode cX11_status 92 = .ok (.aload_n 0, 1) := by decide +kernel
theorem dX11_status_93 : decode cX11_status 93 = .ok (.getfield 81, 3) := by decide +kernel
theorem dX11_status_96 : decode cX11_status 96 = .ok (.getfield 176, 3) := by decide +kernel
theorem dX11_status_99 : decode cX11_status 99 = .ok (.ireturn, 1) := by decide +kernel
theorem dX11_status_100 : decode cX11_status 100 = .ok (.aload_n 0, 1) := by decide +kernel
theorem dX11_status_101 : decode cX11_status 101 = .ok (.getfield 81, 3) := by decide +kernel
theorem dX11_status_104 : decode cX11_status 104 = .ok (.getfield 179, 3) := by decide +kernel
theorem dX11_status_107 : decode cX11_status 107 = .ok (.ireturn, 1) := by decide +kernel
theorem dX11_status_108 : decode cX11_status 108 = .ok (.aload_n 0, 1) := by decide +kernel
theorem dX11_status_109 : decode cX11_status 109 = .ok (.getfield 81, 3) := by decide +kernel
theorem dX11_status_112 : decode cX11_status 112 = .ok (.getfield 296, 3) := by decide +kernel
theorem dX11_status_115 : decode cX11_status 115 = .ok (.ireturn, 1) := by decide +kernel
theorem dX11_status_116 : decode cX11_status 116 = .ok (.aload_n 0, 1) := by decide +kernel
theorem dX11_status_117 : decode cX11_status 117 = .ok (.getfield 81, 3) := by decide +kernel
theorem dX11_status_120 : decode cX11_status 120 = .ok (.getfield 302, 3) := by decide +kernel
theorem dX11_status_123 : decode cX11_status 123 = .ok (.ireturn, 1) := by decide +kernel
theorem dX11_status_124 : decode cX11_status 124 = .ok (.aload_n 0, 1) := by decide +kernel
theorem dX11_status_125 : decode cX11_status 125 = .ok (.getfield 51, 3) := by decide +kernel
theorem dX11_status_128 : decode cX11_status 128 = .ok (.getfield 305, 3) := by decide +kernel
theorem dX11_status_131 : decode cX11_status 131 = .ok (.ireturn, 1) := by decide +kernel
theorem dX11_status_132 : decode cX11_status 132 = .ok (.iconst (-1), 1) := by decide +kernel
theorem dX11_status_133 : decode cX11_status 133 = .ok (.ireturn, 1) := by decide +kernel
theorem dX11_refuse_0 : decode cX11_refuse 0 = .ok (.aload_n 0, 1) := by decide +kernel
theorem dX11_refuse_1 : decode cX11_refuse 1 = .ok (.iload_n 1, 1) := by decide +kernel
theorem dX11_refuse_2 : decode cX11_refuse 2 = .ok (.iconst 0, 1) := by decide +kernel
theorem dX11_refuse_3 : decode cX11_refuse 3 = .ok (.invokevirtual 221, 3) := by decide +kernel
theorem dX11_refuse_6 : decode cX11_refuse 6 = .ok (.ireturn, 1) := by decide +kernel
theorem dX11_refuseDown_0 : decode cX11_refuseDown 0 = .ok (.aload_n 0, 1) := by decide +kernel
theorem dX11_refuseDown_1 : decode cX11_refuseDown 1 = .ok (.getfield 21, 3) := by decide +kernel
theorem dX11_refuseDown_4 : decode cX11_refuseDown 4 = .ok (.iload_n 1, 1) := by decide +kernel
theorem dX11_refuseDown_5 : decode cX11_refuseDown 5 = .ok (.dup2, 1) := by decide +kernel
theorem dX11_refuseDown_6 : decode cX11_refuseDown 6 = .ok (.iaload, 1) := by decide +kernel
theorem dX11_refuseDown_7 : decode cX11_refuseDown 7 = .ok (.iconst 1, 1) := by decide +kernel
theorem dX11_refuseDown_8 : decode cX11_refuseDown 8 = .ok (.iadd, 1) := by decide +kernel
theorem dX11_refuseDown_9 : decode cX11_refuseDown 9 = .ok (.iastore, 1) := by decide +kernel
theorem dX11_refuseDown_10 : decode cX11_refuseDown 10 = .ok (.iload_n 1, 1) := by decide +kernel
theorem dX11_refuseDown_11 : decode cX11_refuseDown 11 = .ok (.ineg, 1) := by decide +kernel
theorem dX11_refuseDown_12 : decode cX11_refuseDown 12 = .ok (.iload_n 2, 1) := by decide +kernel
theorem dX11_refuseDown_13 : decode cX11_refuseDown 13 = .ok (.isub, 1) := by decide +kernel
theorem dX11_refuseDown_14 : decode cX11_refuseDown 14 = .ok (.ireturn, 1) := by decide +kernel
theorem dX11_outside_0 : decode cX11_outside 0 = .ok (.iload_n 0, 1) := by decide +kernel
theorem dX11_outside_1 : decode cX11_outside 1 = .ok (.ifCond .lt 8, 3) := by decide +kernel
theorem dX11_outside_4 : decode cX11_outside 4 = .ok (.iload_n 0, 1) := by decide +kernel
theorem dX11_outside_5 : decode cX11_outside 5 = .ok (.iload_n 1, 1) := by decide +kernel
theorem dX11_outside_6 : decode cX11_outside 6 = .ok (.if_icmp .lt 7, 3) := by decide +kernel
theorem dX11_outside_9 : decode cX11_outside 9 = .ok (.iconst 1, 1) := by decide +kernel
theorem dX11_outside_10 : decode cX11_outside 10 = .ok (.goto 4, 3) := by decide +kernel
theorem dX11_outside_13 : decode cX11_outside 13 = .ok (.iconst 0, 1) := by decide +kernel
theorem dX11_outside_14 : decode cX11_outside 14 = .ok (.ireturn, 1) := by decide +kernel
theorem dX11_noHouse_0 : decode cX11_noHouse 0 = .ok (.iload_n 1, 1) := by decide +kernel
theorem dX11_noHouse_1 : decode cX11_noHouse 1 = .ok (.aload_n 0, 1) := by decide +kernel
theorem dX11_noHouse_2 : decode cX11_noHouse 2 = .ok (.getfield 81, 3) := by decide +kernel
theorem dX11_noHouse_5 : decode cX11_noHouse 5 = .ok (.getfield 144, 3) := by decide +kernel
theorem dX11_noHouse_8 : decode cX11_noHouse 8 = .ok (.invokestatic 91, 3) := by decide +kernel
theorem dX11_noHouse_11 : decode cX11_noHouse 11 = .ok (.ireturn, 1) := by decide +kernel
theorem dX11_noCoat_0 : decode cX11_noCoat 0 = .ok (.iload_n 2, 1) := by decide +kernel
theorem dX11_noCoat_1 : decode cX11_noCoat 1 = .ok (.aload_n 0, 1) := by decide +kernel
theorem dX11_noCoat_2 : decode cX11_noCoat 2 = .ok (.getfield 81, 3) := by decide +kernel
theorem dX11_noCoat_5 : decode cX11_noCoat 5 = .ok (.getfield 126, 3) := by decide +kernel
theorem dX11_noCoat_8 : decode cX11_noCoat 8 = .ok (.iload_n 1, 1) := by decide +kernel
theorem dX11_noCoat_9 : decode cX11_noCoat 9 = .ok (.aaload, 1) := by decide +kernel
theorem dX11_noCoat_10 : decode cX11_noCoat 10 = .ok (.getfield 157, 3) := by decide +kernel
theorem dX11_noCoat_13 : decode cX11_noCoat 13 = .ok (.invokestatic 91, 3) := by decide +kernel
theorem dX11_noCoat_16 : decode cX11_noCoat 16 = .ok (.ireturn, 1) := by decide +kernel
theorem dX11_holdsRow_0 : decode cX11_holdsRow 0 = .ok (.aload_n 0, 1) := by decide +kernel
theorem dX11_holdsRow_1 : decode cX11_holdsRow 1 = .ok (.getfield 9, 3) := by decide +kernel
theorem dX11_holdsRow_4 : decode cX11_holdsRow 4 = .ok (.iload_n 1, 1) := by decide +kernel
theorem dX11_holdsRow_5 : decode cX11_holdsRow 5 = .ok (.iaload, 1) := by decide +kernel
theorem dX11_holdsRow_6 : decode cX11_holdsRow 6 = .ok (.bipush 100, 2) := by decide +kernel
theorem dX11_holdsRow_8 : decode cX11_holdsRow 8 = .ok (.if_icmp .lt 7, 3) := by decide +kernel
theorem dX11_holdsRow_11 : decode cX11_holdsRow 11 = .ok (.iconst 1, 1) := by decide +kernel
theorem dX11_holdsRow_12 : decode cX11_holdsRow 12 = .ok (.goto 4, 3) := by decide +kernel
theorem dX11_holdsRow_15 : decode cX11_holdsRow 15 = .ok (.iconst 0, 1) := by decide +kernel
theorem dX11_holdsRow_16 : decode cX11_holdsRow 16 = .ok (.ireturn, 1) := by decide +kernel
theorem dX11_holdsHouse_0 : decode cX11_holdsHouse 0 = .ok (.aload_n 0, 1) := by decide +kernel
theorem dX11_holdsHouse_1 : decode cX11_holdsHouse 1 = .ok (.getfield 9, 3) := by decide +kernel
theorem dX11_holdsHouse_4 : decode cX11_holdsHouse 4 = .ok (.iload_n 1, 1) := by decide +kernel
theorem dX11_holdsHouse_5 : decode cX11_holdsHouse 5 = .ok (.iaload, 1) := by decide +kernel
theorem dX11_holdsHouse_6 : decode cX11_holdsHouse 6 = .ok (.iconst (-1), 1) := by decide +kernel
theorem dX11_holdsHouse_7 : decode cX11_holdsHouse 7 = .ok (.if_icmp .eq 18, 3) := by decide +kernel
theorem dX11_holdsHouse_10 : decode cX11_holdsHouse 10 = .ok (.aload_n 0, 1) := by decide +kernel
theorem dX11_holdsHouse_11 : decode cX11_holdsHouse 11 = .ok (.getfield 9, 3) := by decide +kernel
theorem dX11_holdsHouse_14 : decode cX11_holdsHouse 14 = .ok (.iload_n 1, 1) := by decide +kernel
theorem dX11_holdsHouse_15 : decode cX11_holdsHouse 15 = .ok (.iaload, 1) := by decide +kernel
theorem dX11_holdsHouse_16 : decode cX11_holdsHouse 16 = .ok (.bipush 100, 2) := by decide +kernel
theorem dX11_holdsHouse_18 : decode cX11_holdsHouse 18 = .ok (.if_icmp .ge 7, 3) := by decide +kernel
theorem dX11_holdsHouse_21 : decode cX11_holdsHouse 21 = .ok (.iconst 1, 1) := by decide +kernel
theorem dX11_holdsHouse_22 : decode cX11_holdsHouse 22 = .ok (.goto 4, 3) := by decide +kernel
theorem dX11_holdsHouse_25 : decode cX11_holdsHouse 25 = .ok (.iconst 0, 1) := by decide +kernel
theorem dX11_holdsHouse_26 : decode cX11_holdsHouse 26 = .ok (.ireturn, 1) := by decide +kernel
theorem dX11_rowTrouble_0 : decode cX11_rowTrouble 0 = .ok (.iload_n 1, 1) := by decide +kernel
theorem dX11_rowTrouble_1 : decode cX11_rowTrouble 1 = .ok (.bipush 8, 2) := by decide +kernel
theorem dX11_rowTrouble_3 : decode cX11_rowTrouble 3 = .ok (.invokestatic 91, 3) := by decide +kernel
theorem dX11_rowTrouble_6 : decode cX11_rowTrouble 6 = .ok (.ifCond .eq 5, 3) := by decide +kernel
theorem dX11_rowTrouble_9 : decode cX11_rowTrouble 9 = .ok (.iconst 1, 1) := by decide +kernel
theorem dX11_rowTrouble_10 : decode cX11_rowTrouble 10 = .ok (.ireturn, 1) := by decide +kernel
theorem dX11_rowTrouble_11 : decode cX11_rowTrouble 11 = .ok (.aload_n 0, 1) := by decide +kernel
theorem dX11_rowTrouble_12 : decode cX11_rowTrouble 12 = .ok (.iload_n 1, 1) := by decide +kernel
theorem dX11_rowTrouble_13 : decode cX11_rowTrouble 13 = .ok (.invokevirtual 106, 3) := by decide +kernel
theorem dX11_rowTrouble_16 : decode cX11_rowTrouble 16 = .ok (.ifCond .eq 5, 3) := by decide +kernel
theorem dX11_rowTrouble_19 : decode cX11_rowTrouble 19 = .ok (.iconst 2, 1) := by decide +kernel
theorem dX11_rowTrouble_20 : decode cX11_rowTrouble 20 = .ok (.ireturn, 1) := by decide +kernel
theorem dX11_rowTrouble_21 : decode cX11_rowTrouble 21 = .ok (.aload_n 0, 1) := by decide +kernel
theorem dX11_rowTrouble_22 : decode cX11_rowTrouble 22 = .ok (.iload_n 1, 1) := by decide +kernel
theorem dX11_rowTrouble_23 : decode cX11_rowTrouble 23 = .ok (.invokevirtual 110, 3) := by decide +kernel
theorem dX11_rowTrouble_26 : decode cX11_rowTrouble 26 = .ok (.ifCond .eq 7, 3) := by decide +kernel
theorem dX11_rowTrouble_29 : decode cX11_rowTrouble 29 = .ok (.iconst 0, 1) := by decide +kernel
theorem dX11_rowTrouble_30 : decode cX11_rowTrouble 30 = .ok (.goto 4, 3) := by decide +kernel
theorem dX11_rowTrouble_33 : decode cX11_rowTrouble 33 = .ok (.iconst 3, 1) := by decide +kernel
theorem dX11_rowTrouble_34 : decode cX11_rowTrouble 34 = .ok (.ireturn, 1) := by decide +kernel
theorem dX11_noSuchPart_0 : decode cX11_noSuchPart 0 = .ok (.iload_n 2, 1) := by decide +kernel
theorem dX11_noSuchPart_1 : decode cX11_noSuchPart 1 = .ok (.ifCond .lt 25, 3) := by decide +kernel
theorem dX11_noSuchPart_4 : decode cX11_noSuchPart 4 = .ok (.iload_n 3, 1) := by decide +kernel
theorem dX11_noSuchPart_5 : decode cX11_noSuchPart 5 = .ok (.aload_n 0, 1) := by decide +kernel
theorem dX11_noSuchPart_6 : decode cX11_noSuchPart 6 = .ok (.getfield 13, 3) := by decide +kernel
theorem dX11_noSuchPart_9 : decode cX11_noSuchPart 9 = .ok (.iload_n 1, 1) := by decide +kernel
theorem dX11_noSuchPart_10 : decode cX11_noSuchPart 10 = .ok (.iaload, 1) := by decide +kernel
theorem dX11_noSuchPart_11 : decode cX11_noSuchPart 11 = .ok (.if_icmp .gt 15, 3) := by decide +kernel
theorem dX11_noSuchPart_14 : decode cX11_noSuchPart 14 = .ok (.iload_n 2, 1) := by decide +kernel
theorem dX11_noSuchPart_15 : decode cX11_noSuchPart 15 = .ok (.aload_n 0, 1) := by decide +kernel
theorem dX11_noSuchPart_16 : decode cX11_noSuchPart 16 = .ok (.getfield 13, 3) := by decide +kernel
theorem dX11_noSuchPart_19 : decode cX11_noSuchPart 19 = .ok (.iload_n 1, 1) := by decide +kernel
theorem dX11_noSuchPart_20 : decode cX11_noSuchPart 20 = .ok (.iaload, 1) := by decide +kernel
theorem dX11_noSuchPart_21 : decode cX11_noSuchPart 21 = .ok (.iload_n 3, 1) := by decide +kernel
theorem dX11_noSuchPart_22 : decode cX11_noSuchPart 22 = .ok (.isub, 1) := by decide +kernel
theorem dX11_noSuchPart_23 : decode cX11_noSuchPart 23 = .ok (.if_icmp .le 7, 3) := by decide +kernel
theorem dX11_noSuchPart_26 : decode cX11_noSuchPart 26 = .ok (.iconst 1, 1) := by decide +kernel
theorem dX11_noSuchPart_27 : decode cX11_noSuchPart 27 = .ok (.goto 4, 3) := by decide +kernel
theorem dX11_noSuchPart_30 : decode cX11_noSuchPart 30 = .ok (.iconst 0, 1) := by decide +kernel
theorem dX11_noSuchPart_31 : decode cX11_noSuchPart 31 = .ok (.ireturn, 1) := by decide +kernel
theorem dX11_lowestBits_0 : decode cX11_lowestBits 0 = .ok (.iload_n 0, 1) := by decide +kernel
theorem dX11_lowestBits_1 : decode cX11_lowestBits 1 = .ok (.tableswitch 41 0 2 #[27, 32, 37], 27) := by decide +kernel
theorem dX11_lowestBits_28 : decode cX11_lowestBits 28 = .ok (.lload_n 1, 1) := by decide +kernel
theorem dX11_lowestBits_29 : decode cX11_lowestBits 29 = .ok (.l2i, 1) := by decide +kernel
theorem dX11_lowestBits_30 : decode cX11_lowestBits 30 = .ok (.i2b, 1) := by decide +kernel
theorem dX11_lowestBits_31 : decode cX11_lowestBits 31 = .ok (.i2l, 1) := by decide +kernel
theorem dX11_lowestBits_32 : decode cX11_lowestBits 32 = .ok (.lreturn, 1) := by decide +kernel
theorem dX11_lowestBits_33 : decode cX11_lowestBits 33 = .ok (.lload_n 1, 1) := by decide +kernel
theorem dX11_lowestBits_34 : decode cX11_lowestBits 34 = .ok (.l2i, 1) := by decide +kernel
theorem dX11_lowestBits_35 : decode cX11_lowestBits 35 = .ok (.i2s, 1) := by decide +kernel
theorem dX11_lowestBits_36 : decode cX11_lowestBits 36 = .ok (.i2l, 1) := by decide +kernel
theorem dX11_lowestBits_37 : decode cX11_lowestBits 37 = .ok (.lreturn, 1) := by decide +kernel
theorem dX11_lowestBits_38 : decode cX11_lowestBits 38 = .ok (.lload_n 1, 1) := by decide +kernel
theorem dX11_lowestBits_39 : decode cX11_lowestBits 39 = .ok (.l2i, 1) := by decide +kernel
theorem dX11_lowestBits_40 : decode cX11_lowestBits 40 = .ok (.i2l, 1) := by decide +kernel
theorem dX11_lowestBits_41 : decode cX11_lowestBits 41 = .ok (.lreturn, 1) := by decide +kernel
theorem dX11_lowestBits_42 : decode cX11_lowestBits 42 = .ok (.lload_n 1, 1) := by decide +kernel
theorem dX11_lowestBits_43 : decode cX11_lowestBits 43 = .ok (.lreturn, 1) := by decide +kernel
theorem dX11_isOf_0 : decode cX11_isOf 0 = .ok (.iload_n 1, 1) := by decide +kernel
theorem dX11_isOf_1 : decode cX11_isOf 1 = .ok (.tableswitch 69 1 6 #[39, 44, 49, 54, 59, 64], 39) := by decide +kernel
theorem dX11_isOf_40 : decode cX11_isOf 40 = .ok (.aload_n 0, 1) := by decide +kernel
theorem dX11_isOf_41 : decode cX11_isOf 41 = .ok (.instanceof 58, 3) := by decide +kernel
theorem dX11_isOf_44 : decode cX11_isOf 44 = .ok (.ireturn, 1) := by decide +kernel
theorem dX11_isOf_45 : decode cX11_isOf 45 = .ok (.aload_n 0, 1) := by decide +kernel
theorem dX11_isOf_46 : decode cX11_isOf 46 = .ok (.instanceof 61, 3) := by decide +kernel
theorem dX11_isOf_49 : decode cX11_isOf 49 = .ok (.ireturn, 1) := by decide +kernel
theorem dX11_isOf_50 : decode cX11_isOf 50 = .ok (.aload_n 0, 1) := by decide +kernel
theorem dX11_isOf_51 : decode cX11_isOf 51 = .ok (.instanceof 64, 3) := by decide +kernel
theorem dX11_isOf_54 : decode cX11_isOf 54 = .ok (.ireturn, 1) := by decide +kernel
theorem dX11_isOf_55 : decode cX11_isOf 55 = .ok (.aload_n 0, 1) := by decide +kernel
theorem dX11_isOf_56 : decode cX11_isOf 56 = .ok (.instanceof 67, 3) := by decide +kernel
theorem dX11_isOf_59 : decode cX11_isOf 59 = .ok (.ireturn, 1) := by decide +kernel
theorem dX11_isOf_60 : decode cX11_isOf 60 = .ok (.aload_n 0, 1) := by decide +kernel
theorem dX11_isOf_61 : decode cX11_isOf 61 = .ok (.instanceof 70, 3) := by decide +kernel
theorem dX11_isOf_64 : decode cX11_isOf 64 = .ok (.ireturn, 1) := by decide +kernel
theorem dX11_isOf_65 : decode cX11_isOf 65 = .ok (.aload_n 0, 1) := by decide +kernel
theorem dX11_isOf_66 : decode cX11_isOf 66 = .ok (.instanceof 73, 3) := by decide +kernel
theorem dX11_isOf_69 : decode cX11_isOf 69 = .ok (.ireturn, 1) := by decide +kernel
theorem dX11_isOf_70 : decode cX11_isOf 70 = .ok (.iconst 1, 1) := by decide +kernel
theorem dX11_isOf_71 : decode cX11_isOf 71 = .ok (.ireturn, 1) := by decide +kernel
theorem dX11_saidBy_0 : decode cX11_saidBy 0 = .ok (.iload_n 2, 1) := by decide +kernel
theorem dX11_saidBy_1 : decode cX11_saidBy 1 = .ok (.tableswitch 83 1 6 #[39, 47, 55, 64, 70, 78], 39) := by decide +kernel
theorem dX11_saidBy_40 : decode cX11_saidBy 40 = .ok (.aload_n 1, 1) := by decide +kernel
theorem dX11_saidBy_41 : decode cX11_saidBy 41 = .ok (.iconst 0, 1) := by decide +kernel
theorem dX11_saidBy_42 : decode cX11_saidBy 42 = .ok (.bipush 10, 2) := by decide +kernel
theorem dX11_saidBy_44 : decode cX11_saidBy 44 = .ok (.invokevirtual 231, 3) := by decide +kernel
theorem dX11_saidBy_47 : decode cX11_saidBy 47 = .ok (.ireturn, 1) := by decide +kernel
theorem dX11_saidBy_48 : decode cX11_saidBy 48 = .ok (.aload_n 1, 1) := by decide +kernel
theorem dX11_saidBy_49 : decode cX11_saidBy 49 = .ok (.iconst 0, 1) := by decide +kernel
theorem dX11_saidBy_50 : decode cX11_saidBy 50 = .ok (.bipush 10, 2) := by decide +kernel
theorem dX11_saidBy_52 : decode cX11_saidBy 52 = .ok (.invokevirtual 330, 3) := by decide +kernel
theorem dX11_saidBy_55 : decode cX11_saidBy 55 = .ok (.ireturn, 1) := by decide +kernel
theorem dX11_saidBy_56 : decode cX11_saidBy 56 = .ok (.aload_n 1, 1) := by decide +kernel
theorem dX11_saidBy_57 : decode cX11_saidBy 57 = .ok (.bipush 8, 2) := by decide +kernel
theorem dX11_saidBy_59 : decode cX11_saidBy 59 = .ok (.bipush 10, 2) := by decide +kernel
theorem dX11_saidBy_61 : decode cX11_saidBy 61 = .ok (.invokevirtual 231, 3) := by decide +kernel
theorem dX11_saidBy_64 : decode cX11_saidBy 64 = .ok (.ireturn, 1) := by decide +kernel
theorem dX11_saidBy_65 : decode cX11_saidBy 65 = .ok (.aload_n 0, 1) := by decide +kernel
theorem dX11_saidBy_66 : decode cX11_saidBy 66 = .ok (.aload_n 1, 1) := by decide +kernel
theorem dX11_saidBy_67 : decode cX11_saidBy 67 = .ok (.invokevirtual 333, 3) := by decide +kernel
theorem dX11_saidBy_70 : decode cX11_saidBy 70 = .ok (.ireturn, 1) := by decide +kernel
theorem dX11_saidBy_71 : decode cX11_saidBy 71 = .ok (.aload_n 1, 1) := by decide +kernel
theorem dX11_saidBy_72 : decode cX11_saidBy 72 = .ok (.iconst 4, 1) := by decide +kernel
theorem dX11_saidBy_73 : decode cX11_saidBy 73 = .ok (.bipush 10, 2) := by decide +kernel
theorem dX11_saidBy_75 : decode cX11_saidBy 75 = .ok (.invokevirtual 330, 3) := by decide +kernel
theorem dX11_saidBy_78 : decode cX11_saidBy 78 = .ok (.ireturn, 1) := by decide +kernel
theorem dX11_saidBy_79 : decode cX11_saidBy 79 = .ok (.aload_n 1, 1) := by decide +kernel
theorem dX11_saidBy_80 : decode cX11_saidBy 80 = .ok (.getfield 154, 3) := by decide +kernel
theorem dX11_saidBy_83 : decode cX11_saidBy 83 = .ok (.ireturn, 1) := by decide +kernel
theorem dX11_saidBy_84 : decode cX11_saidBy 84 = .ok (.aload_n 1, 1) := by decide +kernel
theorem dX11_saidBy_85 : decode cX11_saidBy 85 = .ok (.invokevirtual 160, 3) := by decide +kernel
theorem dX11_saidBy_88 : decode cX11_saidBy 88 = .ok (.ireturn, 1) := by decide +kernel
theorem dX11_strengthOfHighest_0 : decode cX11_strengthOfHighest 0 = .ok (.aload_n 1, 1) := by decide +kernel
theorem dX11_strengthOfHighest_1 : decode cX11_strengthOfHighest 1 = .ok (.getfield 157, 3) := by decide +kernel
theorem dX11_strengthOfHighest_4 : decode cX11_strengthOfHighest 4 = .ok (.iconst 1, 1) := by decide +kernel
theorem dX11_strengthOfHighest_5 : decode cX11_strengthOfHighest 5 = .ok (.isub, 1) := by decide +kernel
theorem dX11_strengthOfHighest_6 : decode cX11_strengthOfHighest 6 = .ok (.istore_n 2, 1) := by decide +kernel
theorem dX11_strengthOfHighest_7 : decode cX11_strengthOfHighest 7 = .ok (.iload_n 2, 1) := by decide +kernel
theorem dX11_strengthOfHighest_8 : decode cX11_strengthOfHighest 8 = .ok (.ifCond .ge 7, 3) := by decide +kernel
theorem dX11_strengthOfHighest_11 : decode cX11_strengthOfHighest 11 = .ok (.iconst 0, 1) := by decide +kernel
theorem dX11_strengthOfHighest_12 : decode cX11_strengthOfHighest 12 = .ok (.goto 23, 3) := by decide +kernel
theorem dX11_strengthOfHighest_15 : decode cX11_strengthOfHighest 15 = .ok (.aload_n 0, 1) := by decide +kernel
theorem dX11_strengthOfHighest_16 : decode cX11_strengthOfHighest 16 = .ok (.getfield 81, 3) := by decide +kernel
theorem dX11_strengthOfHighest_19 : decode cX11_strengthOfHighest 19 = .ok (.aload_n 1, 1) := by decide +kernel
theorem dX11_strengthOfHighest_20 : decode cX11_strengthOfHighest 20 = .ok (.aload_n 1, 1) := by decide +kernel
theorem dX11_strengthOfHighest_21 : decode cX11_strengthOfHighest 21 = .ok (.getfield 192, 3) := by decide +kernel
theorem dX11_strengthOfHighest_24 : decode cX11_strengthOfHighest 24 = .ok (.iload_n 2, 1) := by decide +kernel
theorem dX11_strengthOfHighest_25 : decode cX11_strengthOfHighest 25 = .ok (.iaload, 1) := by decide +kernel
theorem dX11_strengthOfHighest_26 : decode cX11_strengthOfHighest 26 = .ok (.aload_n 1, 1) := by decide +kernel
theorem dX11_strengthOfHighest_27 : decode cX11_strengthOfHighest 27 = .ok (.getfield 195, 3) := by decide +kernel
theorem dX11_strengthOfHighest_30 : decode cX11_strengthOfHighest 30 = .ok (.iload_n 2, 1) := by decide +kernel
theorem dX11_strengthOfHighest_31 : decode cX11_strengthOfHighest 31 = .ok (.iaload, 1) := by decide +kernel
theorem dX11_strengthOfHighest_32 : decode cX11_strengthOfHighest 32 = .ok (.invokevirtual 203, 3) := by decide +kernel
theorem dX11_strengthOfHighest_35 : decode cX11_strengthOfHighest 35 = .ok (.ireturn, 1) := by decide +kernel
theorem dX11_cheapest_0 : decode cX11_cheapest 0 = .ok (.iconst (-1), 1) := by decide +kernel
theorem dX11_cheapest_1 : decode cX11_cheapest 1 = .ok (.istore_n 3, 1) := by decide +kernel
theorem dX11_cheapest_2 : decode cX11_cheapest 2 = .ok (.iconst 0, 1) := by decide +kernel
theorem dX11_cheapest_3 : decode cX11_cheapest 3 = .ok (.istore 4, 2) := by decide +kernel
theorem dX11_cheapest_5 : decode cX11_cheapest 5 = .ok (.iconst 0, 1) := by decide +kernel
theorem dX11_cheapest_6 : decode cX11_cheapest 6 = .ok (.istore 5, 2) := by decide +kernel
theorem dX11_cheapest_8 : decode cX11_cheapest 8 = .ok (.iload 5, 2) := by decide +kernel
theorem dX11_cheapest_10 : decode cX11_cheapest 10 = .ok (.bipush 6, 2) := by decide +kernel
theorem dX11_cheapest_12 : decode cX11_cheapest 12 = .ok (.if_icmp .ge 81, 3) := by decide +kernel
theorem dX11_cheapest_15 : decode cX11_cheapest 15 = .ok (.iconst 1, 1) := by decide +kernel
theorem dX11_cheapest_16 : decode cX11_cheapest 16 = .ok (.istore 6, 2) := by decide +kernel
theorem dX11_cheapest_18 : decode cX11_cheapest 18 = .ok (.iload 6, 2) := by decide +kernel
theorem dX11_cheapest_20 : decode cX11_cheapest 20 = .ok (.bipush 9, 2) := by decide +kernel
theorem dX11_cheapest_22 : decode cX11_cheapest 22 = .ok (.if_icmp .gt 65, 3) := by decide +kernel
theorem dX11_cheapest_25 : decode cX11_cheapest 25 = .ok (.aload_n 0, 1) := by decide +kernel
theorem dX11_cheapest_26 : decode cX11_cheapest 26 = .ok (.getfield 81, 3) := by decide +kernel
theorem dX11_cheapest_29 : decode cX11_cheapest 29 = .ok (.getfield 170, 3) := by decide +kernel
theorem dX11_cheapest_32 : decode cX11_cheapest 32 = .ok (.iload 5, 2) := by decide +kernel
theorem dX11_cheapest_34 : decode cX11_cheapest 34 = .ok (.iaload, 1) := by decide +kernel
theorem dX11_cheapest_35 : decode cX11_cheapest 35 = .ok (.iload 6, 2) := by decide +kernel
theorem dX11_cheapest_37 : decode cX11_cheapest 37 = .ok (.imul, 1) := by decide +kernel
theorem dX11_cheapest_38 : decode cX11_cheapest 38 = .ok (.istore 7, 2) := by decide +kernel
theorem dX11_cheapest_40 : decode cX11_cheapest 40 = .ok (.aload_n 0, 1) := by decide +kernel
theorem dX11_cheapest_41 : decode cX11_cheapest 41 = .ok (.getfield 81, 3) := by decide +kernel
theorem dX11_cheapest_44 : decode cX11_cheapest 44 = .ok (.aload_n 1, 1) := by decide +kernel
theorem dX11_cheapest_45 : decode cX11_cheapest 45 = .ok (.iload 5, 2) := by decide +kernel
theorem dX11_cheapest_47 : decode cX11_cheapest 47 = .ok (.iload 6, 2) := by decide +kernel
theorem dX11_cheapest_49 : decode cX11_cheapest 49 = .ok (.invokevirtual 203, 3) := by decide +kernel
theorem dX11_cheapest_52 : decode cX11_cheapest 52 = .ok (.iload_n 2, 1) := by decide +kernel
theorem dX11_cheapest_53 : decode cX11_cheapest 53 = .ok (.if_icmp .lt 28, 3) := by decide +kernel
theorem dX11_cheapest_56 : decode cX11_cheapest 56 = .ok (.iload_n 3, 1) := by decide +kernel
theorem dX11_cheapest_57 : decode cX11_cheapest 57 = .ok (.iconst (-1), 1) := by decide +kernel
theorem dX11_cheapest_58 : decode cX11_cheapest 58 = .ok (.if_icmp .eq 10, 3) := by decide +kernel
theorem dX11_cheapest_61 : decode cX11_cheapest 61 = .ok (.iload 7, 2) := by decide +kernel
theorem dX11_cheapest_63 : decode cX11_cheapest 63 = .ok (.iload 4, 2) := by decide +kernel
theorem dX11_cheapest_65 : decode cX11_cheapest 65 = .ok (.if_icmp .ge 16, 3) := by decide +kernel
theorem dX11_cheapest_68 : decode cX11_cheapest 68 = .ok (.bipush 10, 2) := by decide +kernel
theorem dX11_cheapest_70 : decode cX11_cheapest 70 = .ok (.iload 5, 2) := by decide +kernel
theorem dX11_cheapest_72 : decode cX11_cheapest 72 = .ok (.imul, 1) := by decide +kernel
theorem dX11_cheapest_73 : decode cX11_cheapest 73 = .ok (.iload 6, 2) := by decide +kernel
theorem dX11_cheapest_75 : decode cX11_cheapest 75 = .ok (.iadd, 1) := by decide +kernel
theorem dX11_cheapest_76 : decode cX11_cheapest 76 = .ok (.istore_n 3, 1) := by decide +kernel
theorem dX11_cheapest_77 : decode cX11_cheapest 77 = .ok (.iload 7, 2) := by decide +kernel
theorem dX11_cheapest_79 : decode cX11_cheapest 79 = .ok (.istore 4, 2) := by decide +kernel
theorem dX11_cheapest_81 : decode cX11_cheapest 81 = .ok (.iinc 6 1, 3) := by decide +kernel
theorem dX11_cheapest_84 : decode cX11_cheapest 84 = .ok (.goto (-66), 3) := by decide +kernel
theorem dX11_cheapest_87 : decode cX11_cheapest 87 = .ok (.iinc 5 1, 3) := by decide +kernel
theorem dX11_cheapest_90 : decode cX11_cheapest 90 = .ok (.goto (-82), 3) := by decide +kernel
theorem dX11_cheapest_93 : decode cX11_cheapest 93 = .ok (.iload_n 3, 1) := by decide +kernel
theorem dX11_cheapest_94 : decode cX11_cheapest 94 = .ok (.ireturn, 1) := by decide +kernel
theorem dX11_pairsTrouble_0 : decode cX11_pairsTrouble 0 = .ok (.aload_n 0, 1) := by decide +kernel
theorem dX11_pairsTrouble_1 : decode cX11_pairsTrouble 1 = .ok (.iload_n 1, 1) := by decide +kernel
theorem dX11_pairsTrouble_2 : decode cX11_pairsTrouble 2 = .ok (.invokevirtual 99, 3) := by decide +kernel
theorem dX11_pairsTrouble_5 : decode cX11_pairsTrouble 5 = .ok (.istore 4, 2) := by decide +kernel
theorem dX11_pairsTrouble_7 : decode cX11_pairsTrouble 7 = .ok (.iload 4, 2) := by decide +kernel
theorem dX11_pairsTrouble_9 : decode cX11_pairsTrouble 9 = .ok (.ifCond .eq 6, 3) := by decide +kernel
theorem dX11_pairsTrouble_12 : decode cX11_pairsTrouble 12 = .ok (.iload 4, 2) := by decide +kernel
theorem dX11_pairsTrouble_14 : decode cX11_pairsTrouble 14 = .ok (.ireturn, 1) := by decide +kernel
theorem dX11_pairsTrouble_15 : decode cX11_pairsTrouble 15 = .ok (.iload_n 2, 1) := by decide +kernel
theorem dX11_pairsTrouble_16 : decode cX11_pairsTrouble 16 = .ok (.ifCond .ge 5, 3) := by decide +kernel
theorem dX11_pairsTrouble_19 : decode cX11_pairsTrouble 19 = .ok (.iconst 4, 1) := by decide +kernel
theorem dX11_pairsTrouble_20 : decode cX11_pairsTrouble 20 = .ok (.ireturn, 1) := by decide +kernel
theorem dX11_pairsTrouble_21 : decode cX11_pairsTrouble 21 = .ok (.iload_n 2, 1) := by decide +kernel
theorem dX11_pairsTrouble_22 : decode cX11_pairsTrouble 22 = .ok (.aload_n 0, 1) := by decide +kernel
theorem dX11_pairsTrouble_23 : decode cX11_pairsTrouble 23 = .ok (.getfield 13, 3) := by decide +kernel
theorem dX11_pairsTrouble_26 : decode cX11_pairsTrouble 26 = .ok (.iload_n 1, 1) := by decide +kernel
theorem dX11_pairsTrouble_27 : decode cX11_pairsTrouble 27 = .ok (.iaload, 1) := by decide +kernel
theorem dX11_pairsTrouble_28 : decode cX11_pairsTrouble 28 = .ok (.if_icmp .gt 7, 3) := by decide +kernel
theorem dX11_pairsTrouble_31 : decode cX11_pairsTrouble 31 = .ok (.iload_n 3, 1) := by decide +kernel
theorem dX11_pairsTrouble_32 : decode cX11_pairsTrouble 32 = .ok (.ifCond .eq 5, 3) := by decide +kernel
theorem dX11_pairsTrouble_35 : decode cX11_pairsTrouble 35 = .ok (.iconst 5, 1) := by decide +kernel
theorem dX11_pairsTrouble_36 : decode cX11_pairsTrouble 36 = .ok (.ireturn, 1) := by decide +kernel
theorem dX11_pairsTrouble_37 : decode cX11_pairsTrouble 37 = .ok (.iload_n 2, 1) := by decide +kernel
theorem dX11_pairsTrouble_38 : decode cX11_pairsTrouble 38 = .ok (.bipush 20, 2) := by decide +kernel
theorem dX11_pairsTrouble_40 : decode cX11_pairsTrouble 40 = .ok (.if_icmp .le 6, 3) := by decide +kernel
theorem dX11_pairsTrouble_43 : decode cX11_pairsTrouble 43 = .ok (.bipush 6, 2) := by decide +kernel
theorem dX11_pairsTrouble_45 : decode cX11_pairsTrouble 45 = .ok (.ireturn, 1) := by decide +kernel
theorem dX11_pairsTrouble_46 : decode cX11_pairsTrouble 46 = .ok (.iconst 0, 1) := by decide +kernel
theorem dX11_pairsTrouble_47 : decode cX11_pairsTrouble 47 = .ok (.istore 5, 2) := by decide +kernel
theorem dX11_pairsTrouble_49 : decode cX11_pairsTrouble 49 = .ok (.iload 5, 2) := by decide +kernel
theorem dX11_pairsTrouble_51 : decode cX11_pairsTrouble 51 = .ok (.iload_n 2, 1) := by decide +kernel
theorem dX11_pairsTrouble_52 : decode cX11_pairsTrouble 52 = .ok (.if_icmp .ge 28, 3) := by decide +kernel
theorem dX11_pairsTrouble_55 : decode cX11_pairsTrouble 55 = .ok (.aload_n 0, 1) := by decide +kernel
theorem dX11_pairsTrouble_56 : decode cX11_pairsTrouble 56 = .ok (.getfield 18, 3) := by decide +kernel
theorem dX11_pairsTrouble_59 : decode cX11_pairsTrouble 59 = .ok (.iload_n 1, 1) := by decide +kernel
theorem dX11_pairsTrouble_60 : decode cX11_pairsTrouble 60 = .ok (.aaload, 1) := by decide +kernel
theorem dX11_pairsTrouble_61 : decode cX11_pairsTrouble 61 = .ok (.iload 5, 2) := by decide +kernel
theorem dX11_pairsTrouble_63 : decode cX11_pairsTrouble 63 = .ok (.laload, 1) := by decide +kernel
theorem dX11_pairsTrouble_64 : decode cX11_pairsTrouble 64 = .ok (.l2i, 1) := by decide +kernel
theorem dX11_pairsTrouble_65 : decode cX11_pairsTrouble 65 = .ok (.invokestatic 337, 3) := by decide +kernel
theorem dX11_pairsTrouble_68 : decode cX11_pairsTrouble 68 = .ok (.ifCond .ne 6, 3) := by decide +kernel
theorem dX11_pairsTrouble_71 : decode cX11_pairsTrouble 71 = .ok (.bipush 6, 2) := by decide +kernel
theorem dX11_pairsTrouble_73 : decode cX11_pairsTrouble 73 = .ok (.ireturn, 1) := by decide +kernel
theorem dX11_pairsTrouble_74 : decode cX11_pairsTrouble 74 = .ok (.iinc 5 1, 3) := by decide +kernel
theorem dX11_pairsTrouble_77 : decode cX11_pairsTrouble 77 = .ok (.goto (-28), 3) := by decide +kernel
theorem dX11_pairsTrouble_80 : decode cX11_pairsTrouble 80 = .ok (.iconst 0, 1) := by decide +kernel
theorem dX11_pairsTrouble_81 : decode cX11_pairsTrouble 81 = .ok (.ireturn, 1) := by decide +kernel
theorem dX11_isPair_0 : decode cX11_isPair 0 = .ok (.iload_n 0, 1) := by decide +kernel
theorem dX11_isPair_1 : decode cX11_isPair 1 = .ok (.ifCond .lt 36, 3) := by decide +kernel
theorem dX11_isPair_4 : decode cX11_isPair 4 = .ok (.iload_n 0, 1) := by decide +kernel
theorem dX11_isPair_5 : decode cX11_isPair 5 = .ok (.bipush 10, 2) := by decide +kernel
theorem dX11_isPair_7 : decode cX11_isPair 7 = .ok (.idiv, 1) := by decide +kernel
theorem dX11_isPair_8 : decode cX11_isPair 8 = .ok (.bipush 8, 2) := by decide +kernel
theorem dX11_isPair_10 : decode cX11_isPair 10 = .ok (.if_icmp .ge 27, 3) := by decide +kernel
theorem dX11_isPair_13 : decode cX11_isPair 13 = .ok (.iload_n 0, 1) := by decide +kernel
theorem dX11_isPair_14 : decode cX11_isPair 14 = .ok (.bipush 10, 2) := by decide +kernel
theorem dX11_isPair_16 : decode cX11_isPair 16 = .ok (.irem, 1) := by decide +kernel
theorem dX11_isPair_17 : decode cX11_isPair 17 = .ok (.bipush 8, 2) := by decide +kernel
theorem dX11_isPair_19 : decode cX11_isPair 19 = .ok (.if_icmp .ge 18, 3) := by decide +kernel
theorem dX11_isPair_22 : decode cX11_isPair 22 = .ok (.iload_n 0, 1) := by decide +kernel
theorem dX11_isPair_23 : decode cX11_isPair 23 = .ok (.bipush 10, 2) := by decide +kernel
theorem dX11_isPair_25 : decode cX11_isPair 25 = .ok (.idiv, 1) := by decide +kernel
theorem dX11_isPair_26 : decode cX11_isPair 26 = .ok (.iload_n 0, 1) := by decide +kernel
theorem dX11_isPair_27 : decode cX11_isPair 27 = .ok (.bipush 10, 2) := by decide +kernel
theorem dX11_isPair_29 : decode cX11_isPair 29 = .ok (.irem, 1) := by decide +kernel
theorem dX11_isPair_30 : decode cX11_isPair 30 = .ok (.if_icmp .eq 7, 3) := by decide +kernel
theorem dX11_isPair_33 : decode cX11_isPair 33 = .ok (.iconst 1, 1) := by decide +kernel
theorem dX11_isPair_34 : decode cX11_isPair 34 = .ok (.goto 4, 3) := by decide +kernel
theorem dX11_isPair_37 : decode cX11_isPair 37 = .ok (.iconst 0, 1) := by decide +kernel
theorem dX11_isPair_38 : decode cX11_isPair 38 = .ok (.ireturn, 1) := by decide +kernel
theorem dX11_forgetPairs_0 : decode cX11_forgetPairs 0 = .ok (.aload_n 0, 1) := by decide +kernel
theorem dX11_forgetPairs_1 : decode cX11_forgetPairs 1 = .ok (.iconst 0, 1) := by decide +kernel
theorem dX11_forgetPairs_2 : decode cX11_forgetPairs 2 = .ok (.putfield 24, 3) := by decide +kernel
theorem dX11_forgetPairs_5 : decode cX11_forgetPairs 5 = .ok (.iconst 0, 1) := by decide +kernel
theorem dX11_forgetPairs_6 : decode cX11_forgetPairs 6 = .ok (.istore_n 1, 1) := by decide +kernel
theorem dX11_forgetPairs_7 : decode cX11_forgetPairs 7 = .ok (.iload_n 1, 1) := by decide +kernel
theorem dX11_forgetPairs_8 : decode cX11_forgetPairs 8 = .ok (.bipush 8, 2) := by decide +kernel
theorem dX11_forgetPairs_10 : decode cX11_forgetPairs 10 = .ok (.if_icmp .ge 16, 3) := by decide +kernel
theorem dX11_forgetPairs_13 : decode cX11_forgetPairs 13 = .ok (.aload_n 0, 1) := by decide +kernel
theorem dX11_forgetPairs_14 : decode cX11_forgetPairs 14 = .ok (.getfield 28, 3) := by decide +kernel
theorem dX11_forgetPairs_17 : decode cX11_forgetPairs 17 = .ok (.iload_n 1, 1) := by decide +kernel
theorem dX11_forgetPairs_18 : decode cX11_forgetPairs 18 = .ok (.iconst 0, 1) := by decide +kernel
theorem dX11_forgetPairs_19 : decode cX11_forgetPairs 19 = .ok (.iastore, 1) := by decide +kernel
theorem dX11_forgetPairs_20 : decode cX11_forgetPairs 20 = .ok (.iinc 1 1, 3) := by decide +kernel
theorem dX11_forgetPairs_23 : decode cX11_forgetPairs 23 = .ok (.goto (-16), 3) := by decide +kernel
theorem dX11_forgetPairs_26 : decode cX11_forgetPairs 26 = .ok (.return_, 1) := by decide +kernel
theorem dX11_addPair_0 : decode cX11_addPair 0 = .ok (.iload_n 1, 1) := by decide +kernel
theorem dX11_addPair_1 : decode cX11_addPair 1 = .ok (.invokestatic 337, 3) := by decide +kernel
theorem dX11_addPair_4 : decode cX11_addPair 4 = .ok (.ifCond .eq 43, 3) := by decide +kernel
theorem dX11_addPair_7 : decode cX11_addPair 7 = .ok (.aload_n 0, 1) := by decide +kernel
theorem dX11_addPair_8 : decode cX11_addPair 8 = .ok (.dup, 1) := by decide +kernel
theorem dX11_addPair_9 : decode cX11_addPair 9 = .ok (.getfield 24, 3) := by decide +kernel
theorem dX11_addPair_12 : decode cX11_addPair 12 = .ok (.iconst 1, 1) := by decide +kernel
theorem dX11_addPair_13 : decode cX11_addPair 13 = .ok (.iload_n 1, 1) := by decide +kernel
theorem dX11_addPair_14 : decode cX11_addPair 14 = .ok (.bipush 10, 2) := by decide +kernel
theorem dX11_addPair_16 : decode cX11_addPair 16 = .ok (.idiv, 1) := by decide +kernel
theorem dX11_addPair_17 : decode cX11_addPair 17 = .ok (.ishl, 1) := by decide +kernel
theorem dX11_addPair_18 : decode cX11_addPair 18 = .ok (.iconst 1, 1) := by decide +kernel
theorem dX11_addPair_19 : decode cX11_addPair 19 = .ok (.iload_n 1, 1) := by decide +kernel
theorem dX11_addPair_20 : decode cX11_addPair 20 = .ok (.bipush 10, 2) := by decide +kernel
theorem dX11_addPair_22 : decode cX11_addPair 22 = .ok (.irem, 1) := by decide +kernel
theorem dX11_addPair_23 : decode cX11_addPair 23 = .ok (.ishl, 1) := by decide +kernel
theorem dX11_addPair_24 : decode cX11_addPair 24 = .ok (.ior, 1) := by decide +kernel
theorem dX11_addPair_25 : decode cX11_addPair 25 = .ok (.ior, 1) := by decide +kernel
theorem dX11_addPair_26 : decode cX11_addPair 26 = .ok (.putfield 24, 3) := by decide +kernel
theorem dX11_addPair_29 : decode cX11_addPair 29 = .ok (.aload_n 0, 1) := by decide +kernel
theorem dX11_addPair_30 : decode cX11_addPair 30 = .ok (.getfield 28, 3) := by decide +kernel
theorem dX11_addPair_33 : decode cX11_addPair 33 = .ok (.iload_n 1, 1) := by decide +kernel
theorem dX11_addPair_34 : decode cX11_addPair 34 = .ok (.bipush 10, 2) := by decide +kernel
theorem dX11_addPair_36 : decode cX11_addPair 36 = .ok (.idiv, 1) := by decide +kernel
theorem dX11_addPair_37 : decode cX11_addPair 37 = .ok (.dup2, 1) := by decide +kernel
theorem dX11_addPair_38 : decode cX11_addPair 38 = .ok (.iaload, 1) := by decide +kernel
theorem dX11_addPair_39 : decode cX11_addPair 39 = .ok (.iconst 1, 1) := by decide +kernel
theorem dX11_addPair_40 : decode cX11_addPair 40 = .ok (.iload_n 1, 1) := by decide +kernel
theorem dX11_addPair_41 : decode cX11_addPair 41 = .ok (.bipush 10, 2) := by decide +kernel
theorem dX11_addPair_43 : decode cX11_addPair 43 = .ok (.irem, 1) := by decide +kernel
theorem dX11_addPair_44 : decode cX11_addPair 44 = .ok (.ishl, 1) := by decide +kernel
theorem dX11_addPair_45 : decode cX11_addPair 45 = .ok (.ior, 1) := by decide +kernel
theorem dX11_addPair_46 : decode cX11_addPair 46 = .ok (.iastore, 1) := by decide +kernel
theorem dX11_addPair_47 : decode cX11_addPair 47 = .ok (.return_, 1) := by decide +kernel
theorem dX11_mayComeOn_0 : decode cX11_mayComeOn 0 = .ok (.aload_n 0, 1) := by decide +kernel
theorem dX11_mayComeOn_1 : decode cX11_mayComeOn 1 = .ok (.getfield 24, 3) := by decide +kernel
theorem dX11_mayComeOn_4 : decode cX11_mayComeOn 4 = .ok (.iload_n 2, 1) := by decide +kernel
theorem dX11_mayComeOn_5 : decode cX11_mayComeOn 5 = .ok (.iconst (-1), 1) := by decide +kernel
theorem dX11_mayComeOn_6 : decode cX11_mayComeOn 6 = .ok (.ixor, 1) := by decide +kernel
theorem dX11_mayComeOn_7 : decode cX11_mayComeOn 7 = .ok (.iand, 1) := by decide +kernel
theorem dX11_mayComeOn_8 : decode cX11_mayComeOn 8 = .ok (.iconst 1, 1) := by decide +kernel
theorem dX11_mayComeOn_9 : decode cX11_mayComeOn 9 = .ok (.iload_n 1, 1) := by decide +kernel
theorem dX11_mayComeOn_10 : decode cX11_mayComeOn 10 = .ok (.ishl, 1) := by decide +kernel
theorem dX11_mayComeOn_11 : decode cX11_mayComeOn 11 = .ok (.iand, 1) := by decide +kernel
theorem dX11_mayComeOn_12 : decode cX11_mayComeOn 12 = .ok (.ifCond .eq 20, 3) := by decide +kernel
theorem dX11_mayComeOn_15 : decode cX11_mayComeOn 15 = .ok (.aload_n 0, 1) := by decide +kernel
theorem dX11_mayComeOn_16 : decode cX11_mayComeOn 16 = .ok (.getfield 28, 3) := by decide +kernel
theorem dX11_mayComeOn_19 : decode cX11_mayComeOn 19 = .ok (.iload_n 1, 1) := by decide +kernel
theorem dX11_mayComeOn_20 : decode cX11_mayComeOn 20 = .ok (.iaload, 1) := by decide +kernel
theorem dX11_mayComeOn_21 : decode cX11_mayComeOn 21 = .ok (.iload_n 2, 1) := by decide +kernel
theorem dX11_mayComeOn_22 : decode cX11_mayComeOn 22 = .ok (.iconst (-1), 1) := by decide +kernel
theorem dX11_mayComeOn_23 : decode cX11_mayComeOn 23 = .ok (.ixor, 1) := by decide +kernel
theorem dX11_mayComeOn_24 : decode cX11_mayComeOn 24 = .ok (.iand, 1) := by decide +kernel
theorem dX11_mayComeOn_25 : decode cX11_mayComeOn 25 = .ok (.ifCond .ne 7, 3) := by decide +kernel
theorem dX11_mayComeOn_28 : decode cX11_mayComeOn 28 = .ok (.iconst 1, 1) := by decide +kernel
theorem dX11_mayComeOn_29 : decode cX11_mayComeOn 29 = .ok (.goto 4, 3) := by decide +kernel
theorem dX11_mayComeOn_32 : decode cX11_mayComeOn 32 = .ok (.iconst 0, 1) := by decide +kernel
theorem dX11_mayComeOn_33 : decode cX11_mayComeOn 33 = .ok (.ireturn, 1) := by decide +kernel
theorem dX11_lowestOn_0 : decode cX11_lowestOn 0 = .ok (.iconst 0, 1) := by decide +kernel
theorem dX11_lowestOn_1 : decode cX11_lowestOn 1 = .ok (.istore_n 2, 1) := by decide +kernel
theorem dX11_lowestOn_2 : decode cX11_lowestOn 2 = .ok (.iload_n 2, 1) := by decide +kernel
theorem dX11_lowestOn_3 : decode cX11_lowestOn 3 = .ok (.bipush 8, 2) := by decide +kernel
theorem dX11_lowestOn_5 : decode cX11_lowestOn 5 = .ok (.if_icmp .ge 20, 3) := by decide +kernel
theorem dX11_lowestOn_8 : decode cX11_lowestOn 8 = .ok (.aload_n 0, 1) := by decide +kernel
theorem dX11_lowestOn_9 : decode cX11_lowestOn 9 = .ok (.iload_n 2, 1) := by decide +kernel
theorem dX11_lowestOn_10 : decode cX11_lowestOn 10 = .ok (.iload_n 1, 1) := by decide +kernel
theorem dX11_lowestOn_11 : decode cX11_lowestOn 11 = .ok (.invokevirtual 340, 3) := by decide +kernel
theorem dX11_lowestOn_14 : decode cX11_lowestOn 14 = .ok (.ifCond .eq 5, 3) := by decide +kernel
theorem dX11_lowestOn_17 : decode cX11_lowestOn 17 = .ok (.iload_n 2, 1) := by decide +kernel
theorem dX11_lowestOn_18 : decode cX11_lowestOn 18 = .ok (.ireturn, 1) := by decide +kernel
theorem dX11_lowestOn_19 : decode cX11_lowestOn 19 = .ok (.iinc 2 1, 3) := by decide +kernel
theorem dX11_lowestOn_22 : decode cX11_lowestOn 22 = .ok (.goto (-20), 3) := by decide +kernel
theorem dX11_lowestOn_25 : decode cX11_lowestOn 25 = .ok (.iconst (-1), 1) := by decide +kernel
theorem dX11_lowestOn_26 : decode cX11_lowestOn 26 = .ok (.ireturn, 1) := by decide +kernel
theorem dX11_orderFits_0 : decode cX11_orderFits 0 = .ok (.iconst 0, 1) := by decide +kernel
theorem dX11_orderFits_1 : decode cX11_orderFits 1 = .ok (.istore_n 1, 1) := by decide +kernel
theorem dX11_orderFits_2 : decode cX11_orderFits 2 = .ok (.iconst 0, 1) := by decide +kernel
theorem dX11_orderFits_3 : decode cX11_orderFits 3 = .ok (.istore_n 2, 1) := by decide +kernel
theorem dX11_orderFits_4 : decode cX11_orderFits 4 = .ok (.iload_n 2, 1) := by decide +kernel
theorem dX11_orderFits_5 : decode cX11_orderFits 5 = .ok (.bipush 8, 2) := by decide +kernel
theorem dX11_orderFits_7 : decode cX11_orderFits 7 = .ok (.if_icmp .ge 26, 3) := by decide +kernel
theorem dX11_orderFits_10 : decode cX11_orderFits 10 = .ok (.aload_n 0, 1) := by decide +kernel
theorem dX11_orderFits_11 : decode cX11_orderFits 11 = .ok (.iload_n 1, 1) := by decide +kernel
theorem dX11_orderFits_12 : decode cX11_orderFits 12 = .ok (.invokevirtual 343, 3) := by decide +kernel
theorem dX11_orderFits_15 : decode cX11_orderFits 15 = .ok (.istore_n 3, 1) := by decide +kernel
theorem dX11_orderFits_16 : decode cX11_orderFits 16 = .ok (.iload_n 3, 1) := by decide +kernel
theorem dX11_orderFits_17 : decode cX11_orderFits 17 = .ok (.iconst (-1), 1) := by decide +kernel
theorem dX11_orderFits_18 : decode cX11_orderFits 18 = .ok (.if_icmp .eq 9, 3) := by decide +kernel
theorem dX11_orderFits_21 : decode cX11_orderFits 21 = .ok (.iload_n 1, 1) := by decide +kernel
theorem dX11_orderFits_22 : decode cX11_orderFits 22 = .ok (.iconst 1, 1) := by decide +kernel
theorem dX11_orderFits_23 : decode cX11_orderFits 23 = .ok (.iload_n 3, 1) := by decide +kernel
theorem dX11_orderFits_24 : decode cX11_orderFits 24 = .ok (.ishl, 1) := by decide +kernel
theorem dX11_orderFits_25 : decode cX11_orderFits 25 = .ok (.ior, 1) := by decide +kernel
theorem dX11_orderFits_26 : decode cX11_orderFits 26 = .ok (.istore_n 1, 1) := by decide +kernel
theorem dX11_orderFits_27 : decode cX11_orderFits 27 = .ok (.iinc 2 1, 3) := by decide +kernel
theorem dX11_orderFits_30 : decode cX11_orderFits 30 = .ok (.goto (-26), 3) := by decide +kernel
theorem dX11_orderFits_33 : decode cX11_orderFits 33 = .ok (.iload_n 1, 1) := by decide +kernel
theorem dX11_orderFits_34 : decode cX11_orderFits 34 = .ok (.aload_n 0, 1) := by decide +kernel
theorem dX11_orderFits_35 : decode cX11_orderFits 35 = .ok (.getfield 24, 3) := by decide +kernel
theorem dX11_orderFits_38 : decode cX11_orderFits 38 = .ok (.if_icmp .ne 7, 3) := by decide +kernel
theorem dX11_orderFits_41 : decode cX11_orderFits 41 = .ok (.iconst 1, 1) := by decide +kernel
theorem dX11_orderFits_42 : decode cX11_orderFits 42 = .ok (.goto 4, 3) := by decide +kernel
theorem dX11_orderFits_45 : decode cX11_orderFits 45 = .ok (.iconst 0, 1) := by decide +kernel
theorem dX11_orderFits_46 : decode cX11_orderFits 46 = .ok (.ireturn, 1) := by decide +kernel
theorem dX11_inFirstOrder_0 : decode cX11_inFirstOrder 0 = .ok (.iconst 0, 1) := by decide +kernel
theorem dX11_inFirstOrder_1 : decode cX11_inFirstOrder 1 = .ok (.istore_n 2, 1) := by decide +kernel
theorem dX11_inFirstOrder_2 : decode cX11_inFirstOrder 2 = .ok (.iconst (-1), 1) := by decide +kernel
theorem dX11_inFirstOrder_3 : decode cX11_inFirstOrder 3 = .ok (.istore_n 3, 1) := by decide +kernel
theorem dX11_inFirstOrder_4 : decode cX11_inFirstOrder 4 = .ok (.iconst 0, 1) := by decide +kernel
theorem dX11_inFirstOrder_5 : decode cX11_inFirstOrder 5 = .ok (.istore 4, 2) := by decide +kernel
theorem dX11_inFirstOrder_7 : decode cX11_inFirstOrder 7 = .ok (.iload 4, 2) := by decide +kernel
theorem dX11_inFirstOrder_9 : decode cX11_inFirstOrder 9 = .ok (.iload_n 1, 1) := by decide +kernel
theorem dX11_inFirstOrder_10 : decode cX11_inFirstOrder 10 = .ok (.if_icmp .gt 28, 3) := by decide +kernel
theorem dX11_inFirstOrder_13 : decode cX11_inFirstOrder 13 = .ok (.aload_n 0, 1) := by decide +kernel
theorem dX11_inFirstOrder_14 : decode cX11_inFirstOrder 14 = .ok (.iload_n 2, 1) := by decide +kernel
theorem dX11_inFirstOrder_15 : decode cX11_inFirstOrder 15 = .ok (.invokevirtual 343, 3) := by decide +kernel
theorem dX11_inFirstOrder_18 : decode cX11_inFirstOrder 18 = .ok (.istore_n 3, 1) := by decide +kernel
theorem dX11_inFirstOrder_19 : decode cX11_inFirstOrder 19 = .ok (.iload_n 3, 1) := by decide +kernel
theorem dX11_inFirstOrder_20 : decode cX11_inFirstOrder 20 = .ok (.iconst (-1), 1) := by decide +kernel
theorem dX11_inFirstOrder_21 : decode cX11_inFirstOrder 21 = .ok (.if_icmp .ne 5, 3) := by decide +kernel
theorem dX11_inFirstOrder_24 : decode cX11_inFirstOrder 24 = .ok (.iconst (-1), 1) := by decide +kernel
theorem dX11_inFirstOrder_25 : decode cX11_inFirstOrder 25 = .ok (.ireturn, 1) := by decide +kernel
theorem dX11_inFirstOrder_26 : decode cX11_inFirstOrder 26 = .ok (.iload_n 2, 1) := by decide +kernel
theorem dX11_inFirstOrder_27 : decode cX11_inFirstOrder 27 = .ok (.iconst 1, 1) := by decide +kernel
theorem dX11_inFirstOrder_28 : decode cX11_inFirstOrder 28 = .ok (.iload_n 3, 1) := by decide +kernel
theorem dX11_inFirstOrder_29 : decode cX11_inFirstOrder 29 = .ok (.ishl, 1) := by decide +kernel
theorem dX11_inFirstOrder_30 : decode cX11_inFirstOrder 30 = .ok (.ior, 1) := by decide +kernel
theorem dX11_inFirstOrder_31 : decode cX11_inFirstOrder 31 = .ok (.istore_n 2, 1) := by decide +kernel
theorem dX11_inFirstOrder_32 : decode cX11_inFirstOrder 32 = .ok (.iinc 4 1, 3) := by decide +kernel
theorem dX11_inFirstOrder_35 : decode cX11_inFirstOrder 35 = .ok (.goto (-28), 3) := by decide +kernel
theorem dX11_inFirstOrder_38 : decode cX11_inFirstOrder 38 = .ok (.iload_n 3, 1) := by decide +kernel
theorem dX11_inFirstOrder_39 : decode cX11_inFirstOrder 39 = .ok (.ireturn, 1) := by decide +kernel
theorem dX11_countOrders_0 : decode cX11_countOrders 0 = .ok (.iconst 0, 1) := by decide +kernel
theorem dX11_countOrders_1 : decode cX11_countOrders 1 = .ok (.istore_n 1, 1) := by decide +kernel
theorem dX11_countOrders_2 : decode cX11_countOrders 2 = .ok (.iload_n 1, 1) := by decide +kernel
theorem dX11_countOrders_3 : decode cX11_countOrders 3 = .ok (.aload_n 0, 1) := by decide +kernel
theorem dX11_countOrders_4 : decode cX11_countOrders 4 = .ok (.getfield 31, 3) := by decide +kernel
theorem dX11_countOrders_7 : decode cX11_countOrders 7 = .ok (.arraylength, 1) := by decide +kernel
theorem dX11_countOrders_8 : decode cX11_countOrders 8 = .ok (.if_icmp .ge 16, 3) := by decide +kernel
theorem dX11_countOrders_11 : decode cX11_countOrders 11 = .ok (.aload_n 0, 1) := by decide +kernel
theorem dX11_countOrders_12 : decode cX11_countOrders 12 = .ok (.getfield 31, 3) := by decide +kernel
theorem dX11_countOrders_15 : decode cX11_countOrders 15 = .ok (.iload_n 1, 1) := by decide +kernel
theorem dX11_countOrders_16 : decode cX11_countOrders 16 = .ok (.iconst 0, 1) := by decide +kernel
theorem dX11_countOrders_17 : decode cX11_countOrders 17 = .ok (.iastore, 1) := by decide +kernel
theorem dX11_countOrders_18 : decode cX11_countOrders 18 = .ok (.iinc 1 1, 3) := by decide +kernel
theorem dX11_countOrders_21 : decode cX11_countOrders 21 = .ok (.goto (-19), 3) := by decide +kernel
theorem dX11_countOrders_24 : decode cX11_countOrders 24 = .ok (.aload_n 0, 1) := by decide +kernel
theorem dX11_countOrders_25 : decode cX11_countOrders 25 = .ok (.getfield 31, 3) := by decide +kernel
theorem dX11_countOrders_28 : decode cX11_countOrders 28 = .ok (.iconst 0, 1) := by decide +kernel
theorem dX11_countOrders_29 : decode cX11_countOrders 29 = .ok (.iconst 1, 1) := by decide +kernel
theorem dX11_countOrders_30 : decode cX11_countOrders 30 = .ok (.iastore, 1) := by decide +kernel
theorem dX11_countOrders_31 : decode cX11_countOrders 31 = .ok (.iconst 0, 1) := by decide +kernel
theorem dX11_countOrders_32 : decode cX11_countOrders 32 = .ok (.istore_n 1, 1) := by decide +kernel
theorem dX11_countOrders_33 : decode cX11_countOrders 33 = .ok (.iload_n 1, 1) := by decide +kernel
theorem dX11_countOrders_34 : decode cX11_countOrders 34 = .ok (.aload_n 0, 1) := by decide +kernel
theorem dX11_countOrders_35 : decode cX11_countOrders 35 = .ok (.getfield 31, 3) := by decide +kernel
theorem dX11_countOrders_38 : decode cX11_countOrders 38 = .ok (.arraylength, 1) := by decide +kernel
theorem dX11_countOrders_39 : decode cX11_countOrders 39 = .ok (.if_icmp .ge 60, 3) := by decide +kernel
theorem dX11_countOrders_42 : decode cX11_countOrders 42 = .ok (.iconst 0, 1) := by decide +kernel
theorem dX11_countOrders_43 : decode cX11_countOrders 43 = .ok (.istore_n 2, 1) := by decide +kernel
theorem dX11_countOrders_44 : decode cX11_countOrders 44 = .ok (.iload_n 2, 1) := by decide +kernel
theorem dX11_countOrders_45 : decode cX11_countOrders 45 = .ok (.bipush 8, 2) := by decide +kernel
theorem dX11_countOrders_47 : decode cX11_countOrders 47 = .ok (.if_icmp .ge 46, 3) := by decide +kernel
theorem dX11_countOrders_50 : decode cX11_countOrders 50 = .ok (.aload_n 0, 1) := by decide +kernel
theorem dX11_countOrders_51 : decode cX11_countOrders 51 = .ok (.getfield 31, 3) := by decide +kernel
theorem dX11_countOrders_54 : decode cX11_countOrders 54 = .ok (.iload_n 1, 1) := by decide +kernel
theorem dX11_countOrders_55 : decode cX11_countOrders 55 = .ok (.iaload, 1) := by decide +kernel
theorem dX11_countOrders_56 : decode cX11_countOrders 56 = .ok (.ifCond .le 31, 3) := by decide +kernel
theorem dX11_countOrders_59 : decode cX11_countOrders 59 = .ok (.aload_n 0, 1) := by decide +kernel
theorem dX11_countOrders_60 : decode cX11_countOrders 60 = .ok (.iload_n 2, 1) := by decide +kernel
theorem dX11_countOrders_61 : decode cX11_countOrders 61 = .ok (.iload_n 1, 1) := by decide +kernel
theorem dX11_countOrders_62 : decode cX11_countOrders 62 = .ok (.invokevirtual 340, 3) := by decide +kernel
theorem dX11_countOrders_65 : decode cX11_countOrders 65 = .ok (.ifCond .eq 22, 3) := by decide +kernel
theorem dX11_countOrders_68 : decode cX11_countOrders 68 = .ok (.aload_n 0, 1) := by decide +kernel
theorem dX11_countOrders_69 : decode cX11_countOrders 69 = .ok (.getfield 31, 3) := by decide +kernel
theorem dX11_countOrders_72 : decode cX11_countOrders 72 = .ok (.iload_n 1, 1) := by decide +kernel
theorem dX11_countOrders_73 : decode cX11_countOrders 73 = .ok (.iconst 1, 1) := by decide +kernel
theorem dX11_countOrders_74 : decode cX11_countOrders 74 = .ok (.iload_n 2, 1) := by decide +kernel
theorem dX11_countOrders_75 : decode cX11_countOrders 75 = .ok (.ishl, 1) := by decide +kernel
theorem dX11_countOrders_76 : decode cX11_countOrders 76 = .ok (.ior, 1) := by decide +kernel
theorem dX11_countOrders_77 : decode cX11_countOrders 77 = .ok (.dup2, 1) := by decide +kernel
theorem dX11_countOrders_78 : decode cX11_countOrders 78 = .ok (.iaload, 1) := by decide +kernel
theorem dX11_countOrders_79 : decode cX11_countOrders 79 = .ok (.aload_n 0, 1) := by decide +kernel
theorem dX11_countOrders_80 : decode cX11_countOrders 80 = .ok (.getfield 31, 3) := by decide +kernel
theorem dX11_countOrders_83 : decode cX11_countOrders 83 = .ok (.iload_n 1, 1) := by decide +kernel
theorem dX11_countOrders_84 : decode cX11_countOrders 84 = .ok (.iaload, 1) := by decide +kernel
theorem dX11_countOrders_85 : decode cX11_countOrders 85 = .ok (.iadd, 1) := by decide +kernel
theorem dX11_countOrders_86 : decode cX11_countOrders 86 = .ok (.iastore, 1) := by decide +kernel
theorem dX11_countOrders_87 : decode cX11_countOrders 87 = .ok (.iinc 2 1, 3) := by decide +kernel
theorem dX11_countOrders_90 : decode cX11_countOrders 90 = .ok (.goto (-46), 3) := by decide +kernel
theorem dX11_countOrders_93 : decode cX11_countOrders 93 = .ok (.iinc 1 1, 3) := by decide +kernel
theorem dX11_countOrders_96 : decode cX11_countOrders 96 = .ok (.goto (-63), 3) := by decide +kernel
theorem dX11_countOrders_99 : decode cX11_countOrders 99 = .ok (.aload_n 0, 1) := by decide +kernel
theorem dX11_countOrders_100 : decode cX11_countOrders 100 = .ok (.getfield 31, 3) := by decide +kernel
theorem dX11_countOrders_103 : decode cX11_countOrders 103 = .ok (.aload_n 0, 1) := by decide +kernel
theorem dX11_countOrders_104 : decode cX11_countOrders 104 = .ok (.getfield 24, 3) := by decide +kernel
theorem dX11_countOrders_107 : decode cX11_countOrders 107 = .ok (.iaload, 1) := by decide +kernel
theorem dX11_countOrders_108 : decode cX11_countOrders 108 = .ok (.ireturn, 1) := by decide +kernel
theorem dJ6_highestOneBit_0f7a4_0 : decode cJ6_highestOneBit_0f7a4 0 = .ok (.iload_n 0, 1) := by decide +kernel
theorem dJ6_highestOneBit_0f7a4_1 : decode cJ6_highestOneBit_0f7a4 1 = .ok (.ldc 127, 2) := by decide +kernel
theorem dJ6_highestOneBit_0f7a4_3 : decode cJ6_highestOneBit_0f7a4 3 = .ok (.iload_n 0, 1) := by decide +kernel
theorem dJ6_highestOneBit_0f7a4_4 : decode cJ6_highestOneBit_0f7a4 4 = .ok (.invokestatic 51, 3) := by decide +kernel
theorem dJ6_highestOneBit_0f7a4_7 : decode cJ6_highestOneBit_0f7a4 7 = .ok (.iushr, 1) := by decide +kernel
theorem dJ6_highestOneBit_0f7a4_8 : decode cJ6_highestOneBit_0f7a4 8 = .ok (.iand, 1) := by decide +kernel
theorem dJ6_highestOneBit_0f7a4_9 : decode cJ6_highestOneBit_0f7a4 9 = .ok (.ireturn, 1) := by decide +kernel
theorem dJ6_numberOfLeadingZeros_0f7a4_0 : decode cJ6_numberOfLeadingZeros_0f7a4 0 = .ok (.iload_n 0, 1) := by decide +kernel
theorem dJ6_numberOfLeadingZeros_0f7a4_1 : decode cJ6_numberOfLeadingZeros_0f7a4 1 = .ok (.ifCond .gt 14, 3) := by decide +kernel
theorem dJ6_numberOfLeadingZeros_0f7a4_4 : decode cJ6_numberOfLeadingZeros_0f7a4 4 = .ok (.iload_n 0, 1) := by decide +kernel
theorem dJ6_numberOfLeadingZeros_0f7a4_5 : decode cJ6_numberOfLeadingZeros_0f7a4 5 = .ok (.ifCond .ne 8, 3) := by decide +kernel
theorem dJ6_numberOfLeadingZeros_0f7a4_8 : decode cJ6_numberOfLeadingZeros_0f7a4 8 = .ok (.bipush 32, 2) := by decide +kernel
theorem dJ6_numberOfLeadingZeros_0f7a4_10 : decode cJ6_numberOfLeadingZeros_0f7a4 10 = .ok (.goto 4, 3) := by decide +kernel
theorem dJ6_numberOfLeadingZeros_0f7a4_13 : decode cJ6_numberOfLeadingZeros_0f7a4 13 = .ok (.iconst 0, 1) := by decide +kernel
theorem dJ6_numberOfLeadingZeros_0f7a4_14 : decode cJ6_numberOfLeadingZeros_0f7a4 14 = .ok (.ireturn, 1) := by decide +kernel
theorem dJ6_numberOfLeadingZeros_0f7a4_15 : decode cJ6_numberOfLeadingZeros_0f7a4 15 = .ok (.bipush 31, 2) := by decide +kernel
theorem dJ6_numberOfLeadingZeros_0f7a4_17 : decode cJ6_numberOfLeadingZeros_0f7a4 17 = .ok (.istore_n 1, 1) := by decide +kernel
theorem dJ6_numberOfLeadingZeros_0f7a4_18 : decode cJ6_numberOfLeadingZeros_0f7a4 18 = .ok (.iload_n 0, 1) := by decide +kernel
theorem dJ6_numberOfLeadingZeros_0f7a4_19 : decode cJ6_numberOfLeadingZeros_0f7a4 19 = .ok (.ldc_w 264, 3) := by decide +kernel
theorem dJ6_numberOfLeadingZeros_0f7a4_22 : decode cJ6_numberOfLeadingZeros_0f7a4 22 = .ok (.if_icmp .lt 11, 3) := by decide +kernel
theorem dJ6_numberOfLeadingZeros_0f7a4_25 : decode cJ6_numberOfLeadingZeros_0f7a4 25 = .ok (.iinc 1 (-16), 3) := by decide +kernel
theorem dJ6_numberOfLeadingZeros_0f7a4_28 : decode cJ6_numberOfLeadingZeros_0f7a4 28 = .ok (.iload_n 0, 1) := by decide +kernel
theorem dJ6_numberOfLeadingZeros_0f7a4_29 : decode cJ6_numberOfLeadingZeros_0f7a4 29 = .ok (.bipush 16, 2) := by decide +kernel
theorem dJ6_numberOfLeadingZeros_0f7a4_31 : decode cJ6_numberOfLeadingZeros_0f7a4 31 = .ok (.iushr, 1) := by decide +kernel
theorem dJ6_numberOfLeadingZeros_0f7a4_32 : decode cJ6_numberOfLeadingZeros_0f7a4 32 = .ok (.istore_n 0, 1) := by decide +kernel
theorem dJ6_numberOfLeadingZeros_0f7a4_33 : decode cJ6_numberOfLeadingZeros_0f7a4 33 = .ok (.iload_n 0, 1) := by decide +kernel
theorem dJ6_numberOfLeadingZeros_0f7a4_34 : decode cJ6_numberOfLeadingZeros_0f7a4 34 = .ok (.sipush 256, 3) := by decide +kernel
theorem dJ6_numberOfLeadingZeros_0f7a4_37 : decode cJ6_numberOfLeadingZeros_0f7a4 37 = .ok (.if_icmp .lt 11, 3) := by decide +kernel
theorem dJ6_numberOfLeadingZeros_0f7a4_40 : decode cJ6_numberOfLeadingZeros_0f7a4 40 = .ok (.iinc 1 (-8), 3) := by decide +kernel
theorem dJ6_numberOfLeadingZeros_0f7a4_43 : decode cJ6_numberOfLeadingZeros_0f7a4 43 = .ok (.iload_n 0, 1) := by decide +kernel
theorem dJ6_numberOfLeadingZeros_0f7a4_44 : decode cJ6_numberOfLeadingZeros_0f7a4 44 = .ok (.bipush 8, 2) := by decide +kernel
theorem dJ6_numberOfLeadingZeros_0f7a4_46 : decode cJ6_numberOfLeadingZeros_0f7a4 46 = .ok (.iushr, 1) := by decide +kernel
theorem dJ6_numberOfLeadingZeros_0f7a4_47 : decode cJ6_numberOfLeadingZeros_0f7a4 47 = .ok (.istore_n 0, 1) := by decide +kernel
theorem dJ6_numberOfLeadingZeros_0f7a4_48 : decode cJ6_numberOfLeadingZeros_0f7a4 48 = .ok (.iload_n 0, 1) := by decide +kernel
theorem dJ6_numberOfLeadingZeros_0f7a4_49 : decode cJ6_numberOfLeadingZeros_0f7a4 49 = .ok (.bipush 16, 2) := by decide +kernel
theorem dJ6_numberOfLeadingZeros_0f7a4_51 : decode cJ6_numberOfLeadingZeros_0f7a4 51 = .ok (.if_icmp .lt 10, 3) := by decide +kernel
theorem dJ6_numberOfLeadingZeros_0f7a4_54 : decode cJ6_numberOfLeadingZeros_0f7a4 54 = .ok (.iinc 1 (-4), 3) := by decide +kernel
theorem dJ6_numberOfLeadingZeros_0f7a4_57 : decode cJ6_numberOfLeadingZeros_0f7a4 57 = .ok (.iload_n 0, 1) := by decide +kernel
theorem dJ6_numberOfLeadingZeros_0f7a4_58 : decode cJ6_numberOfLeadingZeros_0f7a4 58 = .ok (.iconst 4, 1) := by decide +kernel
theorem dJ6_numberOfLeadingZeros_0f7a4_59 : decode cJ6_numberOfLeadingZeros_0f7a4 59 = .ok (.iushr, 1) := by decide +kernel
theorem dJ6_numberOfLeadingZeros_0f7a4_60 : decode cJ6_numberOfLeadingZeros_0f7a4 60 = .ok (.istore_n 0, 1) := by decide +kernel
theorem dJ6_numberOfLeadingZeros_0f7a4_61 : decode cJ6_numberOfLeadingZeros_0f7a4 61 = .ok (.iload_n 0, 1) := by decide +kernel
theorem dJ6_numberOfLeadingZeros_0f7a4_62 : decode cJ6_numberOfLeadingZeros_0f7a4 62 = .ok (.iconst 4, 1) := by decide +kernel
theorem dJ6_numberOfLeadingZeros_0f7a4_63 : decode cJ6_numberOfLeadingZeros_0f7a4 63 = .ok (.if_icmp .lt 10, 3) := by decide +kernel
theorem dJ6_numberOfLeadingZeros_0f7a4_66 : decode cJ6_numberOfLeadingZeros_0f7a4 66 = .ok (.iinc 1 (-2), 3) := by decide +kernel
theorem dJ6_numberOfLeadingZeros_0f7a4_69 : decode cJ6_numberOfLeadingZeros_0f7a4 69 = .ok (.iload_n 0, 1) := by decide +kernel
theorem dJ6_numberOfLeadingZeros_0f7a4_70 : decode cJ6_numberOfLeadingZeros_0f7a4 70 = .ok (.iconst 2, 1) := by decide +kernel
theorem dJ6_numberOfLeadingZeros_0f7a4_71 : decode cJ6_numberOfLeadingZeros_0f7a4 71 = .ok (.iushr, 1) := by decide +kernel
theorem dJ6_numberOfLeadingZeros_0f7a4_72 : decode cJ6_numberOfLeadingZeros_0f7a4 72 = .ok (.istore_n 0, 1) := by decide +kernel
theorem dJ6_numberOfLeadingZeros_0f7a4_73 : decode cJ6_numberOfLeadingZeros_0f7a4 73 = .ok (.iload_n 1, 1) := by decide +kernel
theorem dJ6_numberOfLeadingZeros_0f7a4_74 : decode cJ6_numberOfLeadingZeros_0f7a4 74 = .ok (.iload_n 0, 1) := by decide +kernel
theorem dJ6_numberOfLeadingZeros_0f7a4_75 : decode cJ6_numberOfLeadingZeros_0f7a4 75 = .ok (.iconst 1, 1) := by decide +kernel
theorem dJ6_numberOfLeadingZeros_0f7a4_76 : decode cJ6_numberOfLeadingZeros_0f7a4 76 = .ok (.iushr, 1) := by decide +kernel
theorem dJ6_numberOfLeadingZeros_0f7a4_77 : decode cJ6_numberOfLeadingZeros_0f7a4 77 = .ok (.isub, 1) := by decide +kernel
theorem dJ6_numberOfLeadingZeros_0f7a4_78 : decode cJ6_numberOfLeadingZeros_0f7a4 78 = .ok (.ireturn, 1) := by decide +kernel
theorem dJ6_bitCount_0f7a4_0 : decode cJ6_bitCount_0f7a4 0 = .ok (.iload_n 0, 1) := by decide +kernel
theorem dJ6_bitCount_0f7a4_1 : decode cJ6_bitCount_0f7a4 1 = .ok (.iload_n 0, 1) := by decide +kernel
theorem dJ6_bitCount_0f7a4_2 : decode cJ6_bitCount_0f7a4 2 = .ok (.iconst 1, 1) := by decide +kernel
theorem dJ6_bitCount_0f7a4_3 : decode cJ6_bitCount_0f7a4 3 = .ok (.iushr, 1) := by decide +kernel
theorem dJ6_bitCount_0f7a4_4 : decode cJ6_bitCount_0f7a4 4 = .ok (.ldc_w 265, 3) := by decide +kernel
theorem dJ6_bitCount_0f7a4_7 : decode cJ6_bitCount_0f7a4 7 = .ok (.iand, 1) := by decide +kernel
theorem dJ6_bitCount_0f7a4_8 : decode cJ6_bitCount_0f7a4 8 = .ok (.isub, 1) := by decide +kernel
theorem dJ6_bitCount_0f7a4_9 : decode cJ6_bitCount_0f7a4 9 = .ok (.istore_n 0, 1) := by decide +kernel
theorem dJ6_bitCount_0f7a4_10 : decode cJ6_bitCount_0f7a4 10 = .ok (.iload_n 0, 1) := by decide +kernel
theorem dJ6_bitCount_0f7a4_11 : decode cJ6_bitCount_0f7a4 11 = .ok (.ldc_w 266, 3) := by decide +kernel
theorem dJ6_bitCount_0f7a4_14 : decode cJ6_bitCount_0f7a4 14 = .ok (.iand, 1) := by decide +kernel
theorem dJ6_bitCount_0f7a4_15 : decode cJ6_bitCount_0f7a4 15 = .ok (.iload_n 0, 1) := by decide +kernel
theorem dJ6_bitCount_0f7a4_16 : decode cJ6_bitCount_0f7a4 16 = .ok (.iconst 2, 1) := by decide +kernel
theorem dJ6_bitCount_0f7a4_17 : decode cJ6_bitCount_0f7a4 17 = .ok (.iushr, 1) := by decide +kernel
theorem dJ6_bitCount_0f7a4_18 : decode cJ6_bitCount_0f7a4 18 = .ok (.ldc_w 266, 3) := by decide +kernel
theorem dJ6_bitCount_0f7a4_21 : decode cJ6_bitCount_0f7a4 21 = .ok (.iand, 1) := by decide +kernel
theorem dJ6_bitCount_0f7a4_22 : decode cJ6_bitCount_0f7a4 22 = .ok (.iadd, 1) := by decide +kernel
theorem dJ6_bitCount_0f7a4_23 : decode cJ6_bitCount_0f7a4 23 = .ok (.istore_n 0, 1) := by decide +kernel
theorem dJ6_bitCount_0f7a4_24 : decode cJ6_bitCount_0f7a4 24 = .ok (.iload_n 0, 1) := by decide +kernel
theorem dJ6_bitCount_0f7a4_25 : decode cJ6_bitCount_0f7a4 25 = .ok (.iload_n 0, 1) := by decide +kernel
theorem dJ6_bitCount_0f7a4_26 : decode cJ6_bitCount_0f7a4 26 = .ok (.iconst 4, 1) := by decide +kernel
theorem dJ6_bitCount_0f7a4_27 : decode cJ6_bitCount_0f7a4 27 = .ok (.iushr, 1) := by decide +kernel
theorem dJ6_bitCount_0f7a4_28 : decode cJ6_bitCount_0f7a4 28 = .ok (.iadd, 1) := by decide +kernel
theorem dJ6_bitCount_0f7a4_29 : decode cJ6_bitCount_0f7a4 29 = .ok (.ldc_w 267, 3) := by decide +kernel
theorem dJ6_bitCount_0f7a4_32 : decode cJ6_bitCount_0f7a4 32 = .ok (.iand, 1) := by decide +kernel
theorem dJ6_bitCount_0f7a4_33 : decode cJ6_bitCount_0f7a4 33 = .ok (.istore_n 0, 1) := by decide +kernel
theorem dJ6_bitCount_0f7a4_34 : decode cJ6_bitCount_0f7a4 34 = .ok (.iload_n 0, 1) := by decide +kernel
theorem dJ6_bitCount_0f7a4_35 : decode cJ6_bitCount_0f7a4 35 = .ok (.iload_n 0, 1) := by decide +kernel
theorem dJ6_bitCount_0f7a4_36 : decode cJ6_bitCount_0f7a4 36 = .ok (.bipush 8, 2) := by decide +kernel
theorem dJ6_bitCount_0f7a4_38 : decode cJ6_bitCount_0f7a4 38 = .ok (.iushr, 1) := by decide +kernel
theorem dJ6_bitCount_0f7a4_39 : decode cJ6_bitCount_0f7a4 39 = .ok (.iadd, 1) := by decide +kernel
theorem dJ6_bitCount_0f7a4_40 : decode cJ6_bitCount_0f7a4 40 = .ok (.istore_n 0, 1) := by decide +kernel
theorem dJ6_bitCount_0f7a4_41 : decode cJ6_bitCount_0f7a4 41 = .ok (.iload_n 0, 1) := by decide +kernel
theorem dJ6_bitCount_0f7a4_42 : decode cJ6_bitCount_0f7a4 42 = .ok (.iload_n 0, 1) := by decide +kernel
theorem dJ6_bitCount_0f7a4_43 : decode cJ6_bitCount_0f7a4 43 = .ok (.bipush 16, 2) := by decide +kernel
theorem dJ6_bitCount_0f7a4_45 : decode cJ6_bitCount_0f7a4 45 = .ok (.iushr, 1) := by decide +kernel
theorem dJ6_bitCount_0f7a4_46 : decode cJ6_bitCount_0f7a4 46 = .ok (.iadd, 1) := by decide +kernel
theorem dJ6_bitCount_0f7a4_47 : decode cJ6_bitCount_0f7a4 47 = .ok (.istore_n 0, 1) := by decide +kernel
theorem dJ6_bitCount_0f7a4_48 : decode cJ6_bitCount_0f7a4 48 = .ok (.iload_n 0, 1) := by decide +kernel
theorem dJ6_bitCount_0f7a4_49 : decode cJ6_bitCount_0f7a4 49 = .ok (.bipush 63, 2) := by decide +kernel
theorem dJ6_bitCount_0f7a4_51 : decode cJ6_bitCount_0f7a4 51 = .ok (.iand, 1) := by decide +kernel
theorem dJ6_bitCount_0f7a4_52 : decode cJ6_bitCount_0f7a4 52 = .ok (.ireturn, 1) := by decide +kernel
theorem dJ9_max_7cf53_0 : decode cJ9_max_7cf53 0 = .ok (.iload_n 0, 1) := by decide +kernel
theorem dJ9_max_7cf53_1 : decode cJ9_max_7cf53 1 = .ok (.iload_n 1, 1) := by decide +kernel
theorem dJ9_max_7cf53_2 : decode cJ9_max_7cf53 2 = .ok (.if_icmp .lt 7, 3) := by decide +kernel
theorem dJ9_max_7cf53_5 : decode cJ9_max_7cf53 5 = .ok (.iload_n 0, 1) := by decide +kernel
theorem dJ9_max_7cf53_6 : decode cJ9_max_7cf53 6 = .ok (.goto 4, 3) := by decide +kernel
theorem dJ9_max_7cf53_9 : decode cJ9_max_7cf53 9 = .ok (.iload_n 1, 1) := by decide +kernel
theorem dJ9_max_7cf53_10 : decode cJ9_max_7cf53 10 = .ok (.ireturn, 1) := by decide +kernel
theorem dJ0_length_8abf5_0 : decode cJ0_length_8abf5 0 = .ok (.aload_n 0, 1) := by decide +kernel
theorem dJ0_length_8abf5_1 : decode cJ0_length_8abf5 1 = .ok (.getfield 9, 3) := by decide +kernel
theorem dJ0_length_8abf5_4 : decode cJ0_length_8abf5 4 = .ok (.arraylength, 1) := by decide +kernel
theorem dJ0_length_8abf5_5 : decode cJ0_length_8abf5 5 = .ok (.aload_n 0, 1) := by decide +kernel
theorem dJ0_length_8abf5_6 : decode cJ0_length_8abf5 6 = .ok (.invokevirtual 335, 3) := by decide +kernel
theorem dJ0_length_8abf5_9 : decode cJ0_length_8abf5 9 = .ok (.ishr, 1) := by decide +kernel
theorem dJ0_length_8abf5_10 : decode cJ0_length_8abf5 10 = .ok (.ireturn, 1) := by decide +kernel
theorem dJ0_charAt_5068e_0 : decode cJ0_charAt_5068e 0 = .ok (.aload_n 0, 1) := by decide +kernel
theorem dJ0_charAt_5068e_1 : decode cJ0_charAt_5068e 1 = .ok (.invokevirtual 492, 3) := by decide +kernel
theorem dJ0_charAt_5068e_4 : decode cJ0_charAt_5068e 4 = .ok (.ifCond .eq 12, 3) := by decide +kernel
theorem dJ0_charAt_5068e_7 : decode cJ0_charAt_5068e 7 = .ok (.aload_n 0, 1) := by decide +kernel
theorem dJ0_charAt_5068e_8 : decode cJ0_charAt_5068e 8 = .ok (.getfield 9, 3) := by decide +kernel
theorem dJ0_charAt_5068e_11 : decode cJ0_charAt_5068e 11 = .ok (.iload_n 1, 1) := by decide +kernel
theorem dJ0_charAt_5068e_12 : decode cJ0_charAt_5068e 12 = .ok (.invokestatic 495, 3) := by decide +kernel
theorem dJ0_charAt_5068e_15 : decode cJ0_charAt_5068e 15 = .ok (.ireturn, 1) := by decide +kernel
theorem dJ0_charAt_5068e_16 : decode cJ0_charAt_5068e 16 = .ok (.aload_n 0, 1) := by decide +kernel
theorem dJ0_charAt_5068e_17 : decode cJ0_charAt_5068e 17 = .ok (.getfield 9, 3) := by decide +kernel
theorem dJ0_charAt_5068e_20 : decode cJ0_charAt_5068e 20 = .ok (.iload_n 1, 1) := by decide +kernel
theorem dJ0_charAt_5068e_21 : decode cJ0_charAt_5068e 21 = .ok (.invokestatic 498, 3) := by decide +kernel
theorem dJ0_charAt_5068e_24 : decode cJ0_charAt_5068e 24 = .ok (.ireturn, 1) := by decide +kernel
theorem dJ0_coder_7d493_0 : decode cJ0_coder_7d493 0 = .ok (.getstatic 38, 3) := by decide +kernel
theorem dJ0_coder_7d493_3 : decode cJ0_coder_7d493 3 = .ok (.ifCond .eq 10, 3) := by decide +kernel
theorem dJ0_coder_7d493_6 : decode cJ0_coder_7d493 6 = .ok (.aload_n 0, 1) := by decide +kernel
theorem dJ0_coder_7d493_7 : decode cJ0_coder_7d493 7 = .ok (.getfield 15, 3) := by decide +kernel
theorem dJ0_coder_7d493_10 : decode cJ0_coder_7d493 10 = .ok (.goto 4, 3) := by decide +kernel
theorem dJ0_coder_7d493_13 : decode cJ0_coder_7d493 13 = .ok (.iconst 1, 1) := by decide +kernel
theorem dJ0_coder_7d493_14 : decode cJ0_coder_7d493 14 = .ok (.ireturn, 1) := by decide +kernel
theorem dJ0_isLatin1_aae02_0 : decode cJ0_isLatin1_aae02 0 = .ok (.getstatic 38, 3) := by decide +kernel
theorem dJ0_isLatin1_aae02_3 : decode cJ0_isLatin1_aae02 3 = .ok (.ifCond .eq 14, 3) := by decide +kernel
theorem dJ0_isLatin1_aae02_6 : decode cJ0_isLatin1_aae02 6 = .ok (.aload_n 0, 1) := by decide +kernel
theorem dJ0_isLatin1_aae02_7 : decode cJ0_isLatin1_aae02 7 = .ok (.getfield 15, 3) := by decide +kernel
theorem dJ0_isLatin1_aae02_10 : decode cJ0_isLatin1_aae02 10 = .ok (.ifCond .ne 7, 3) := by decide +kernel
theorem dJ0_isLatin1_aae02_13 : decode cJ0_isLatin1_aae02 13 = .ok (.iconst 1, 1) := by decide +kernel
theorem dJ0_isLatin1_aae02_14 : decode cJ0_isLatin1_aae02 14 = .ok (.goto 4, 3) := by decide +kernel
theorem dJ0_isLatin1_aae02_17 : decode cJ0_isLatin1_aae02 17 = .ok (.iconst 0, 1) := by decide +kernel
theorem dJ0_isLatin1_aae02_18 : decode cJ0_isLatin1_aae02 18 = .ok (.ireturn, 1) := by decide +kernel
theorem dJ0_checkIndex_df160_0 : decode cJ0_checkIndex_df160 0 = .ok (.iload_n 0, 1) := by decide +kernel
theorem dJ0_checkIndex_df160_1 : decode cJ0_checkIndex_df160 1 = .ok (.iload_n 1, 1) := by decide +kernel
theorem dJ0_checkIndex_df160_2 : decode cJ0_checkIndex_df160 2 = .ok (.getstatic 1053, 3) := by decide +kernel
theorem dJ0_checkIndex_df160_5 : decode cJ0_checkIndex_df160 5 = .ok (.invokestatic 1059, 3) := by decide +kernel
theorem dJ0_checkIndex_df160_8 : decode cJ0_checkIndex_df160 8 = .ok (.pop, 1) := by decide +kernel
theorem dJ0_checkIndex_df160_9 : decode cJ0_checkIndex_df160 9 = .ok (.return_, 1) := by decide +kernel
theorem dJ1_charAt_3b067_0 : decode cJ1_charAt_3b067 0 = .ok (.iload_n 1, 1) := by decide +kernel
theorem dJ1_charAt_3b067_1 : decode cJ1_charAt_3b067 1 = .ok (.aload_n 0, 1) := by decide +kernel
theorem dJ1_charAt_3b067_2 : decode cJ1_charAt_3b067 2 = .ok (.arraylength, 1) := by decide +kernel
theorem dJ1_charAt_3b067_3 : decode cJ1_charAt_3b067 3 = .ok (.invokestatic 9, 3) := by decide +kernel
theorem dJ1_charAt_3b067_6 : decode cJ1_charAt_3b067 6 = .ok (.aload_n 0, 1) := by decide +kernel
theorem dJ1_charAt_3b067_7 : decode cJ1_charAt_3b067 7 = .ok (.iload_n 1, 1) := by decide +kernel
theorem dJ1_charAt_3b067_8 : decode cJ1_charAt_3b067 8 = .ok (.baload, 1) := by decide +kernel
theorem dJ1_charAt_3b067_9 : decode cJ1_charAt_3b067 9 = .ok (.sipush 255, 3) := by decide +kernel
theorem dJ1_charAt_3b067_12 : decode cJ1_charAt_3b067 12 = .ok (.iand, 1) := by decide +kernel
theorem dJ1_charAt_3b067_13 : decode cJ1_charAt_3b067 13 = .ok (.i2c, 1) := by decide +kernel
theorem dJ1_charAt_3b067_14 : decode cJ1_charAt_3b067 14 = .ok (.ireturn, 1) := by decide +kernel
theorem dJ2_getChar_3b067_0 : decode cJ2_getChar_3b067 0 = .ok (.getstatic 44, 3) := by decide +kernel
theorem dJ2_getChar_3b067_3 : decode cJ2_getChar_3b067 3 = .ok (.ifCond .ne 25, 3) := by decide +kernel
theorem dJ2_getChar_3b067_6 : decode cJ2_getChar_3b067 6 = .ok (.iload_n 1, 1) := by decide +kernel
theorem dJ2_getChar_3b067_7 : decode cJ2_getChar_3b067 7 = .ok (.ifCond .lt 11, 3) := by decide +kernel
theorem dJ2_getChar_3b067_10 : decode cJ2_getChar_3b067 10 = .ok (.iload_n 1, 1) := by decide +kernel
theorem dJ2_getChar_3b067_11 : decode cJ2_getChar_3b067 11 = .ok (.aload_n 0, 1) := by decide +kernel
theorem dJ2_getChar_3b067_12 : decode cJ2_getChar_3b067 12 = .ok (.invokestatic 48, 3) := by decide +kernel
theorem dJ2_getChar_3b067_15 : decode cJ2_getChar_3b067 15 = .ok (.if_icmp .lt 13, 3) := by decide +kernel
theorem dJ2_getChar_3b067_18 : decode cJ2_getChar_3b067 18 = .ok (.new 52, 3) := by decide +kernel
theorem dJ2_getChar_3b067_21 : decode cJ2_getChar_3b067 21 = .ok (.dup, 1) := by decide +kernel
theorem dJ2_getChar_3b067_22 : decode cJ2_getChar_3b067 22 = .ok (.ldc 54, 2) := by decide +kernel
theorem dJ2_getChar_3b067_24 : decode cJ2_getChar_3b067 24 = .ok (.invokespecial 56, 3) := by decide +kernel
theorem dJ2_getChar_3b067_27 : decode cJ2_getChar_3b067 27 = .ok (.athrow, 1) := by decide +kernel
theorem dJ2_getChar_3b067_28 : decode cJ2_getChar_3b067 28 = .ok (.iload_n 1, 1) := by decide +kernel
theorem dJ2_getChar_3b067_29 : decode cJ2_getChar_3b067 29 = .ok (.iconst 1, 1) := by decide +kernel
theorem dJ2_getChar_3b067_30 : decode cJ2_getChar_3b067 30 = .ok (.ishl, 1) := by decide +kernel
theorem dJ2_getChar_3b067_31 : decode cJ2_getChar_3b067 31 = .ok (.istore_n 1, 1) := by decide +kernel
theorem dJ2_getChar_3b067_32 : decode cJ2_getChar_3b067 32 = .ok (.aload_n 0, 1) := by decide +kernel
theorem dJ2_getChar_3b067_33 : decode cJ2_getChar_3b067 33 = .ok (.iload_n 1, 1) := by decide +kernel
theorem dJ2_getChar_3b067_34 : decode cJ2_getChar_3b067 34 = .ok (.iinc 1 1, 3) := by decide +kernel
theorem dJ2_getChar_3b067_37 : decode cJ2_getChar_3b067 37 = .ok (.baload, 1) := by decide +kernel
theorem dJ2_getChar_3b067_38 : decode cJ2_getChar_3b067 38 = .ok (.sipush 255, 3) := by decide +kernel
theorem dJ2_getChar_3b067_41 : decode cJ2_getChar_3b067 41 = .ok (.iand, 1) := by decide +kernel
theorem dJ2_getChar_3b067_42 : decode cJ2_getChar_3b067 42 = .ok (.getstatic 59, 3) := by decide +kernel
theorem dJ2_getChar_3b067_45 : decode cJ2_getChar_3b067 45 = .ok (.ishl, 1) := by decide +kernel
theorem dJ2_getChar_3b067_46 : decode cJ2_getChar_3b067 46 = .ok (.aload_n 0, 1) := by decide +kernel
theorem dJ2_getChar_3b067_47 : decode cJ2_getChar_3b067 47 = .ok (.iload_n 1, 1) := by decide +kernel
theorem dJ2_getChar_3b067_48 : decode cJ2_getChar_3b067 48 = .ok (.baload, 1) := by decide +kernel
theorem dJ2_getChar_3b067_49 : decode cJ2_getChar_3b067 49 = .ok (.sipush 255, 3) := by decide +kernel
theorem dJ2_getChar_3b067_52 : decode cJ2_getChar_3b067 52 = .ok (.iand, 1) := by decide +kernel
theorem dJ2_getChar_3b067_53 : decode cJ2_getChar_3b067 53 = .ok (.getstatic 63, 3) := by decide +kernel
theorem dJ2_getChar_3b067_56 : decode cJ2_getChar_3b067 56 = .ok (.ishl, 1) := by decide +kernel
theorem dJ2_getChar_3b067_57 : decode cJ2_getChar_3b067 57 = .ok (.ior, 1) := by decide +kernel
theorem dJ2_getChar_3b067_58 : decode cJ2_getChar_3b067 58 = .ok (.i2c, 1) := by decide +kernel
theorem dJ2_getChar_3b067_59 : decode cJ2_getChar_3b067 59 = .ok (.ireturn, 1) := by decide +kernel
theorem dJ2_length_9d52b_0 : decode cJ2_length_9d52b 0 = .ok (.aload_n 0, 1) := by decide +kernel
theorem dJ2_length_9d52b_1 : decode cJ2_length_9d52b 1 = .ok (.arraylength, 1) := by decide +kernel
theorem dJ2_length_9d52b_2 : decode cJ2_length_9d52b 2 = .ok (.iconst 1, 1) := by decide +kernel
theorem dJ2_length_9d52b_3 : decode cJ2_length_9d52b 3 = .ok (.ishr, 1) := by decide +kernel
theorem dJ2_length_9d52b_4 : decode cJ2_length_9d52b 4 = .ok (.ireturn, 1) := by decide +kernel
theorem dJ2_charAt_3b067_0 : decode cJ2_charAt_3b067 0 = .ok (.iload_n 1, 1) := by decide +kernel
theorem dJ2_charAt_3b067_1 : decode cJ2_charAt_3b067 1 = .ok (.aload_n 0, 1) := by decide +kernel
theorem dJ2_charAt_3b067_2 : decode cJ2_charAt_3b067 2 = .ok (.invokestatic 67, 3) := by decide +kernel
theorem dJ2_charAt_3b067_5 : decode cJ2_charAt_3b067 5 = .ok (.aload_n 0, 1) := by decide +kernel
theorem dJ2_charAt_3b067_6 : decode cJ2_charAt_3b067 6 = .ok (.iload_n 1, 1) := by decide +kernel
theorem dJ2_charAt_3b067_7 : decode cJ2_charAt_3b067 7 = .ok (.invokestatic 71, 3) := by decide +kernel
theorem dJ2_charAt_3b067_10 : decode cJ2_charAt_3b067 10 = .ok (.ireturn, 1) := by decide +kernel
theorem dJ2_checkIndex_2214a_0 : decode cJ2_checkIndex_2214a 0 = .ok (.iload_n 0, 1) := by decide +kernel
theorem dJ2_checkIndex_2214a_1 : decode cJ2_checkIndex_2214a 1 = .ok (.aload_n 1, 1) := by decide +kernel
theorem dJ2_checkIndex_2214a_2 : decode cJ2_checkIndex_2214a 2 = .ok (.invokestatic 48, 3) := by decide +kernel
theorem dJ2_checkIndex_2214a_5 : decode cJ2_checkIndex_2214a 5 = .ok (.invokestatic 414, 3) := by decide +kernel
theorem dJ2_checkIndex_2214a_8 : decode cJ2_checkIndex_2214a 8 = .ok (.return_, 1) := by decide +kernel
theorem dJ3_checkIndex_8e157_0 : decode cJ3_checkIndex_8e157 0 = .ok (.iload_n 0, 1) := by decide +kernel
theorem dJ3_checkIndex_8e157_1 : decode cJ3_checkIndex_8e157 1 = .ok (.ifCond .lt 8, 3) := by decide +kernel
theorem dJ3_checkIndex_8e157_4 : decode cJ3_checkIndex_8e157 4 = .ok (.iload_n 0, 1) := by decide +kernel
theorem dJ3_checkIndex_8e157_5 : decode cJ3_checkIndex_8e157 5 = .ok (.iload_n 1, 1) := by decide +kernel
theorem dJ3_checkIndex_8e157_6 : decode cJ3_checkIndex_8e157 6 = .ok (.if_icmp .lt 10, 3) := by decide +kernel
theorem dJ3_checkIndex_8e157_9 : decode cJ3_checkIndex_8e157 9 = .ok (.aload_n 2, 1) := by decide +kernel
theorem dJ3_checkIndex_8e157_10 : decode cJ3_checkIndex_8e157 10 = .ok (.iload_n 0, 1) := by decide +kernel
theorem dJ3_checkIndex_8e157_11 : decode cJ3_checkIndex_8e157 11 = .ok (.iload_n 1, 1) := by decide +kernel
theorem dJ3_checkIndex_8e157_12 : decode cJ3_checkIndex_8e157 12 = .ok (.invokestatic 95, 3) := by decide +kernel
theorem dJ3_checkIndex_8e157_15 : decode cJ3_checkIndex_8e157 15 = .ok (.athrow, 1) := by decide +kernel
theorem dJ3_checkIndex_8e157_16 : decode cJ3_checkIndex_8e157 16 = .ok (.iload_n 0, 1) := by decide +kernel
theorem dJ3_checkIndex_8e157_17 : decode cJ3_checkIndex_8e157 17 = .ok (.ireturn, 1) := by decide +kernel
end
section
/-! a layer of my own over the kit's rows: the world as one list of objects at b, b + 1, .., its memory as three functions -/
-- the words that hold on, as one list
def TT : List Cond := lw_tbl.filter goodWord
theorem tt_in {w : Cond} (i : Nat) (h : lw_tbl[i]? = some w) (hg : goodWord w = true) : w ∈ TT := List.mem_filter.mpr ⟨List.mem_of_getElem? h, hg⟩
theorem tt_mem {w : Cond} (h : w ∈ lw_tbl) (hg : goodWord w = true) : w ∈ TT := List.mem_filter.mpr ⟨h, hg⟩
theorem tt_lw {w : Cond} (h : w ∈ TT) : w ∈ lw_tbl := (List.mem_filter.mp h).1
theorem tt_good {w : Cond} (h : w ∈ TT) : (w.onTables && w.keeps) = true ∨ ∃ ty, w = .arrayClass ty := good_of_word (List.mem_filter.mp h).2
theorem tt_goodIn {w : Cond} (h : w ∈ TT) : GoodIn TT (w :: TT) := fun u hu => by
  rcases List.mem_cons.mp hu with rfl | hu
  · exact ⟨h, tt_good h⟩
  · exact ⟨hu, tt_good hu⟩
-- memory: ints, longs, references (by place in the world)
abbrev Mm : Type := (Nat → Nat → Int32) × (Nat → Nat → Int64) × (Nat → Nat → Option Nat)
abbrev Sh : Type := Nat → Nat ⊕ (Nat × Nat)
-- classes and their fields' places, classes of arrays, addresses of the String constants and of their bytes
abbrev Dl : Type := va_G × (Nat → ClassId) × (Nat → Nat) × (Nat → Nat)
def wI (μ : Mm) (o k : Nat) (v : Int32) : Mm := (fun o' k' => if o' = o ∧ k' = k then v else μ.1 o' k', μ.2)
def wL (μ : Mm) (o k : Nat) (v : Int64) : Mm := (μ.1, fun o' k' => if o' = o ∧ k' = k then v else μ.2.1 o' k', μ.2.2)
def wR (μ : Mm) (o k : Nat) (v : Option Nat) : Mm := (μ.1, μ.2.1, fun o' k' => if o' = o ∧ k' = k then v else μ.2.2 o' k')
def w0 (μ : Mm) (o : Nat) : Mm := (fun o' k' => if o' = o then 0 else μ.1 o' k', fun o' k' => if o' = o then 0 else μ.2.1 o' k', fun o' k' => if o' = o then none else μ.2.2 o' k')
def ncf (c : Nat) : Nat := match vwCl[c]? with
  | some q => q.2.2
  | none => 0
def cft (c k : Nat) : FieldType := match c with
  | 3 => tyX3 k
  | 6 => tyX6 k
  | 9 => tyX9 k
  | 10 => tyX10 k
  | 11 => tyX11 k
  | 12 => tyX12 k
  | _ => .int
def fval (b : Nat) (μ : Mm) (o k : Nat) : FieldType → Value
  | .int => .int (μ.1 o k)
  | .boolean => .int (μ.1 o k)
  | .long => .long (μ.2.1 o k)
  | _ => va_rf ((μ.2.2 o k).map (fun j => b + j))
def ent (δ : Dl) (b : Nat) (sh : Sh) (μ : Mm) (o : Nat) : va_E := match sh o with
  | .inl c => .inr (c, (List.range (ncf c)).map (fun k => fval b μ o k (cft c k)))
  | .inr (0, n) => .inl (δ.2.1 0, n, .inl (μ.1 o))
  | .inr (1, n) => .inl (δ.2.1 1, n, .inr (.inl (μ.2.1 o)))
  | .inr (t, n) => .inl (δ.2.1 t, n, .inr (.inr (.inr (.inr (fun j => (μ.2.2 o j).map (fun i => b + i))))))
def wl (δ : Dl) (b : Nat) (sh : Sh) (N : Nat) (μ : Mm) : va_W := (List.range N).map (fun o => (b + o, ent δ b sh μ o))
def tys (δ : Dl) : List (ClassId × FieldType) := [(δ.2.1 0, .int), (δ.2.1 1, .long), (δ.2.1 2, .object "PaintedOver$Front"), (δ.2.1 3, .object "PaintedOver$Kind"), (δ.2.1 4, .array .long)]
def RG (b n : Nat) : Nat → Prop := fun q => b ≤ q ∧ q < b + n
theorem wl_get {δ : Dl} {b : Nat} {sh : Sh} {N : Nat} {μ : Mm} {o : Nat} (h : o < N) : (wl δ b sh N μ)[o]? = some (b + o, ent δ b sh μ o) := by
  unfold wl
  rw [List.getElem?_map, List.getElem?_range h]
  rfl
theorem wl_inv {δ : Dl} {b : Nat} {sh : Sh} {N : Nat} {μ : Mm} {o : Nat} {q : Nat × va_E} (h : (wl δ b sh N μ)[o]? = some q) : o < N ∧ q = (b + o, ent δ b sh μ o) := by
  by_cases ho : o < N
  · rw [wl_get ho] at h
    exact ⟨ho, (Option.some.inj h).symm⟩
  · unfold wl at h
    rw [List.getElem?_map, List.getElem?_eq_none (by rw [List.length_range]; omega)] at h
    cases h
theorem wl_D {δ : Dl} {b n : Nat} {sh : Sh} {N : Nat} {μ : Mm} (h : N ≤ n) : va_D (RG b n) (wl δ b sh N μ) := by
  refine ⟨fun i j p q hi hj hpq => ?_, fun k q hk => ?_⟩
  · obtain ⟨h1, rfl⟩ := wl_inv hi
    obtain ⟨h2, rfl⟩ := wl_inv hj
    have : b + i = b + j := hpq
    omega
  · obtain ⟨h1, rfl⟩ := wl_inv hk
    exact ⟨Nat.le_add_right _ _, by show b + k < b + n; omega⟩
theorem wl_set {δ : Dl} {b : Nat} {sh : Sh} {N : Nat} {μ μ' : Mm} {o : Nat} {e : va_E} (h : o < N) (he : ent δ b sh μ' o = e) (hn : ∀ j, j ≠ o → ent δ b sh μ' j = ent δ b sh μ j) : (wl δ b sh N μ).set o (b + o, e) = wl δ b sh N μ' := by
  apply List.ext_getElem?
  intro j
  rw [List.getElem?_set]
  by_cases hj : o = j
  · subst hj
    rw [if_pos rfl, if_pos (by unfold wl; rw [List.length_map, List.length_range]; exact h), wl_get h, he]
  · rw [if_neg hj]
    by_cases hl : j < N
    · rw [wl_get hl, wl_get hl, hn j (Ne.symm hj)]
    · unfold wl
      rw [List.getElem?_map, List.getElem?_map, List.getElem?_eq_none (by rw [List.length_range]; omega)]
      rfl
theorem ent_wI {δ : Dl} {b : Nat} {sh : Sh} {μ : Mm} {o k j : Nat} {v : Int32} (h : j ≠ o) : ent δ b sh (wI μ o k v) j = ent δ b sh μ j := by
  have e : (wI μ o k v).1 j = μ.1 j := funext fun k' => by simp [wI, h]
  have ef : ∀ (k' : Nat) (ty : FieldType), fval b (wI μ o k v) j k' ty = fval b μ j k' ty := fun k' ty => by
    cases ty <;> simp [fval, wI, h]
  unfold ent
  simp only [e, ef]
  rfl
theorem ent_wL {δ : Dl} {b : Nat} {sh : Sh} {μ : Mm} {o k j : Nat} {v : Int64} (h : j ≠ o) : ent δ b sh (wL μ o k v) j = ent δ b sh μ j := by
  have e : (wL μ o k v).2.1 j = μ.2.1 j := funext fun k' => by simp [wL, h]
  have ef : ∀ (k' : Nat) (ty : FieldType), fval b (wL μ o k v) j k' ty = fval b μ j k' ty := fun k' ty => by
    cases ty <;> simp [fval, wL, h]
  unfold ent
  simp only [e, ef]
  rfl
theorem ent_wR {δ : Dl} {b : Nat} {sh : Sh} {μ : Mm} {o k j : Nat} {v : Option Nat} (h : j ≠ o) : ent δ b sh (wR μ o k v) j = ent δ b sh μ j := by
  have e : (wR μ o k v).2.2 j = μ.2.2 j := funext fun k' => by simp [wR, h]
  have ef : ∀ (k' : Nat) (ty : FieldType), fval b (wR μ o k v) j k' ty = fval b μ j k' ty := fun k' ty => by
    cases ty <;> simp [fval, wR, h]
  unfold ent
  simp only [e, ef]
  rfl
theorem ent_w0 {δ : Dl} {b : Nat} {sh : Sh} {μ : Mm} {o j : Nat} (h : j ≠ o) : ent δ b sh (w0 μ o) j = ent δ b sh μ j := by
  have e1 : (w0 μ o).1 j = μ.1 j := funext fun k' => by simp [w0, h]
  have e2 : (w0 μ o).2.1 j = μ.2.1 j := funext fun k' => by simp [w0, h]
  have e3 : (w0 μ o).2.2 j = μ.2.2 j := funext fun k' => by simp [w0, h]
  have ef : ∀ (k' : Nat) (ty : FieldType), fval b (w0 μ o) j k' ty = fval b μ j k' ty := fun k' ty => by
    cases ty <;> simp [fval, w0, h]
  unfold ent
  simp only [e1, e2, e3, ef]
theorem map_range_set {α : Type} {n k : Nat} {f g : Nat → α} {v : α} (hk : k < n) (hv : g k = v) (h : ∀ j, j ≠ k → g j = f j) : ((List.range n).map f).set k v = (List.range n).map g := by
  apply List.ext_getElem?
  intro j
  rw [List.getElem?_set]
  by_cases hj : k = j
  · subst hj
    rw [if_pos rfl, if_pos (by rw [List.length_map, List.length_range]; exact hk), List.getElem?_map, List.getElem?_range hk, ← hv]
    rfl
  · rw [if_neg hj, List.getElem?_map, List.getElem?_map]
    by_cases hl : j < n
    · rw [List.getElem?_range hl]
      exact congrArg some (h j (Ne.symm hj)).symm
    · rw [List.getElem?_eq_none (by rw [List.length_range]; omega)]
      rfl
-- what stands at a place of the world
def OB (sh : Sh) (N o c : Nat) : Prop := o < N ∧ sh o = .inl c
def AR (sh : Sh) (N o t n : Nat) : Prop := o < N ∧ sh o = .inr (t, n)
theorem ob_get {δ : Dl} {b : Nat} {sh : Sh} {N : Nat} {μ : Mm} {o c : Nat} (h : OB sh N o c) : (wl δ b sh N μ)[o]? = some (b + o, .inr (c, (List.range (ncf c)).map (fun k => fval b μ o k (cft c k)))) := by
  rw [wl_get h.1]
  unfold ent
  rw [h.2]
theorem ar_getI {δ : Dl} {b : Nat} {sh : Sh} {N : Nat} {μ : Mm} {o n : Nat} (h : AR sh N o 0 n) : (wl δ b sh N μ)[o]? = some (b + o, .inl (δ.2.1 0, n, .inl (μ.1 o))) := by
  rw [wl_get h.1]
  unfold ent
  rw [h.2]
  rfl
theorem ar_getL {δ : Dl} {b : Nat} {sh : Sh} {N : Nat} {μ : Mm} {o n : Nat} (h : AR sh N o 1 n) : (wl δ b sh N μ)[o]? = some (b + o, .inl (δ.2.1 1, n, .inr (.inl (μ.2.1 o)))) := by
  rw [wl_get h.1]
  unfold ent
  rw [h.2]
  rfl
theorem ar_getR {δ : Dl} {b : Nat} {sh : Sh} {N : Nat} {μ : Mm} {o t n : Nat} (h : AR sh N o (t + 2) n) : (wl δ b sh N μ)[o]? = some (b + o, .inl (δ.2.1 (t + 2), n, .inr (.inr (.inr (.inr (fun j => (μ.2.2 o j).map (fun i => b + i))))))) := by
  rw [wl_get h.1]
  unfold ent
  rw [h.2]
  rfl
theorem ob_setI {δ : Dl} {b : Nat} {sh : Sh} {N : Nat} {μ : Mm} {o c k : Nat} {v : Int32} (h : OB sh N o c) (hk : k < ncf c) (ht : cft c k = .int ∨ cft c k = .boolean) : (wl δ b sh N μ).set o (b + o, .inr (c, ((List.range (ncf c)).map (fun k => fval b μ o k (cft c k))).set k (.int v))) = wl δ b sh N (wI μ o k v) := by
  refine wl_set h.1 ?_ (fun j hj => ent_wI hj)
  unfold ent
  rw [h.2]
  dsimp only
  rw [map_range_set hk (g := fun k' => fval b (wI μ o k v) o k' (cft c k'))]
  · rcases ht with ht | ht <;> simp [fval, ht, wI]
  · intro j hj
    cases cft c j <;> simp [fval, wI, hj]
theorem ob_setR {δ : Dl} {b : Nat} {sh : Sh} {N : Nat} {μ : Mm} {o c k : Nat} {v : Option Nat} (h : OB sh N o c) (hk : k < ncf c) (ht : ∀ (b : Nat) (μ : Mm) (o : Nat), fval b μ o k (cft c k) = va_rf ((μ.2.2 o k).map (fun j => b + j))) : (wl δ b sh N μ).set o (b + o, .inr (c, ((List.range (ncf c)).map (fun k => fval b μ o k (cft c k))).set k (va_rf (v.map (fun j => b + j))))) = wl δ b sh N (wR μ o k v) := by
  refine wl_set h.1 ?_ (fun j hj => ent_wR hj)
  unfold ent
  rw [h.2]
  dsimp only
  rw [map_range_set hk (g := fun k' => fval b (wR μ o k v) o k' (cft c k'))]
  · rw [ht]
    simp [wR]
  · intro j hj
    cases cft c j <;> simp [fval, wR, hj]
theorem ar_setI {δ : Dl} {b : Nat} {sh : Sh} {N : Nat} {μ : Mm} {o n k : Nat} {v : Int32} (h : AR sh N o 0 n) : (wl δ b sh N μ).set o (b + o, .inl (δ.2.1 0, n, .inl (upd (μ.1 o) k v))) = wl δ b sh N (wI μ o k v) := by
  refine wl_set h.1 ?_ (fun j hj => ent_wI hj)
  unfold ent
  rw [h.2]
  refine congrArg (fun f => Sum.inl (δ.2.1 0, n, Sum.inl f)) (funext fun j => ?_)
  simp [wI, upd]
theorem ar_setL {δ : Dl} {b : Nat} {sh : Sh} {N : Nat} {μ : Mm} {o n k : Nat} {v : Int64} (h : AR sh N o 1 n) : (wl δ b sh N μ).set o (b + o, .inl (δ.2.1 1, n, .inr (.inl (vp_updL (μ.2.1 o) k v)))) = wl δ b sh N (wL μ o k v) := by
  refine wl_set h.1 ?_ (fun j hj => ent_wL hj)
  unfold ent
  rw [h.2]
  refine congrArg (fun f => Sum.inl (δ.2.1 1, n, Sum.inr (Sum.inl f))) (funext fun j => ?_)
  simp [wL, vp_updL]
end
section
/-! locals by their places -/
def lp : Nat → List (Option Value) → List (Nat × Value)
  | _, [] => []
  | k, none :: t => lp (k + 1) t
  | k, some v :: t => (k, v) :: lp (k + 1) t
theorem lp_mem : ∀ (ls : List (Option Value)) (k i : Nat) (v : Value), (i, v) ∈ lp k ls ↔ ∃ j, i = k + j ∧ ls[j]? = some (some v)
  | [], k, i, v => by simp [lp]
  | none :: t, k, i, v => by
    rw [lp, lp_mem t (k + 1) i v]
    constructor
    · rintro ⟨j, rfl, h⟩
      exact ⟨j + 1, by omega, by simpa using h⟩
    · rintro ⟨j, rfl, h⟩
      cases j with
      | zero => simp at h
      | succ j => exact ⟨j, by omega, by simpa using h⟩
  | some w :: t, k, i, v => by
    rw [lp, List.mem_cons, lp_mem t (k + 1) i v]
    constructor
    · rintro (h | ⟨j, rfl, h⟩)
      · cases h
        exact ⟨0, by omega, by simp⟩
      · exact ⟨j + 1, by omega, by simpa using h⟩
    · rintro ⟨j, rfl, h⟩
      cases j with
      | zero => exact Or.inl (by simp at h; rw [h]; rfl)
      | succ j => exact Or.inr ⟨j, by omega, by simpa using h⟩
def lh (lsr : Array Slot) (nL : Nat) (ls : List (Option Value)) : Prop := lv_has lsr nL (lp 0 ls)
theorem lh_at {lsr : Array Slot} {nL : Nat} {ls : List (Option Value)} (h : lh lsr nL ls) {i : Nat} {v : Value} (hi : ls[i]? = some (some v)) : lsr[i]? = some (.val v) :=
  h.2.2 (i, v) ((lp_mem ls 0 i v).mpr ⟨i, by omega, hi⟩)
theorem lh_sub {lsr : Array Slot} {nL : Nat} {l : List (Nat × Value)} {ls : List (Option Value)} (h : lv_has lsr nL l) (hs : ∀ (i : Nat) (v : Value), ls[i]? = some (some v) → (i, v) ∈ l) : lh lsr nL ls :=
  ⟨h.1, h.2.1, fun q hq => by
    obtain ⟨j, hj, hv⟩ := (lp_mem ls 0 q.1 q.2).mp hq
    have e : q.1 = j := by omega
    exact h.2.2 q (hs q.1 q.2 (by rw [e]; exact hv))⟩
/-- forget what some places hold -/
theorem lh_weak {lsr : Array Slot} {nL : Nat} {ls ls' : List (Option Value)} (h : lh lsr nL ls) (hs : ∀ (i : Nat) (v : Value), ls'[i]? = some (some v) → ls[i]? = some (some v)) : lh lsr nL ls' :=
  lh_sub h fun i v hi => (lp_mem ls 0 i v).mpr ⟨i, by omega, hs i v hi⟩
/-- no long ends at place i -/
def okst (ls : List (Option Value)) : Nat → Bool
  | 0 => true
  | i + 1 => match ls[i]? with
    | some (some w) => w.category == 1
    | _ => true
theorem lh_set1 {lsr : Array Slot} {nL i : Nat} {v : Value} {ls : List (Option Value)} (hok : okst ls i = true) (h : lv_has lsr nL ((i, v) :: (lp 0 ls).filter (fun q => !(q.1 == i) && !(q.1 + 1 == i && q.2.category == 2)))) : lh lsr nL (ls.set i (some v)) := by
  refine lh_sub h fun j w hj => ?_
  by_cases e : i = j
  · subst e
    rw [List.getElem?_set] at hj
    simp only [if_true] at hj
    split at hj
    · cases hj
      exact List.mem_cons_self
    · cases hj
  · rw [List.getElem?_set_ne e] at hj
    refine List.mem_cons_of_mem _ (List.mem_filter.mpr ⟨(lp_mem ls 0 j w).mpr ⟨j, by omega, hj⟩, ?_⟩)
    have e' : ¬ j = i := fun z => e z.symm
    by_cases e2 : j + 1 = i
    · subst e2
      simp only [okst, hj] at hok
      have hw : w.category = 1 := by simpa using hok
      simp [hw]
    · simp [e', e2]
def la : List Value → List (Option Value)
  | [] => []
  | v :: r => if v.category = 2 then some v :: none :: la r else some v :: la r
theorem la_args : ∀ (vs : List Value) (k i n : Nat) (v : Value), (la vs ++ List.replicate n none)[i]? = some (some v) → (k + i, v) ∈ lv_args k vs
  | [], k, i, n, v, h => by
    simp only [la, List.nil_append] at h
    rw [List.getElem?_replicate] at h
    split at h <;> cases h
  | w :: r, k, i, n, v, h => by
    unfold la at h
    unfold lv_args
    split at h
    · rename_i hc
      rw [if_pos hc]
      match i, h with
      | 0, h => simp at h; rw [h]; exact List.mem_cons_self
      | 1, h => simp at h
      | j + 2, h =>
        have h2 : (la r ++ List.replicate n none)[j]? = some (some v) := by simpa using h
        have := la_args r (k + 2) j n v h2
        rw [show k + (j + 2) = k + 2 + j by omega]
        exact List.mem_cons_of_mem _ this
    · rename_i hc
      rw [if_neg hc]
      match i, h with
      | 0, h => simp at h; rw [h]; exact List.mem_cons_self
      | j + 1, h =>
        have h2 : (la r ++ List.replicate n none)[j]? = some (some v) := by simpa using h
        have := la_args r (k + 1) j n v h2
        rw [show k + (j + 1) = k + 1 + j by omega]
        exact List.mem_cons_of_mem _ this
/-! what the tables say beside TT: links in a nest, casts, String constants -/
def NW : List Cond := lw_tbl.filter (fun w => match w with
  | .methodLinkNest _ _ _ _ => true
  | .castable _ _ => true
  | _ => false)
def kinds7 : List String := [RX4, RX2, RX5, RX1, RX7, RX8, RX0]
def NC : List (String × String) := (kinds7.flatMap fun C => kinds7.map fun D => (C, D)).filter (fun q => !(q.1 == q.2) && !(q.2 == RX4) && !(q.1 == RX1 && q.2 == RX2) && !(q.1 == RX0 && q.2 == RX5) && !(q.1 == RX8 && q.2 == RX5))
def skey : List (String × Nat × String × List Int32) := [(RX6, 74, "house", [104, 111, 117, 115, 101]), (RX6, 76, "coat", [99, 111, 97, 116]), (RX6, 78, "hides", [104, 105, 100, 101, 115]), (RX6, 79, "costs", [99, 111, 115, 116, 115]), (RX6, 80, "hail", [104, 97, 105, 108]), (RX6, 82, "scratch", [115, 99, 114, 97, 116, 99, 104]), (RX12, 181, "cratch", [99, 114, 97, 116, 99, 104]), (RX12, 197, "ts", [116, 115]), (RX12, 199, "at", [97, 116]), (RX12, 200, "des", [100, 101, 115]), (RX12, 202, "il", [105, 108]), (RX12, 207, "ouse", [111, 117, 115, 101])]
def sbyt : List (List Int32) := skey.map fun q => q.2.2.2
/-- what arrays are made over -/
def AOt : List FieldType := [.object RX4, .object RX3, .array .long]
theorem ao_same {u U : State} {ty : FieldType} (hv : u.vm = U.vm) (h : (Cond.arrayOver ty).before #[] u = true) : (Cond.arrayOver ty).before #[] U = true := by
  simp only [Cond.before, Cond.holds, Cond.value] at h ⊢
  rw [← hv]
  exact h
theorem ao_warm {s U : State} {ty : FieldType} (hW : s.WarmedH U.vm) (h : (Cond.arrayOver ty).before #[] s = true) : (Cond.arrayOver ty).before #[] U = true :=
  ao_same (u := s.setVm U.vm) rfl (by rw [Cond.arrayOver_setVmC hW.alike]; exact h)
def KX (δ : Dl) (U : State) : Prop := va_K δ.1 vwCl (tys δ) U ∧ (∀ w ∈ NW, va_Nw w U) ∧ (∀ q ∈ NC, va_Nc q.1 q.2 U) ∧ (∀ (i : Nat) (q : String × Nat × String × List Int32), skey[i]? = some q → vk_R q.1 q.2.1 q.2.2.1 (δ.2.2.1 i) U) ∧ ∀ ty ∈ AOt, (Cond.arrayOver ty).before #[] U = true
def KS (δ : Dl) (A : Nat → Prop) (U : State) (H : Heap) : Prop := vk_S 12 (sbyt.map List.length) sbyt δ.2.2.1 δ.2.2.2 A U H ∧ va_Z "java/lang/String" "COMPACT_STRINGS" "Z" (.int 1) A U H ∧ va_Zq "jdk/internal/util/Preconditions" "SIOOBE_FORMATTER" "Ljava/util/function/BiFunction;" A U H
theorem KX.warm {δ : Dl} {s U : State} (hW : s.WarmedH U.vm) (h : KX δ s) : KX δ U := by
  refine ⟨va_K.moved hW.alike h.1, fun w hw => ?_, fun q hq => va_Nc.moved hW.alike (h.2.2.1 q hq), fun i q hq => vk_R.warm hW (h.2.2.2.1 i q hq), fun ty ht => ao_warm hW (h.2.2.2.2 ty ht)⟩
  have h1 := h.2.1 w hw
  have h2 := (List.mem_filter.mp hw).2
  cases w with
  | methodLinkNest a i x hh => exact va_Nw.warmM hW h1
  | castable a c => exact va_Nw.warmC hW h1
  | _ => cases h2
theorem KX.same {δ : Dl} {u U : State} (hv : u.vm = U.vm) (h : KX δ u) : KX δ U := by
  refine ⟨va_K.moved (by rw [hv]; exact Vm.Alike.refl _) h.1, fun w hw => ?_, fun q hq => va_Nc.moved (by rw [hv]; exact Vm.Alike.refl _) (h.2.2.1 q hq), fun i q hq => vk_R.same hv.symm (h.2.2.2.1 i q hq), fun ty ht => ao_same hv (h.2.2.2.2 ty ht)⟩
  have h1 := h.2.1 w hw
  have h2 := (List.mem_filter.mp hw).2
  cases w with
  | methodLinkNest a i x hh => exact va_Nw.same rfl hv h1
  | castable a c => exact va_Nw.same rfl hv h1
  | _ => cases h2
end
