section
-- ===== PART A: goes FIRST, ahead of the names: the tables' words, and 'selects' of the private methods out of them =====
/-- a private method of a class that the tables say can be made, by its rows of tables_1 -/
def lw_okq (q : MethodName × Nat) : Prop := (q.1.cls ≠ "java/lang/invoke/MethodHandle" ∧ q.1.cls ≠ "java/lang/invoke/VarHandle") ∧ Cond.instantiable q.1.cls q.2 ∈ tables_1 ∧ Cond.privateMethod q.1 ∈ tables_1 ∧ Cond.instanceMethod q.1 ∈ tables_1
theorem lw_p0 : lw_okq (⟨"FlexibleBoxes$Layout", "spreadWidths", "(LFlexibleBoxes$Box;)V"⟩, 3) := ⟨⟨by decide +kernel, by decide +kernel⟩, List.mem_of_getElem? (i := 154) (by decide +kernel), List.mem_of_getElem? (i := 301) (by decide +kernel), List.mem_of_getElem? (i := 302) (by decide +kernel)⟩
theorem lw_p1 : lw_okq (⟨"FlexibleBoxes$Layout", "flexKids", "(LFlexibleBoxes$Box;LFlexibleBoxes$Box;ZII)V"⟩, 3) := ⟨⟨by decide +kernel, by decide +kernel⟩, List.mem_of_getElem? (i := 154) (by decide +kernel), List.mem_of_getElem? (i := 334) (by decide +kernel), List.mem_of_getElem? (i := 335) (by decide +kernel)⟩
theorem lw_p2 : lw_okq (⟨"FlexibleBoxes$Flex", "begin", "()I"⟩, 11) := ⟨⟨by decide +kernel, by decide +kernel⟩, List.mem_of_getElem? (i := 160) (by decide +kernel), List.mem_of_getElem? (i := 353) (by decide +kernel), List.mem_of_getElem? (i := 354) (by decide +kernel)⟩
theorem lw_p3 : lw_okq (⟨"FlexibleBoxes$Flex", "openFactors", "()J"⟩, 11) := ⟨⟨by decide +kernel, by decide +kernel⟩, List.mem_of_getElem? (i := 160) (by decide +kernel), List.mem_of_getElem? (i := 358) (by decide +kernel), List.mem_of_getElem? (i := 359) (by decide +kernel)⟩
theorem lw_p4 : lw_okq (⟨"FlexibleBoxes$Flex", "restOf", "(I)I"⟩, 11) := ⟨⟨by decide +kernel, by decide +kernel⟩, List.mem_of_getElem? (i := 160) (by decide +kernel), List.mem_of_getElem? (i := 362) (by decide +kernel), List.mem_of_getElem? (i := 363) (by decide +kernel)⟩
theorem lw_p5 : lw_okq (⟨"FlexibleBoxes$Flex", "propose", "(JJZ)J"⟩, 11) := ⟨⟨by decide +kernel, by decide +kernel⟩, List.mem_of_getElem? (i := 160) (by decide +kernel), List.mem_of_getElem? (i := 367) (by decide +kernel), List.mem_of_getElem? (i := 368) (by decide +kernel)⟩
theorem lw_p6 : lw_okq (⟨"FlexibleBoxes$Flex", "settle", "(J)V"⟩, 11) := ⟨⟨by decide +kernel, by decide +kernel⟩, List.mem_of_getElem? (i := 160) (by decide +kernel), List.mem_of_getElem? (i := 371) (by decide +kernel), List.mem_of_getElem? (i := 372) (by decide +kernel)⟩
theorem lw_p7 : lw_okq (⟨"FlexibleBoxes$Layout", "placeColumn", "(LFlexibleBoxes$Box;)V"⟩, 3) := ⟨⟨by decide +kernel, by decide +kernel⟩, List.mem_of_getElem? (i := 154) (by decide +kernel), List.mem_of_getElem? (i := 397) (by decide +kernel), List.mem_of_getElem? (i := 398) (by decide +kernel)⟩
theorem lw_p8 : lw_okq (⟨"FlexibleBoxes", "existing", "(I)LFlexibleBoxes$Box;"⟩, 3) := ⟨⟨by decide +kernel, by decide +kernel⟩, List.mem_of_getElem? (i := 17) (by decide +kernel), List.mem_of_getElem? (i := 440) (by decide +kernel), List.mem_of_getElem? (i := 441) (by decide +kernel)⟩
theorem lw_p9 : lw_okq (⟨"java/lang/Throwable", "fillInStackTrace", "(I)Ljava/lang/Throwable;"⟩, 6) := ⟨⟨by decide +kernel, by decide +kernel⟩, List.mem_of_getElem? (i := 483) (by decide +kernel), List.mem_of_getElem? (i := 481) (by decide +kernel), List.mem_of_getElem? (i := 482) (by decide +kernel)⟩
theorem lw_p10 : lw_okq (⟨"FlexibleBoxes", "laidOut", "(LFlexibleBoxes$Box;)LFlexibleBoxes$Box;"⟩, 3) := ⟨⟨by decide +kernel, by decide +kernel⟩, List.mem_of_getElem? (i := 17) (by decide +kernel), List.mem_of_getElem? (i := 638) (by decide +kernel), List.mem_of_getElem? (i := 639) (by decide +kernel)⟩
theorem lw_p11 : lw_okq (⟨"FlexibleBoxes$Layout", "linesAt", "(LFlexibleBoxes$Box;I)I"⟩, 3) := ⟨⟨by decide +kernel, by decide +kernel⟩, List.mem_of_getElem? (i := 154) (by decide +kernel), List.mem_of_getElem? (i := 720) (by decide +kernel), List.mem_of_getElem? (i := 721) (by decide +kernel)⟩
theorem lw_p12 : lw_okq (⟨"FlexibleBoxesModel", "make", "(I)I"⟩, 16) := ⟨⟨by decide +kernel, by decide +kernel⟩, List.mem_of_getElem? (i := 781) (by decide +kernel), List.mem_of_getElem? (i := 787) (by decide +kernel), List.mem_of_getElem? (i := 788) (by decide +kernel)⟩
theorem lw_p13 : lw_okq (⟨"FlexibleBoxesModel", "isBox", "(I)Z"⟩, 16) := ⟨⟨by decide +kernel, by decide +kernel⟩, List.mem_of_getElem? (i := 781) (by decide +kernel), List.mem_of_getElem? (i := 852) (by decide +kernel), List.mem_of_getElem? (i := 853) (by decide +kernel)⟩
theorem lw_p14 : lw_okq (⟨"FlexibleBoxesModel", "layKids", "(I)V"⟩, 16) := ⟨⟨by decide +kernel, by decide +kernel⟩, List.mem_of_getElem? (i := 781) (by decide +kernel), List.mem_of_getElem? (i := 875) (by decide +kernel), List.mem_of_getElem? (i := 876) (by decide +kernel)⟩
theorem lw_p15 : lw_okq (⟨"FlexibleBoxesModel", "isChild", "(II)Z"⟩, 16) := ⟨⟨by decide +kernel, by decide +kernel⟩, List.mem_of_getElem? (i := 781) (by decide +kernel), List.mem_of_getElem? (i := 879) (by decide +kernel), List.mem_of_getElem? (i := 880) (by decide +kernel)⟩
def lw_privs_1 : List (MethodName × Nat) := [(⟨"FlexibleBoxes$Layout", "spreadWidths", "(LFlexibleBoxes$Box;)V"⟩, 3), (⟨"FlexibleBoxes$Layout", "flexKids", "(LFlexibleBoxes$Box;LFlexibleBoxes$Box;ZII)V"⟩, 3), (⟨"FlexibleBoxes$Flex", "begin", "()I"⟩, 11), (⟨"FlexibleBoxes$Flex", "openFactors", "()J"⟩, 11), (⟨"FlexibleBoxes$Flex", "restOf", "(I)I"⟩, 11), (⟨"FlexibleBoxes$Flex", "propose", "(JJZ)J"⟩, 11), (⟨"FlexibleBoxes$Flex", "settle", "(J)V"⟩, 11), (⟨"FlexibleBoxes$Layout", "placeColumn", "(LFlexibleBoxes$Box;)V"⟩, 3), (⟨"FlexibleBoxes", "existing", "(I)LFlexibleBoxes$Box;"⟩, 3), (⟨"java/lang/Throwable", "fillInStackTrace", "(I)Ljava/lang/Throwable;"⟩, 6), (⟨"FlexibleBoxes", "laidOut", "(LFlexibleBoxes$Box;)LFlexibleBoxes$Box;"⟩, 3), (⟨"FlexibleBoxes$Layout", "linesAt", "(LFlexibleBoxes$Box;I)I"⟩, 3), (⟨"FlexibleBoxesModel", "make", "(I)I"⟩, 16), (⟨"FlexibleBoxesModel", "isBox", "(I)Z"⟩, 16), (⟨"FlexibleBoxesModel", "layKids", "(I)V"⟩, 16), (⟨"FlexibleBoxesModel", "isChild", "(II)Z"⟩, 16)]
theorem lw_r1 : ∀ q ∈ lw_privs_1, lw_okq q := List.forall_mem_cons.mpr ⟨lw_p0, List.forall_mem_cons.mpr ⟨lw_p1, List.forall_mem_cons.mpr ⟨lw_p2, List.forall_mem_cons.mpr ⟨lw_p3, List.forall_mem_cons.mpr ⟨lw_p4, List.forall_mem_cons.mpr ⟨lw_p5, List.forall_mem_cons.mpr ⟨lw_p6, List.forall_mem_cons.mpr ⟨lw_p7, List.forall_mem_cons.mpr ⟨lw_p8, List.forall_mem_cons.mpr ⟨lw_p9, List.forall_mem_cons.mpr ⟨lw_p10, List.forall_mem_cons.mpr ⟨lw_p11, List.forall_mem_cons.mpr ⟨lw_p12, List.forall_mem_cons.mpr ⟨lw_p13, List.forall_mem_cons.mpr ⟨lw_p14, List.forall_mem_cons.mpr ⟨lw_p15, fun _ h => absurd h List.not_mem_nil⟩⟩⟩⟩⟩⟩⟩⟩⟩⟩⟩⟩⟩⟩⟩⟩
theorem lw_p16 : lw_okq (⟨"FlexibleBoxesModel", "of", "(II)I"⟩, 16) := ⟨⟨by decide +kernel, by decide +kernel⟩, List.mem_of_getElem? (i := 781) (by decide +kernel), List.mem_of_getElem? (i := 883) (by decide +kernel), List.mem_of_getElem? (i := 884) (by decide +kernel)⟩
theorem lw_p17 : lw_okq (⟨"FlexibleBoxesModel", "isAhead", "(II)Z"⟩, 16) := ⟨⟨by decide +kernel, by decide +kernel⟩, List.mem_of_getElem? (i := 781) (by decide +kernel), List.mem_of_getElem? (i := 887) (by decide +kernel), List.mem_of_getElem? (i := 888) (by decide +kernel)⟩
theorem lw_p18 : lw_okq (⟨"FlexibleBoxesModel", "hasLayout", "(I)Z"⟩, 16) := ⟨⟨by decide +kernel, by decide +kernel⟩, List.mem_of_getElem? (i := 781) (by decide +kernel), List.mem_of_getElem? (i := 917) (by decide +kernel), List.mem_of_getElem? (i := 918) (by decide +kernel)⟩
theorem lw_p19 : lw_okq (⟨"FlexibleBoxesModel", "findShown", "()V"⟩, 16) := ⟨⟨by decide +kernel, by decide +kernel⟩, List.mem_of_getElem? (i := 781) (by decide +kernel), List.mem_of_getElem? (i := 921) (by decide +kernel), List.mem_of_getElem? (i := 922) (by decide +kernel)⟩
theorem lw_p20 : lw_okq (⟨"FlexibleBoxesModel", "layOut", "()V"⟩, 16) := ⟨⟨by decide +kernel, by decide +kernel⟩, List.mem_of_getElem? (i := 781) (by decide +kernel), List.mem_of_getElem? (i := 925) (by decide +kernel), List.mem_of_getElem? (i := 926) (by decide +kernel)⟩
theorem lw_p21 : lw_okq (⟨"FlexibleBoxesModel", "findNaturalWidths", "()V"⟩, 16) := ⟨⟨by decide +kernel, by decide +kernel⟩, List.mem_of_getElem? (i := 781) (by decide +kernel), List.mem_of_getElem? (i := 929) (by decide +kernel), List.mem_of_getElem? (i := 930) (by decide +kernel)⟩
theorem lw_p22 : lw_okq (⟨"FlexibleBoxesModel", "isLeaf", "(I)Z"⟩, 16) := ⟨⟨by decide +kernel, by decide +kernel⟩, List.mem_of_getElem? (i := 781) (by decide +kernel), List.mem_of_getElem? (i := 933) (by decide +kernel), List.mem_of_getElem? (i := 934) (by decide +kernel)⟩
theorem lw_p23 : lw_okq (⟨"FlexibleBoxesModel", "content", "(IIZ)I"⟩, 16) := ⟨⟨by decide +kernel, by decide +kernel⟩, List.mem_of_getElem? (i := 781) (by decide +kernel), List.mem_of_getElem? (i := 937) (by decide +kernel), List.mem_of_getElem? (i := 938) (by decide +kernel)⟩
theorem lw_p24 : lw_okq (⟨"FlexibleBoxesModel", "outer", "(II)I"⟩, 16) := ⟨⟨by decide +kernel, by decide +kernel⟩, List.mem_of_getElem? (i := 781) (by decide +kernel), List.mem_of_getElem? (i := 941) (by decide +kernel), List.mem_of_getElem? (i := 942) (by decide +kernel)⟩
theorem lw_p25 : lw_okq (⟨"FlexibleBoxesModel", "gapsOf", "(II)I"⟩, 16) := ⟨⟨by decide +kernel, by decide +kernel⟩, List.mem_of_getElem? (i := 781) (by decide +kernel), List.mem_of_getElem? (i := 945) (by decide +kernel), List.mem_of_getElem? (i := 946) (by decide +kernel)⟩
theorem lw_p26 : lw_okq (⟨"FlexibleBoxesModel", "setNatural", "(III)V"⟩, 16) := ⟨⟨by decide +kernel, by decide +kernel⟩, List.mem_of_getElem? (i := 781) (by decide +kernel), List.mem_of_getElem? (i := 949) (by decide +kernel), List.mem_of_getElem? (i := 950) (by decide +kernel)⟩
theorem lw_p27 : lw_okq (⟨"FlexibleBoxesModel", "limited", "(III)I"⟩, 16) := ⟨⟨by decide +kernel, by decide +kernel⟩, List.mem_of_getElem? (i := 781) (by decide +kernel), List.mem_of_getElem? (i := 953) (by decide +kernel), List.mem_of_getElem? (i := 954) (by decide +kernel)⟩
theorem lw_p28 : lw_okq (⟨"FlexibleBoxesModel", "findWidths", "()V"⟩, 16) := ⟨⟨by decide +kernel, by decide +kernel⟩, List.mem_of_getElem? (i := 781) (by decide +kernel), List.mem_of_getElem? (i := 957) (by decide +kernel), List.mem_of_getElem? (i := 958) (by decide +kernel)⟩
theorem lw_p29 : lw_okq (⟨"FlexibleBoxesModel", "textLines", "(I)I"⟩, 16) := ⟨⟨by decide +kernel, by decide +kernel⟩, List.mem_of_getElem? (i := 781) (by decide +kernel), List.mem_of_getElem? (i := 961) (by decide +kernel), List.mem_of_getElem? (i := 962) (by decide +kernel)⟩
theorem lw_p30 : lw_okq (⟨"FlexibleBoxesModel", "inner", "(II)I"⟩, 16) := ⟨⟨by decide +kernel, by decide +kernel⟩, List.mem_of_getElem? (i := 781) (by decide +kernel), List.mem_of_getElem? (i := 965) (by decide +kernel), List.mem_of_getElem? (i := 966) (by decide +kernel)⟩
theorem lw_p31 : lw_okq (⟨"FlexibleBoxesModel", "findColumnWidths", "(I)V"⟩, 16) := ⟨⟨by decide +kernel, by decide +kernel⟩, List.mem_of_getElem? (i := 781) (by decide +kernel), List.mem_of_getElem? (i := 972) (by decide +kernel), List.mem_of_getElem? (i := 973) (by decide +kernel)⟩
def lw_privs_2 : List (MethodName × Nat) := [(⟨"FlexibleBoxesModel", "of", "(II)I"⟩, 16), (⟨"FlexibleBoxesModel", "isAhead", "(II)Z"⟩, 16), (⟨"FlexibleBoxesModel", "hasLayout", "(I)Z"⟩, 16), (⟨"FlexibleBoxesModel", "findShown", "()V"⟩, 16), (⟨"FlexibleBoxesModel", "layOut", "()V"⟩, 16), (⟨"FlexibleBoxesModel", "findNaturalWidths", "()V"⟩, 16), (⟨"FlexibleBoxesModel", "isLeaf", "(I)Z"⟩, 16), (⟨"FlexibleBoxesModel", "content", "(IIZ)I"⟩, 16), (⟨"FlexibleBoxesModel", "outer", "(II)I"⟩, 16), (⟨"FlexibleBoxesModel", "gapsOf", "(II)I"⟩, 16), (⟨"FlexibleBoxesModel", "setNatural", "(III)V"⟩, 16), (⟨"FlexibleBoxesModel", "limited", "(III)I"⟩, 16), (⟨"FlexibleBoxesModel", "findWidths", "()V"⟩, 16), (⟨"FlexibleBoxesModel", "textLines", "(I)I"⟩, 16), (⟨"FlexibleBoxesModel", "inner", "(II)I"⟩, 16), (⟨"FlexibleBoxesModel", "findColumnWidths", "(I)V"⟩, 16)]
theorem lw_r2 : ∀ q ∈ lw_privs_2, lw_okq q := List.forall_mem_cons.mpr ⟨lw_p16, List.forall_mem_cons.mpr ⟨lw_p17, List.forall_mem_cons.mpr ⟨lw_p18, List.forall_mem_cons.mpr ⟨lw_p19, List.forall_mem_cons.mpr ⟨lw_p20, List.forall_mem_cons.mpr ⟨lw_p21, List.forall_mem_cons.mpr ⟨lw_p22, List.forall_mem_cons.mpr ⟨lw_p23, List.forall_mem_cons.mpr ⟨lw_p24, List.forall_mem_cons.mpr ⟨lw_p25, List.forall_mem_cons.mpr ⟨lw_p26, List.forall_mem_cons.mpr ⟨lw_p27, List.forall_mem_cons.mpr ⟨lw_p28, List.forall_mem_cons.mpr ⟨lw_p29, List.forall_mem_cons.mpr ⟨lw_p30, List.forall_mem_cons.mpr ⟨lw_p31, fun _ h => absurd h List.not_mem_nil⟩⟩⟩⟩⟩⟩⟩⟩⟩⟩⟩⟩⟩⟩⟩⟩
theorem lw_p32 : lw_okq (⟨"FlexibleBoxesModel", "alignment", "(I)I"⟩, 16) := ⟨⟨by decide +kernel, by decide +kernel⟩, List.mem_of_getElem? (i := 781) (by decide +kernel), List.mem_of_getElem? (i := 976) (by decide +kernel), List.mem_of_getElem? (i := 977) (by decide +kernel)⟩
theorem lw_p33 : lw_okq (⟨"FlexibleBoxesModel", "findLines", "(I)V"⟩, 16) := ⟨⟨by decide +kernel, by decide +kernel⟩, List.mem_of_getElem? (i := 781) (by decide +kernel), List.mem_of_getElem? (i := 980) (by decide +kernel), List.mem_of_getElem? (i := 981) (by decide +kernel)⟩
theorem lw_p34 : lw_okq (⟨"FlexibleBoxesModel", "endOfLine", "(II)I"⟩, 16) := ⟨⟨by decide +kernel, by decide +kernel⟩, List.mem_of_getElem? (i := 781) (by decide +kernel), List.mem_of_getElem? (i := 984) (by decide +kernel), List.mem_of_getElem? (i := 985) (by decide +kernel)⟩
theorem lw_p35 : lw_okq (⟨"FlexibleBoxesModel", "startOf", "(II)I"⟩, 16) := ⟨⟨by decide +kernel, by decide +kernel⟩, List.mem_of_getElem? (i := 781) (by decide +kernel), List.mem_of_getElem? (i := 988) (by decide +kernel), List.mem_of_getElem? (i := 989) (by decide +kernel)⟩
theorem lw_p36 : lw_okq (⟨"FlexibleBoxesModel", "baseOf", "(II)I"⟩, 16) := ⟨⟨by decide +kernel, by decide +kernel⟩, List.mem_of_getElem? (i := 781) (by decide +kernel), List.mem_of_getElem? (i := 992) (by decide +kernel), List.mem_of_getElem? (i := 993) (by decide +kernel)⟩
theorem lw_p37 : lw_okq (⟨"FlexibleBoxesModel", "flex", "(IIIII)V"⟩, 16) := ⟨⟨by decide +kernel, by decide +kernel⟩, List.mem_of_getElem? (i := 781) (by decide +kernel), List.mem_of_getElem? (i := 996) (by decide +kernel), List.mem_of_getElem? (i := 997) (by decide +kernel)⟩
theorem lw_p38 : lw_okq (⟨"FlexibleBoxesModel", "beginFlex", "(IIIII)Z"⟩, 16) := ⟨⟨by decide +kernel, by decide +kernel⟩, List.mem_of_getElem? (i := 781) (by decide +kernel), List.mem_of_getElem? (i := 1000) (by decide +kernel), List.mem_of_getElem? (i := 1001) (by decide +kernel)⟩
theorem lw_p39 : lw_okq (⟨"FlexibleBoxesModel", "propose", "(IIIIIZ)V"⟩, 16) := ⟨⟨by decide +kernel, by decide +kernel⟩, List.mem_of_getElem? (i := 781) (by decide +kernel), List.mem_of_getElem? (i := 1004) (by decide +kernel), List.mem_of_getElem? (i := 1005) (by decide +kernel)⟩
theorem lw_p40 : lw_okq (⟨"FlexibleBoxesModel", "fixSome", "(III)I"⟩, 16) := ⟨⟨by decide +kernel, by decide +kernel⟩, List.mem_of_getElem? (i := 781) (by decide +kernel), List.mem_of_getElem? (i := 1008) (by decide +kernel), List.mem_of_getElem? (i := 1009) (by decide +kernel)⟩
theorem lw_p41 : lw_okq (⟨"FlexibleBoxesModel", "deviation", "(II)I"⟩, 16) := ⟨⟨by decide +kernel, by decide +kernel⟩, List.mem_of_getElem? (i := 781) (by decide +kernel), List.mem_of_getElem? (i := 1012) (by decide +kernel), List.mem_of_getElem? (i := 1013) (by decide +kernel)⟩
theorem lw_p42 : lw_okq (⟨"FlexibleBoxesModel", "findNaturalHeights", "()V"⟩, 16) := ⟨⟨by decide +kernel, by decide +kernel⟩, List.mem_of_getElem? (i := 781) (by decide +kernel), List.mem_of_getElem? (i := 1016) (by decide +kernel), List.mem_of_getElem? (i := 1017) (by decide +kernel)⟩
theorem lw_p43 : lw_okq (⟨"FlexibleBoxesModel", "rowContent", "(I)I"⟩, 16) := ⟨⟨by decide +kernel, by decide +kernel⟩, List.mem_of_getElem? (i := 781) (by decide +kernel), List.mem_of_getElem? (i := 1020) (by decide +kernel), List.mem_of_getElem? (i := 1021) (by decide +kernel)⟩
theorem lw_p44 : lw_okq (⟨"FlexibleBoxesModel", "lineHeight", "(I)I"⟩, 16) := ⟨⟨by decide +kernel, by decide +kernel⟩, List.mem_of_getElem? (i := 781) (by decide +kernel), List.mem_of_getElem? (i := 1024) (by decide +kernel), List.mem_of_getElem? (i := 1025) (by decide +kernel)⟩
theorem lw_p45 : lw_okq (⟨"FlexibleBoxesModel", "findPlaces", "()V"⟩, 16) := ⟨⟨by decide +kernel, by decide +kernel⟩, List.mem_of_getElem? (i := 781) (by decide +kernel), List.mem_of_getElem? (i := 1028) (by decide +kernel), List.mem_of_getElem? (i := 1029) (by decide +kernel)⟩
theorem lw_p46 : lw_okq (⟨"FlexibleBoxesModel", "placeColumn", "(I)V"⟩, 16) := ⟨⟨by decide +kernel, by decide +kernel⟩, List.mem_of_getElem? (i := 781) (by decide +kernel), List.mem_of_getElem? (i := 1032) (by decide +kernel), List.mem_of_getElem? (i := 1033) (by decide +kernel)⟩
theorem lw_p47 : lw_okq (⟨"FlexibleBoxesModel", "justify", "(IIII)V"⟩, 16) := ⟨⟨by decide +kernel, by decide +kernel⟩, List.mem_of_getElem? (i := 781) (by decide +kernel), List.mem_of_getElem? (i := 1036) (by decide +kernel), List.mem_of_getElem? (i := 1037) (by decide +kernel)⟩
def lw_privs_3 : List (MethodName × Nat) := [(⟨"FlexibleBoxesModel", "alignment", "(I)I"⟩, 16), (⟨"FlexibleBoxesModel", "findLines", "(I)V"⟩, 16), (⟨"FlexibleBoxesModel", "endOfLine", "(II)I"⟩, 16), (⟨"FlexibleBoxesModel", "startOf", "(II)I"⟩, 16), (⟨"FlexibleBoxesModel", "baseOf", "(II)I"⟩, 16), (⟨"FlexibleBoxesModel", "flex", "(IIIII)V"⟩, 16), (⟨"FlexibleBoxesModel", "beginFlex", "(IIIII)Z"⟩, 16), (⟨"FlexibleBoxesModel", "propose", "(IIIIIZ)V"⟩, 16), (⟨"FlexibleBoxesModel", "fixSome", "(III)I"⟩, 16), (⟨"FlexibleBoxesModel", "deviation", "(II)I"⟩, 16), (⟨"FlexibleBoxesModel", "findNaturalHeights", "()V"⟩, 16), (⟨"FlexibleBoxesModel", "rowContent", "(I)I"⟩, 16), (⟨"FlexibleBoxesModel", "lineHeight", "(I)I"⟩, 16), (⟨"FlexibleBoxesModel", "findPlaces", "()V"⟩, 16), (⟨"FlexibleBoxesModel", "placeColumn", "(I)V"⟩, 16), (⟨"FlexibleBoxesModel", "justify", "(IIII)V"⟩, 16)]
theorem lw_r3 : ∀ q ∈ lw_privs_3, lw_okq q := List.forall_mem_cons.mpr ⟨lw_p32, List.forall_mem_cons.mpr ⟨lw_p33, List.forall_mem_cons.mpr ⟨lw_p34, List.forall_mem_cons.mpr ⟨lw_p35, List.forall_mem_cons.mpr ⟨lw_p36, List.forall_mem_cons.mpr ⟨lw_p37, List.forall_mem_cons.mpr ⟨lw_p38, List.forall_mem_cons.mpr ⟨lw_p39, List.forall_mem_cons.mpr ⟨lw_p40, List.forall_mem_cons.mpr ⟨lw_p41, List.forall_mem_cons.mpr ⟨lw_p42, List.forall_mem_cons.mpr ⟨lw_p43, List.forall_mem_cons.mpr ⟨lw_p44, List.forall_mem_cons.mpr ⟨lw_p45, List.forall_mem_cons.mpr ⟨lw_p46, List.forall_mem_cons.mpr ⟨lw_p47, fun _ h => absurd h List.not_mem_nil⟩⟩⟩⟩⟩⟩⟩⟩⟩⟩⟩⟩⟩⟩⟩⟩
theorem lw_p48 : lw_okq (⟨"FlexibleBoxesModel", "align", "(IIII)V"⟩, 16) := ⟨⟨by decide +kernel, by decide +kernel⟩, List.mem_of_getElem? (i := 781) (by decide +kernel), List.mem_of_getElem? (i := 1043) (by decide +kernel), List.mem_of_getElem? (i := 1044) (by decide +kernel)⟩
theorem lw_p49 : lw_okq (⟨"FlexibleBoxesModel", "placeRow", "(I)V"⟩, 16) := ⟨⟨by decide +kernel, by decide +kernel⟩, List.mem_of_getElem? (i := 781) (by decide +kernel), List.mem_of_getElem? (i := 1047) (by decide +kernel), List.mem_of_getElem? (i := 1048) (by decide +kernel)⟩
theorem lw_p50 : lw_okq (⟨"FlexibleBoxesModel", "setRowHeight", "(II)V"⟩, 16) := ⟨⟨by decide +kernel, by decide +kernel⟩, List.mem_of_getElem? (i := 781) (by decide +kernel), List.mem_of_getElem? (i := 1051) (by decide +kernel), List.mem_of_getElem? (i := 1052) (by decide +kernel)⟩
theorem lw_p51 : lw_okq (⟨"FlexibleBoxesModel", "end", "(II)I"⟩, 16) := ⟨⟨by decide +kernel, by decide +kernel⟩, List.mem_of_getElem? (i := 781) (by decide +kernel), List.mem_of_getElem? (i := 1087) (by decide +kernel), List.mem_of_getElem? (i := 1088) (by decide +kernel)⟩
theorem lw_p52 : lw_okq (⟨"FlexibleBoxesModel", "covers", "(III)Z"⟩, 16) := ⟨⟨by decide +kernel, by decide +kernel⟩, List.mem_of_getElem? (i := 781) (by decide +kernel), List.mem_of_getElem? (i := 1095) (by decide +kernel), List.mem_of_getElem? (i := 1096) (by decide +kernel)⟩
def lw_privs_4 : List (MethodName × Nat) := [(⟨"FlexibleBoxesModel", "align", "(IIII)V"⟩, 16), (⟨"FlexibleBoxesModel", "placeRow", "(I)V"⟩, 16), (⟨"FlexibleBoxesModel", "setRowHeight", "(II)V"⟩, 16), (⟨"FlexibleBoxesModel", "end", "(II)I"⟩, 16), (⟨"FlexibleBoxesModel", "covers", "(III)Z"⟩, 16)]
theorem lw_r4 : ∀ q ∈ lw_privs_4, lw_okq q := List.forall_mem_cons.mpr ⟨lw_p48, List.forall_mem_cons.mpr ⟨lw_p49, List.forall_mem_cons.mpr ⟨lw_p50, List.forall_mem_cons.mpr ⟨lw_p51, List.forall_mem_cons.mpr ⟨lw_p52, fun _ h => absurd h List.not_mem_nil⟩⟩⟩⟩⟩
def lw_privs : List (MethodName × Nat) := lw_privs_1 ++ (lw_privs_2 ++ (lw_privs_3 ++ (lw_privs_4)))
def lw_tbl : List Cond := k2_sels lw_privs ++ tables_1
theorem lw_privs_ok : ∀ q ∈ lw_privs, lw_okq q := by
  show ∀ q ∈ lw_privs_1 ++ (lw_privs_2 ++ (lw_privs_3 ++ (lw_privs_4))), lw_okq q
  exact List.forall_mem_append.mpr ⟨lw_r1, List.forall_mem_append.mpr ⟨lw_r2, List.forall_mem_append.mpr ⟨lw_r3, lw_r4⟩⟩⟩
-- ===== end of PART A; then your names; then what follows =====
end
section
/-! ===== BEGIN words of one list among another's, by their places ===== -/
theorem goodIn_r {big : List Cond} (ws : List Cond) (ps : List Nat) (hp : ws = ps.filterMap (fun i => big[i]?)) (h : ws.all goodWord = true) : GoodIn big ws := by
  intro w hw
  have h1 := List.all_eq_true.mp h w hw
  rw [hp] at hw
  obtain ⟨i, -, hi⟩ := List.mem_filterMap.mp hw
  have hm : w ∈ big := by first | exact List.mem_of_getElem? hi | exact List.getElem?_mem hi
  exact ⟨hm, good_of_word h1⟩
theorem goodIn_app {big a b : List Cond} (ha : GoodIn big a) (hb : GoodIn big b) : GoodIn big (a ++ b) := fun w h => (List.mem_append.mp h).elim (ha w) (hb w)
theorem goodIn_ca {big a b : List Cond} {c : Cond} (ha : GoodIn big (c :: a)) (hb : GoodIn big b) : GoodIn big (c :: (a ++ b)) := fun w h => (List.mem_cons.mp h).elim (fun e => ha w (List.mem_cons.mpr (Or.inl e))) (fun h => (List.mem_append.mp h).elim (fun h => ha w (List.mem_cons.mpr (Or.inr h))) (hb w))
theorem goodIn_sub {big ws : List Cond} (hm : ∀ w ∈ ws, w ∈ big) (h : ws.all goodWord = true) : GoodIn big ws := fun w hw => ⟨hm w hw, good_of_word (List.all_eq_true.mp h w hw)⟩
/-! ===== END ===== -/

/-! ===== BEGIN exceptions that leave a method, and their catching by the caller (launches without stack traces) ===== -/
section VXA
/-! The laws vx_back, vx_callV, vx_callS, vx_callSW, vx_throw0, vx_throwS follow proofs of the library, with one case more: JvmDerived/Free/Laws.lean (Back.of_free), Shelf42/LK1.lean (callV, callS), Shelf/KitTraced.lean (throwNew0V, throwNewS). -/
/-- where a method has thrown q: the class by its name, the cell, what was written, the world -/
def vx_T (XC : String → State → State → Prop) (st : State) (q : Addr) (t : State) (mc ms : Nat) (free : Addr → Prop) : Prop :=
  ∃ (E : String) (ce : Cell) (L : List Loc), XC E st t ∧ t.heap[q]? = some ce ∧ ce.vm = .none ∧ st.vm.findClass E = some ce.cls ∧ st.WarmedH t.vm ∧ st.sameButNew ({ t with vm := st.vm } : State) L mc ms ∧ ∀ z ∈ L, free z.base
def vx_Q (Qc : Array Value → State → Outcome → State → Prop) (XC : String → State → State → Prop) (mc ms : Nat) (free : Addr → Prop) : Array Value → State → Outcome → State → Prop := fun a st o t =>
  (Qc a st o t ∧ ∃ L, FrameEnd st o t L mc ms ∧ ∀ q ∈ L, free q.base) ∨ ∃ q, o = .threw q ∧ vx_T XC st q t mc ms free
/-- a callee that returns or throws -/
def vx_Met (l : Launch) (y : MethodName) (ws : List Cond) (rm : Room) (Pc : Array Value → State → Prop) (Qc : Array Value → State → Outcome → State → Prop) (XC : String → State → State → Prop) (mc ms : Nat) (free : Addr → Prop) : Prop :=
  MetFree l y (headSpec ws rm) Pc (fun _ _ _ _ _ => True) (vx_Q Qc XC mc ms free)
def vx_Post (XC : String → State → State → Prop) (mc ms : Nat) (free : Addr → Prop) : Pt → Array Value → Addr → Pt → Prop := fun A a q B =>
  ∃ (g : JFrame) (mk : MethodId) (t : State) (L : List Loc) (E : String) (ce : Cell), B.U.heap = t.heap ∧ B.U.vm = t.vm ∧ XC E (A.U.calling g mk a) t ∧ t.heap[q]? = some ce ∧ ce.vm = .none ∧ A.U.vm.findClass E = some ce.cls ∧ B.locs = A.locs ++ L ∧ (∀ z ∈ L, free z.base) ∧ B.cells = A.cells + mc ∧ B.slots = A.slots + ms
def vx_Back (l : Launch) (R : Room) (p : Program) (e : Env) (below : List Frame) (s : State) (sargs : Array Value) (y : MethodName) (len W9 : Nat)
    (Pre : Pt → Array Value → Prop) (Post : Pt → Array Value → Option Value → Pt → Prop) (PostX : Pt → Array Value → Addr → Pt → Prop) : Prop :=
  ∀ (m : MethodId) (meth : Method) (c : Code) (A : Pt) (g : JFrame) (ig : Instr) (mk : MethodId) (a : Array Value),
    Stand p l e R s m sargs below meth c A.U A.locs A.cells A.slots → g.method = m → g.locals.size = c.maxLocals → decode c.code g.pc = .ok (ig, len) →
    2 * g.monitorRoom + (g.stack.map fun v => v.category).sum ≤ W9 → A.U.methodNamed? y = some mk → Pre A a →
    (∃ (v : Option Value) (B : Pt), Stand p l e R s m sargs below meth c B.U B.locs B.cells B.slots ∧ Post A a v B ∧
      Steps p.tables e below (doInvoke e (A.U.setTop g) [] mk a).1 (B.U.setTop { g with pc := g.pc + len, stack := v.toList ++ g.stack })) ∨
    (∃ (q : Addr) (B : Pt), Stand p l e R s m sargs below meth c B.U B.locs B.cells B.slots ∧ PostX A a q B ∧
      Steps p.tables e below (doInvoke e (A.U.setTop g) [] mk a).1 ((B.U.setTop g).pushFrame (.throwing q)))
section Payer
variable {l : Launch} {R : Room} {p : Program} {e : Env} {below : List Frame} {s : State} {sargs : Array Value} {y : MethodName} {len W9 : Nat}
theorem vx_back {ws : List Cond} {rm : Room} {Pc : Array Value → State → Prop} {Qc : Array Value → State → Outcome → State → Prop} {XC : String → State → State → Prop} {mc ms : Nat} {free : Addr → Prop} {bytes : ByteArray} {maxL : Nat} {ret : Option FieldType}
    (hM : vx_Met l y ws rm Pc Qc XC mc ms free) (hblind : FrameBlind Pc) (hrc : rm.cells = mc) (hrs : rm.slots = ms)
    (hframes : rm.frames + 1 ≤ R.frames) (hlocals : W9 + (maxL + 11) + rm.locals ≤ R.locals)
    (hws : ∀ w ∈ ws, ∀ a' U, s.WarmedH U.vm → w.before a' U = true) (hcode : Cond.code y bytes maxL ret ∈ ws) (hinit : ∀ a' U, s.WarmedH U.vm → (Cond.initialized y.cls).before a' U = true) :
    vx_Back l R p e below s sargs y len W9 (PreOf R mc ms Pc) (PostOf Qc mc ms free) (vx_Post XC mc ms free) := by
  intro m meth c A g ig mk a X hg hsize hdg hW hn hp
  have h1 : (headSpec ws rm).pre.before a A.U = true := atoms_intro fun w hw => hws w hw _ _ X.warmed
  have h2 : (Cond.code y bytes maxL ret).before a A.U = true := hws _ hcode _ _ X.warmed
  have h3 : (Cond.initialized y.cls).before a A.U = true := hinit _ _ X.warmed
  have h4 : A.cells + (headSpec ws rm).room.cells ≤ R.cells := by rw [show (headSpec ws rm).room.cells = mc from hrc]; exact hp.1
  have h5 : A.slots + (headSpec ws rm).room.slots ≤ R.slots := by rw [show (headSpec ws rm).room.slots = ms from hrs]; exact hp.2.1
  have hPc : Pc a (A.U.calling g mk a) := hblind _ _ _ _ hp.2.2
  obtain ⟨U, Ls, c0, s0⟩ := A
  dsimp only [Pt.U, Pt.locs, Pt.cells, Pt.slots] at h1 h2 h3 h4 h5 X hn hPc ⊢
  obtain ⟨methY, cY, hmY, hcY, -, hlY, -, -, -, -⟩ := Cond.code_spec hn h2
  obtain ⟨kY, hkY, -⟩ := className_of_methodNamed hn
  have hinitY : kY.init = .initialized := Cond.initialized_spec (findClass_of_methodNamed hn) hkY h3
  have h : At U g.method c below := by rw [hg]; exact X.here
  have hlocals9 : W9 + (maxL + 11) + (headSpec ws rm).room.locals ≤ R.locals := hlocals
  have happ : (headSpec ws rm).appliesLoose y e.platform (U.calling g mk a) = true :=
    Spec.appliesLoose_calling (g := g) h hdg hn hkY hinitY
      (X.room_calling (g := g) (R' := (headSpec ws rm).room) hsize hmY hcY hframes (by rw [hlY]; omega) h4 h5) h1
  obtain ⟨mid, hmid⟩ := h.above
  have hfr : (U.setTop g).frames = (.java g :: mid) ++ below := by rw [State.frames_setTop' g h.top, hmid]; rfl
  obtain ⟨o, s₂, hsteps, -, hend, hq⟩ := Steps.callFree hM p X.admits X.cas X.clock (acts := []) hfr happ hPc trivial
  have hq' : vx_Q Qc XC mc ms free a (U.calling g mk a) o s₂ := hq
  rw [State.frames_setTop' g h.top] at hend
  obtain ⟨g₀, hg0⟩ := Option.isSome_iff_exists.mp h.top
  obtain ⟨r, hr⟩ := State.topJava?_eq_some.mp hg0
  have hr' : (({ U with heap := s₂.heap, slotsUsed := s₂.slotsUsed } : State).setVm s₂.vm).frames = .java g₀ :: r := hr
  rcases hq' with ⟨hqc, L, hfe, hL⟩ | ⟨q, rfl, E, ce, L, hx, hce, hcv, hcl, hW₂, hsm, hL⟩
  · obtain ⟨⟨v, rfl⟩, hW₂, e2, q2, q3, q4, q5, q6⟩ := id hfe
    have e3 : s₂ = ({ (U.calling g mk a).setFrames s₂.frames with heap := s₂.heap, slotsUsed := s₂.slotsUsed } : State).setVm s₂.vm := by
      have : s₂ = ({ s₂ with vm := (U.calling g mk a).vm } : State).setVm s₂.vm := rfl
      rw [e2] at this
      exact this
    obtain ⟨c₂, i₂, len₂, hc₂, hd₂, hf₂⟩ := hend
    have hW' : U.WarmedH s₂.vm := hW₂
    have hcc : c₂ = c := by
      have h1 : s₂.code? g.method = U.code? g.method := by
        rw [State.code?_eq, State.code?_eq, hW'.alike.method?]
      exact Option.some.inj (hc₂.symm.trans (h1.trans h.code))
    subst hcc
    have hlen : len₂ = len := by rw [hdg] at hd₂; cases hd₂; rfl
    subst hlen
    have hs₂ : s₂ = (({ U with heap := s₂.heap, slotsUsed := s₂.slotsUsed } : State).setVm s₂.vm).setTop { g with pc := g.pc + len₂, stack := v.toList ++ g.stack } := by
      refine e3.trans ?_
      rw [hf₂, State.calling_eq h.top, State.setFrames_setFrames, State.setTop_of_frames _ hr', hr]
      rfl
    have hsame : U.sameButNew ({ U with heap := s₂.heap, slotsUsed := s₂.slotsUsed } : State) L mc ms := by
      refine ⟨?_, q2, q3, q4, q5, q6⟩
      obtain ⟨t, ht, -⟩ := State.frames_cons hr
      show ({ U with heap := s₂.heap, slotsUsed := s₂.slotsUsed } : State) = { U.setFrames U.frames with heap := s₂.heap, slotsUsed := s₂.slotsUsed }
      rw [State.setFrames_self ht]
    subst hg
    refine Or.inl ⟨v, ⟨(({ U with heap := s₂.heap, slotsUsed := s₂.slotsUsed } : State).setVm s₂.vm), Ls ++ L, c0 + mc, s0 + ms⟩,
      ⟨X.admits, X.cas, X.clock, X.frames, X.room, X.hears, X.method, X.code, (X.here.setHeapUsed s₂.heap s₂.slotsUsed).setVm hW'.alike, X.tail, State.WarmedH.trans X.warmed hW', X.limits, X.bytes, X.same.trans (hsame.setVm s.vm)⟩,
      ⟨g, mk, s₂, L, rfl, rfl, hqc, rfl, hL, rfl, rfl⟩, ?_⟩
    show Steps p.tables e below _ ((({ U with heap := s₂.heap, slotsUsed := s₂.slotsUsed } : State).setVm s₂.vm).setTop { g with pc := g.pc + len₂, stack := v.toList ++ g.stack })
    rw [← hs₂]
    exact hsteps
  · obtain ⟨e2, q2, q3, q4, q5, q6⟩ := id hsm
    have e3 : s₂ = ({ (U.calling g mk a).setFrames s₂.frames with heap := s₂.heap, slotsUsed := s₂.slotsUsed } : State).setVm s₂.vm := by
      have : s₂ = ({ s₂ with vm := (U.calling g mk a).vm } : State).setVm s₂.vm := rfl
      rw [e2] at this
      exact this
    have hf₂ : s₂.frames = .throwing q :: .java g :: U.frames.tail := hend
    have hW' : U.WarmedH s₂.vm := hW₂
    have hs₂ : s₂ = ((({ U with heap := s₂.heap, slotsUsed := s₂.slotsUsed } : State).setVm s₂.vm).setTop g).pushFrame (.throwing q) := by
      refine e3.trans ?_
      rw [hf₂, State.calling_eq h.top, State.setFrames_setFrames, State.pushFrame, State.frames_setTop _ hr', State.setTop_of_frames _ hr', State.setFrames_setFrames, hr]
      rfl
    have hsame : U.sameButNew ({ U with heap := s₂.heap, slotsUsed := s₂.slotsUsed } : State) L mc ms := by
      refine ⟨?_, q2, q3, q4, q5, q6⟩
      obtain ⟨t, ht, -⟩ := State.frames_cons hr
      show ({ U with heap := s₂.heap, slotsUsed := s₂.slotsUsed } : State) = { U.setFrames U.frames with heap := s₂.heap, slotsUsed := s₂.slotsUsed }
      rw [State.setFrames_self ht]
    subst hg
    refine Or.inr ⟨q, ⟨(({ U with heap := s₂.heap, slotsUsed := s₂.slotsUsed } : State).setVm s₂.vm), Ls ++ L, c0 + mc, s0 + ms⟩,
      ⟨X.admits, X.cas, X.clock, X.frames, X.room, X.hears, X.method, X.code, (X.here.setHeapUsed s₂.heap s₂.slotsUsed).setVm hW'.alike, X.tail, State.WarmedH.trans X.warmed hW', X.limits, X.bytes, X.same.trans (hsame.setVm s.vm)⟩,
      ⟨g, mk, s₂, L, E, ce, rfl, rfl, hx, hce, hcv, hcl, rfl, hL, rfl, rfl⟩, ?_⟩
    show Steps p.tables e below _ (((({ U with heap := s₂.heap, slotsUsed := s₂.slotsUsed } : State).setVm s₂.vm).setTop g).pushFrame (.throwing q))
    rw [← hs₂]
    exact hsteps
end Payer
section Calls
variable {p : Program} {l : Launch} {e : Env} {R : Room} {s : State} {m : MethodId} {args : Array Value} {below : List Frame} {meth : Method} {c : Code} {T : State} {locs : List Loc} {cells slots : Nat}
theorem vx_callV (X : Stand p l e R s m args below meth c T locs cells slots) (hexec : p.tables.exec = Jvm.exec) {own C : String} {index : Nat} {y : MethodName} {bytes : ByteArray} {maxL : Nat} {ret : Option FieldType}
    (hown : s.vm.findClass own = some m.cls) (hlink : (Cond.methodLink own index y).before args s = true) (hinst : (Cond.instanceMethod y).before args s = true) (hsel : (Cond.selects C y y).before args s = true)
    (hcode : (Cond.code y bytes maxL ret).before args s = true) (hy : y.cls ≠ "java/lang/invoke/MethodHandle" ∧ y.cls ≠ "java/lang/invoke/VarHandle")
    {W9 : Nat} {Pre : Pt → Array Value → Prop} {Post : Pt → Array Value → Option Value → Pt → Prop} {PostX : Pt → Array Value → Addr → Pt → Prop} (hK : vx_Back l R p e below s args y 3 W9 Pre Post PostX)
    {b : Addr} {cellB : Cell} (hcell : T.heap[b]? = some cellB) (hobj : cellB.vm.isStatics = false) (hcls : s.vm.findClass C = some cellB.cls)
    {g : JFrame} (hg : g.method = m) (hsize : g.locals.size = c.maxLocals) {argsL rest : List Value} (hlen : ∀ sig, parseMethodDescriptor y.desc = some sig → argsL.length = sig.parameters.length)
    (hstack : g.stack = argsL.reverse ++ .ref b :: rest) (hW : 2 * g.monitorRoom + (rest.map fun v => v.category).sum ≤ W9) (hdg : decode c.code g.pc = .ok (.invokevirtual index, 3))
    (hpre : ∀ vm₁, s.WarmedH vm₁ → Pre ⟨T.setVm vm₁, locs, cells, slots⟩ (Value.ref b :: argsL).toArray) :
    (∃ (v : Option Value) (vm₁ : Vm) (B : Pt), s.WarmedH vm₁ ∧ Stand p l e R s m args below meth c B.U B.locs B.cells B.slots ∧ Post ⟨T.setVm vm₁, locs, cells, slots⟩ (Value.ref b :: argsL).toArray v B ∧
      ∀ target, Steps p.tables e below (B.U.setTop { g with pc := g.pc + 3, stack := v.toList ++ rest }) target → Steps p.tables e below (T.setTop g) target) ∨
    (∃ (q : Addr) (vm₁ : Vm) (B : Pt), s.WarmedH vm₁ ∧ Stand p l e R s m args below meth c B.U B.locs B.cells B.slots ∧ PostX ⟨T.setVm vm₁, locs, cells, slots⟩ (Value.ref b :: argsL).toArray q B ∧
      Steps p.tables e below (T.setTop g) ((B.U.setTop { g with stack := rest }).pushFrame (.throwing q))) := by
  obtain ⟨mk, methM, hnamed, hmethM, hstM, habM⟩ := Cond.instanceMethod_spec hinst
  obtain ⟨methM', cM, hmethM', -, -, -, -, -, -, hsigM⟩ := Cond.code_spec hnamed hcode
  cases hmethM.symm.trans hmethM'
  obtain ⟨c2, r2, m2, q1, q2, q3, q4, kP, hkP, hkPi⟩ := Cond.selects_spec hsel
  cases hcls.symm.trans q1
  cases (State.methodFound?_of_named hnamed hy).symm.trans q2
  cases hnamed.symm.trans q3
  have hselP : selectMethod e.platform s.vm cellB.cls mk = .method mk := by rw [Launch.admits_selectMethod X.admits]; exact q4
  obtain ⟨vm₁, X₁, hstep₁⟩ := X.invokevirtual hexec hown hlink hnamed hmethM hstM hkP hkPi hy (a := b) (cell := cellB) hcell
    (fun z h => by rw [h] at hobj; cases hobj) hselP hmethM habM hkP hkPi (g := g) hg (argsL := argsL) (rest := rest) (hlen _ hsigM) hstack hdg
  rcases hK m meth c ⟨T.setVm vm₁, locs, cells, slots⟩ { g with stack := rest } (.invokevirtual index) mk (Value.ref b :: argsL).toArray X₁ hg hsize hdg hW (X₁.named hnamed) (hpre vm₁ X₁.warmed) with ⟨v, B, X', hpost, hsteps⟩ | ⟨q, B, X', hpost, hsteps⟩
  · exact Or.inl ⟨v, vm₁, B, X₁.warmed, X', hpost, fun target h => hstep₁ _ fun acts => by rw [doInvoke_state]; exact hsteps.trans h⟩
  · exact Or.inr ⟨q, vm₁, B, X₁.warmed, X', hpost, hstep₁ _ fun acts => by rw [doInvoke_state]; exact hsteps⟩
theorem vx_callS (X : Stand p l e R s m args below meth c T locs cells slots) (hexec : p.tables.exec = Jvm.exec) {own : String} {index : Nat} {y : MethodName} {bytes : ByteArray} {maxL : Nat} {ret : Option FieldType}
    (hown : s.vm.findClass own = some m.cls) (hlink : (Cond.methodLink own index y).before args s = true) (hstat : (Cond.static y).before args s = true) (hinit : (Cond.initialized y.cls).before args s = true)
    (hcode : (Cond.code y bytes maxL ret).before args s = true) (hy : y.cls ≠ "java/lang/invoke/MethodHandle" ∧ y.cls ≠ "java/lang/invoke/VarHandle")
    {W9 : Nat} {Pre : Pt → Array Value → Prop} {Post : Pt → Array Value → Option Value → Pt → Prop} {PostX : Pt → Array Value → Addr → Pt → Prop} (hK : vx_Back l R p e below s args y 3 W9 Pre Post PostX)
    {g : JFrame} (hg : g.method = m) (hsize : g.locals.size = c.maxLocals) {argsL rest : List Value} (hlen : ∀ sig, parseMethodDescriptor y.desc = some sig → argsL.length = sig.parameters.length)
    (hstack : g.stack = argsL.reverse ++ rest) (hW : 2 * g.monitorRoom + (rest.map fun v => v.category).sum ≤ W9) (hdg : decode c.code g.pc = .ok (.invokestatic index, 3))
    (hpre : ∀ vm₁, s.WarmedH vm₁ → Pre ⟨T.setVm vm₁, locs, cells, slots⟩ argsL.toArray) :
    (∃ (v : Option Value) (vm₁ : Vm) (B : Pt), s.WarmedH vm₁ ∧ Stand p l e R s m args below meth c B.U B.locs B.cells B.slots ∧ Post ⟨T.setVm vm₁, locs, cells, slots⟩ argsL.toArray v B ∧
      ∀ target, Steps p.tables e below (B.U.setTop { g with pc := g.pc + 3, stack := v.toList ++ rest }) target → Steps p.tables e below (T.setTop g) target) ∨
    (∃ (q : Addr) (vm₁ : Vm) (B : Pt), s.WarmedH vm₁ ∧ Stand p l e R s m args below meth c B.U B.locs B.cells B.slots ∧ PostX ⟨T.setVm vm₁, locs, cells, slots⟩ argsL.toArray q B ∧
      Steps p.tables e below (T.setTop g) ((B.U.setTop { g with stack := rest }).pushFrame (.throwing q))) := by
  obtain ⟨mk, hnamed⟩ := Cond.code_named hcode
  obtain ⟨methM, cM, hmethM, -, -, -, -, -, -, hsigM⟩ := Cond.code_spec hnamed hcode
  have hstatic : methM.isStatic = true := Cond.static_spec hnamed hmethM hstat
  obtain ⟨kP, hkP, -⟩ := className_of_methodNamed hnamed
  have hinitP : kP.init = .initialized := Cond.initialized_spec (findClass_of_methodNamed hnamed) hkP hinit
  obtain ⟨vm₁, X₁, hstep₁⟩ := X.invokestatic hexec hown hlink hnamed hmethM hstatic hkP hinitP hy (g := g) hg (argsL := argsL) (rest := rest) (hlen _ hsigM) hstack hdg
  rcases hK m meth c ⟨T.setVm vm₁, locs, cells, slots⟩ { g with stack := rest } (.invokestatic index) mk argsL.toArray X₁ hg hsize hdg hW (X₁.named hnamed) (hpre vm₁ X₁.warmed) with ⟨v, B, X', hpost, hsteps⟩ | ⟨q, B, X', hpost, hsteps⟩
  · exact Or.inl ⟨v, vm₁, B, X₁.warmed, X', hpost, fun target h => hstep₁ _ fun acts => by rw [doInvoke_state]; exact hsteps.trans h⟩
  · exact Or.inr ⟨q, vm₁, B, X₁.warmed, X', hpost, hstep₁ _ fun acts => by rw [doInvoke_state]; exact hsteps⟩
end Calls
theorem vx_cls {s : State} {T : State} {vm₁ : Vm} {E : String} {k : ClassId} (hW : s.WarmedH vm₁) (h : (T.setVm vm₁).vm.findClass E = some k) : s.vm.findClass E = some k := by
  have h1 : vm₁.findClass E = some k := h
  rw [hW.alike.findClass] at h1
  exact h1
/-- the method's frame g, with q thrown over it -/
def vx_W (p : Program) (l : Launch) (e : Env) (R : Room) (s : State) (m : MethodId) (args : Array Value) (below : List Frame) (meth : Method) (c : Code) (H : Heap) (locs : List Loc) (cells slots : Nat) (Q : State → Prop) (g : JFrame) (q : Addr) : Prop :=
  ∀ T : State, T.heap = H → Stand p l e R s m args below meth c T locs cells slots → ∃ t, Steps p.tables e below ((T.setTop g).pushFrame (.throwing q)) t ∧ Q t
def vx_Run (p : Program) (l : Launch) (e : Env) (R : Room) (s : State) (m : MethodId) (args : Array Value) (below : List Frame) (meth : Method) (c : Code) (H : Heap) (locs : List Loc) (cells slots mc ms : Nat) (g : JFrame) (rest : List Value) (Qa : State → Outcome → State → Prop) (XC : String → State → State → Prop) (free : Addr → Prop) : Prop :=
  ∀ T : State, T.heap = H → Stand p l e R s m args below meth c T locs cells slots →
    (∃ (v : Option Value) (st₀ t T' : State) (L : List Loc), st₀.heap = H ∧ Stand p l e R s m args below meth c T' (locs ++ L) (cells + mc) (slots + ms) ∧ (∀ q ∈ L, free q.base) ∧ T'.heap = t.heap ∧ T'.vm = t.vm ∧ Qa st₀ (.returned v) t ∧
      Goes p e below T g T' { g with pc := g.pc + 3, stack := v.toList ++ rest }) ∨
    (∃ (q : Addr) (st₀ t T' : State) (L : List Loc) (E : String) (ce : Cell), st₀.heap = H ∧ Stand p l e R s m args below meth c T' (locs ++ L) (cells + mc) (slots + ms) ∧ (∀ z ∈ L, free z.base) ∧ T'.heap = t.heap ∧ T'.vm = t.vm ∧ XC E st₀ t ∧ t.heap[q]? = some ce ∧ ce.vm = .none ∧ s.vm.findClass E = some ce.cls ∧
      Steps p.tables e below (T.setTop g) ((T'.setTop { g with stack := rest }).pushFrame (.throwing q)))
def vx_X {S : Type} (px : S → Prop) (B : String → S → State → Prop) (A : Nat → Prop) : String → State → State → Prop := fun E st t => ∃ u : S, px u ∧ B E u t ∧ va_F A st t
section Runs
variable {p : Program} {l : Launch} {e : Env} {R : Room} {s : State} {m : MethodId} {args : Array Value} {below : List Frame} {meth : Method} {c : Code} {H : Heap} {locs : List Loc} {cells slots : Nat}
variable {y : MethodName} {bytes cc : ByteArray} {maxL nL mc ms n index : Nat} {ret : Option FieldType} {ws : List Cond} {rm : Room} {Pc : Array Value → State → Prop} {Qc : Array Value → State → Outcome → State → Prop} {XC : String → State → State → Prop} {free : Addr → Prop} {Ts : List Cond} {own C : String} {b : Addr} {As rest : List Value} {g : JFrame}
theorem vx_callBack (cb : CallB R s args own index y bytes maxL ret ws rm mc ms n) (hM : vx_Met l y ws rm Pc Qc XC mc ms free) (hbl : FrameBlind Pc) : vx_Back l R p e below s args y 3 8 (PreOf R mc ms Pc) (PostOf Qc mc ms free) (vx_Post XC mc ms free) := by
  obtain ⟨hrc, hrs, hfr, hlo, hws, hcw, -, hini, -⟩ := cb
  exact vx_back (bytes := bytes) (maxL := maxL) (ret := ret) hM hbl hrc hrs hfr hlo hws hcw (fun a' U hW => word_at hW (Or.inl (by first | rfl | simp [Cond.onTables, Cond.keeps, Cond.steady])) hini)
theorem vx_runV (S : CallFix p m c cc nL s args Ts own) (hM : vx_Met l y ws rm Pc Qc XC mc ms free) (cw : CallW R s args own C index y bytes maxL ret ws rm mc ms n) (hp : PreV s H C b Pc As)
    (hg : g.method = m) (hn : As.length = n) (hsize : g.locals.size = nL) (hstack : g.stack = As.reverse ++ .ref b :: rest) (hW : 2 * g.monitorRoom + (rest.map fun v => v.category).sum ≤ 8) (hdg : decode cc g.pc = .ok (.invokevirtual index, 3)) (hf : cells + mc ≤ R.cells ∧ slots + ms ≤ R.slots) :
    vx_Run p l e R s m args below meth c H locs cells slots mc ms g rest (Qc (Value.ref b :: As).toArray) XC free := by
  have hK : vx_Back l R p e below s args y 3 8 (PreOf R mc ms Pc) (PostOf Qc mc ms free) (vx_Post XC mc ms free) := vx_callBack cw.1 hM hp.1
  obtain ⟨⟨-, -, -, -, -, -, hcode, -, hy, hlen, hl⟩, hin, hse⟩ := cw
  obtain ⟨hx, hb, hml, ho, -⟩ := S
  obtain ⟨-, ⟨cellB, hcB, hoB, hclB⟩, hPc⟩ := hp
  intro T hT X
  rcases vx_callV X hx (C := C) (bytes := bytes) (maxL := maxL) (ret := ret) ho hl hin hse hcode hy hK (by rw [hT]; exact hcB) hoB hclB hg (hsize.trans hml.symm) (argsL := As) (rest := rest) (fun sig h => hn.trans (hlen sig h)) hstack hW (by rw [hb]; exact hdg)
    (fun vm₁ hW₁ => ⟨hf.1, hf.2, hPc (T.setVm vm₁) hT hW₁⟩) with ⟨v, vm₁, ⟨U', l2, c2, s2⟩, hW₁, X', ⟨g', mk, t, L, e1, e2, hq, h1, hL, h2, h3⟩, st⟩ | ⟨q, vm₁, ⟨U', l2, c2, s2⟩, hW₁, X', ⟨g', mk, t, L, E, ce, e1, e2, hq, hce, hcv, hcl, h1, hL, h2, h3⟩, st⟩
  · dsimp only [Pt.U, Pt.locs, Pt.cells, Pt.slots] at X' e1 e2 h1 h2 h3 st
    subst h1; subst h2; subst h3
    exact Or.inl ⟨v, (T.setVm vm₁).calling g' mk (Value.ref b :: As).toArray, t, U', L, hT, X', hL, e1, e2, hq, st⟩
  · dsimp only [Pt.U, Pt.locs, Pt.cells, Pt.slots] at X' e1 e2 h1 h2 h3 st hcl
    subst h1; subst h2; subst h3
    exact Or.inr ⟨q, (T.setVm vm₁).calling g' mk (Value.ref b :: As).toArray, t, U', L, E, ce, hT, X', hL, e1, e2, hq, hce, hcv, vx_cls hW₁ hcl, st⟩
theorem vx_runS (S : CallFix p m c cc nL s args Ts own) (hM : vx_Met l y ws rm Pc Qc XC mc ms free) (cw : CallB R s args own index y bytes maxL ret ws rm mc ms n ∧ (Cond.static y).before args s = true) (hp : PreS s H Pc As)
    (hg : g.method = m) (hn : As.length = n) (hsize : g.locals.size = nL) (hstack : g.stack = As.reverse ++ rest) (hW : 2 * g.monitorRoom + (rest.map fun v => v.category).sum ≤ 8) (hdg : decode cc g.pc = .ok (.invokestatic index, 3)) (hf : cells + mc ≤ R.cells ∧ slots + ms ≤ R.slots) :
    vx_Run p l e R s m args below meth c H locs cells slots mc ms g rest (Qc As.toArray) XC free := by
  have hK : vx_Back l R p e below s args y 3 8 (PreOf R mc ms Pc) (PostOf Qc mc ms free) (vx_Post XC mc ms free) := vx_callBack cw.1 hM hp.1
  obtain ⟨⟨-, -, -, -, -, -, hcode, hini, hy, hlen, hl⟩, hstt⟩ := cw
  obtain ⟨hx, hb, hml, ho, -⟩ := S
  intro T hT X
  rcases vx_callS X hx (bytes := bytes) (maxL := maxL) (ret := ret) ho hl hstt hini hcode hy hK hg (hsize.trans hml.symm) (argsL := As) (rest := rest) (fun sig h => hn.trans (hlen sig h)) hstack hW (by rw [hb]; exact hdg)
    (fun vm₁ hW₁ => ⟨hf.1, hf.2, hp.2 (T.setVm vm₁) hT hW₁⟩) with ⟨v, vm₁, ⟨U', l2, c2, s2⟩, hW₁, X', ⟨g', mk, t, L, e1, e2, hq, h1, hL, h2, h3⟩, st⟩ | ⟨q, vm₁, ⟨U', l2, c2, s2⟩, hW₁, X', ⟨g', mk, t, L, E, ce, e1, e2, hq, hce, hcv, hcl, h1, hL, h2, h3⟩, st⟩
  · dsimp only [Pt.U, Pt.locs, Pt.cells, Pt.slots] at X' e1 e2 h1 h2 h3 st
    subst h1; subst h2; subst h3
    exact Or.inl ⟨v, (T.setVm vm₁).calling g' mk As.toArray, t, U', L, hT, X', hL, e1, e2, hq, st⟩
  · dsimp only [Pt.U, Pt.locs, Pt.cells, Pt.slots] at X' e1 e2 h1 h2 h3 st hcl
    subst h1; subst h2; subst h3
    exact Or.inr ⟨q, (T.setVm vm₁).calling g' mk As.toArray, t, U', L, E, ce, hT, X', hL, e1, e2, hq, hce, hcv, vx_cls hW₁ hcl, st⟩
end Runs
section Rows
variable {p : Program} {l : Launch} {e : Env} {R : Room} {s : State} {m : MethodId} {args : Array Value} {below : List Frame} {meth : Method} {c : Code} {H : Heap} {locs : List Loc} {cells slots : Nat} {Q : State → Prop}
variable {mc ms : Nat} {free : Addr → Prop} {A0 A1 : Nat → Prop} {H0 : Heap} {a : Array Value} {pc : Nat} {ls : Array Slot} {st0 rest : List Value}
theorem vx_keep {st₀ t T' : State} {L : List Loc} (h0 : st₀.heap = H) (e1 : T'.heap = t.heap) (hS : va_S A0 H0 H locs) (hA : ∀ q, q < H.size → A1 q → A0 q) (hf : ∀ q, free q → A0 q) (hL : ∀ q ∈ L, free q.base) (hF : va_F A1 st₀ t) :
    H.size ≤ T'.heap.size ∧ (∀ q : Nat, q < H.size → ¬ A1 q → T'.heap[q]? = H[q]?) ∧ va_S A0 H0 T'.heap (locs ++ L) := by
  obtain ⟨hz, hk⟩ := hF
  rw [h0] at hz hk
  exact ⟨by rw [e1]; exact hz, fun q h1 h2 => by rw [e1]; exact hk q h1 h2,
    ⟨Nat.le_trans hS.1 (by rw [e1]; exact hz), fun q h1 h2 => by rw [e1, hk q (Nat.lt_of_lt_of_le h1 hS.1) (fun z => h2 (hA q (Nat.lt_of_lt_of_le h1 hS.1) z))]; exact hS.2.1 q h1 h2, fun q hq => by
      rcases List.mem_append.mp hq with h | h
      · exact hS.2.2 q h
      · exact hf _ (hL q h)⟩⟩
theorem vx_calli {S SX : Type} {post : Int32 → S → Prop} {px : SX → Prop} {B : S → State → Prop} {BX : String → SX → State → Prop} {AX : Nat → Prop} (hr : vx_Run p l e R s m args below meth c H locs cells slots mc ms (F0 m pc ls st0) rest (va_Qi post B A1 a) (vx_X px BX AX) free) (hS : va_S A0 H0 H locs) (hA : ∀ q, q < H.size → A1 q → A0 q) (hf : ∀ q, free q → A0 q) (hAX : ∀ q, q < H.size → AX q → A0 q)
    (kx : ∀ (E : String) (ce : Cell) (q9 : Addr) (u : SX) (t : State) (H1 : Heap) (locs1 : List Loc), t.heap = H1 → s.vm.Alike t.vm → px u → BX E u t → H.size ≤ H1.size → (∀ q : Nat, q < H.size → ¬ AX q → H1[q]? = H[q]?) → va_S A0 H0 H1 locs1 → H1[q9]? = some ce → ce.vm = .none → s.vm.findClass E = some ce.cls → vx_W p l e R s m args below meth c H1 locs1 (cells + mc) (slots + ms) Q (F0 m pc ls rest) q9)
    (kk : ∀ (r : Int32) (u : S) (t : State) (H1 : Heap) (locs1 : List Loc), t.heap = H1 → s.vm.Alike t.vm → post r u → B u t → H.size ≤ H1.size → (∀ q : Nat, q < H.size → ¬ A1 q → H1[q]? = H[q]?) → va_S A0 H0 H1 locs1 → W p l e R s m args below meth c H1 locs1 (cells + mc) (slots + ms) Q (F0 m (pc + 3) ls (.int r :: rest))) : W p l e R s m args below meth c H locs cells slots Q (F0 m pc ls st0) := by
  intro T hT X
  rcases hr T hT X with ⟨v, st₀, t, T', L, h0, X', hL, e1, e2, ⟨⟨r, u, hv, hp, hb⟩, hF⟩, st⟩ | ⟨q, st₀, t, T', L, E, ce, h0, X', hL, e1, e2, ⟨u, hp, hb, hF⟩, hce, hcv, hcl, st⟩
  · cases hv
    obtain ⟨k1, k2, k3⟩ := vx_keep h0 e1 hS hA hf hL hF
    obtain ⟨t2, a1, b1⟩ := kk r u t T'.heap (locs ++ L) e1.symm (by rw [← e2]; exact X'.warmed.alike) hp hb k1 k2 k3 T' rfl X'
    exact ⟨t2, st t2 a1, b1⟩
  · obtain ⟨k1, k2, k3⟩ := vx_keep h0 e1 hS hAX hf hL hF
    obtain ⟨t2, a1, b1⟩ := kx E ce q u t T'.heap (locs ++ L) e1.symm (by rw [← e2]; exact X'.warmed.alike) hp hb k1 k2 k3 (by rw [e1]; exact hce) hcv hcl T' rfl X'
    exact ⟨t2, st.trans a1, b1⟩
theorem vx_calll {S SX : Type} {post : Int64 → S → Prop} {px : SX → Prop} {B : S → State → Prop} {BX : String → SX → State → Prop} {AX : Nat → Prop} (hr : vx_Run p l e R s m args below meth c H locs cells slots mc ms (F0 m pc ls st0) rest (va_Ql post B A1 a) (vx_X px BX AX) free) (hS : va_S A0 H0 H locs) (hA : ∀ q, q < H.size → A1 q → A0 q) (hf : ∀ q, free q → A0 q) (hAX : ∀ q, q < H.size → AX q → A0 q)
    (kx : ∀ (E : String) (ce : Cell) (q9 : Addr) (u : SX) (t : State) (H1 : Heap) (locs1 : List Loc), t.heap = H1 → s.vm.Alike t.vm → px u → BX E u t → H.size ≤ H1.size → (∀ q : Nat, q < H.size → ¬ AX q → H1[q]? = H[q]?) → va_S A0 H0 H1 locs1 → H1[q9]? = some ce → ce.vm = .none → s.vm.findClass E = some ce.cls → vx_W p l e R s m args below meth c H1 locs1 (cells + mc) (slots + ms) Q (F0 m pc ls rest) q9)
    (kk : ∀ (r : Int64) (u : S) (t : State) (H1 : Heap) (locs1 : List Loc), t.heap = H1 → s.vm.Alike t.vm → post r u → B u t → H.size ≤ H1.size → (∀ q : Nat, q < H.size → ¬ A1 q → H1[q]? = H[q]?) → va_S A0 H0 H1 locs1 → W p l e R s m args below meth c H1 locs1 (cells + mc) (slots + ms) Q (F0 m (pc + 3) ls (.long r :: rest))) : W p l e R s m args below meth c H locs cells slots Q (F0 m pc ls st0) := by
  intro T hT X
  rcases hr T hT X with ⟨v, st₀, t, T', L, h0, X', hL, e1, e2, ⟨⟨r, u, hv, hp, hb⟩, hF⟩, st⟩ | ⟨q, st₀, t, T', L, E, ce, h0, X', hL, e1, e2, ⟨u, hp, hb, hF⟩, hce, hcv, hcl, st⟩
  · cases hv
    obtain ⟨k1, k2, k3⟩ := vx_keep h0 e1 hS hA hf hL hF
    obtain ⟨t2, a1, b1⟩ := kk r u t T'.heap (locs ++ L) e1.symm (by rw [← e2]; exact X'.warmed.alike) hp hb k1 k2 k3 T' rfl X'
    exact ⟨t2, st t2 a1, b1⟩
  · obtain ⟨k1, k2, k3⟩ := vx_keep h0 e1 hS hAX hf hL hF
    obtain ⟨t2, a1, b1⟩ := kx E ce q u t T'.heap (locs ++ L) e1.symm (by rw [← e2]; exact X'.warmed.alike) hp hb k1 k2 k3 (by rw [e1]; exact hce) hcv hcl T' rfl X'
    exact ⟨t2, st.trans a1, b1⟩
theorem vx_callf {S SX : Type} {post : UInt32 → S → Prop} {px : SX → Prop} {B : S → State → Prop} {BX : String → SX → State → Prop} {AX : Nat → Prop} (hr : vx_Run p l e R s m args below meth c H locs cells slots mc ms (F0 m pc ls st0) rest (va_Qf post B A1 a) (vx_X px BX AX) free) (hS : va_S A0 H0 H locs) (hA : ∀ q, q < H.size → A1 q → A0 q) (hf : ∀ q, free q → A0 q) (hAX : ∀ q, q < H.size → AX q → A0 q)
    (kx : ∀ (E : String) (ce : Cell) (q9 : Addr) (u : SX) (t : State) (H1 : Heap) (locs1 : List Loc), t.heap = H1 → s.vm.Alike t.vm → px u → BX E u t → H.size ≤ H1.size → (∀ q : Nat, q < H.size → ¬ AX q → H1[q]? = H[q]?) → va_S A0 H0 H1 locs1 → H1[q9]? = some ce → ce.vm = .none → s.vm.findClass E = some ce.cls → vx_W p l e R s m args below meth c H1 locs1 (cells + mc) (slots + ms) Q (F0 m pc ls rest) q9)
    (kk : ∀ (r : UInt32) (u : S) (t : State) (H1 : Heap) (locs1 : List Loc), t.heap = H1 → s.vm.Alike t.vm → post r u → B u t → H.size ≤ H1.size → (∀ q : Nat, q < H.size → ¬ A1 q → H1[q]? = H[q]?) → va_S A0 H0 H1 locs1 → W p l e R s m args below meth c H1 locs1 (cells + mc) (slots + ms) Q (F0 m (pc + 3) ls (.float r :: rest))) : W p l e R s m args below meth c H locs cells slots Q (F0 m pc ls st0) := by
  intro T hT X
  rcases hr T hT X with ⟨v, st₀, t, T', L, h0, X', hL, e1, e2, ⟨⟨r, u, hv, hp, hb⟩, hF⟩, st⟩ | ⟨q, st₀, t, T', L, E, ce, h0, X', hL, e1, e2, ⟨u, hp, hb, hF⟩, hce, hcv, hcl, st⟩
  · cases hv
    obtain ⟨k1, k2, k3⟩ := vx_keep h0 e1 hS hA hf hL hF
    obtain ⟨t2, a1, b1⟩ := kk r u t T'.heap (locs ++ L) e1.symm (by rw [← e2]; exact X'.warmed.alike) hp hb k1 k2 k3 T' rfl X'
    exact ⟨t2, st t2 a1, b1⟩
  · obtain ⟨k1, k2, k3⟩ := vx_keep h0 e1 hS hAX hf hL hF
    obtain ⟨t2, a1, b1⟩ := kx E ce q u t T'.heap (locs ++ L) e1.symm (by rw [← e2]; exact X'.warmed.alike) hp hb k1 k2 k3 (by rw [e1]; exact hce) hcv hcl T' rfl X'
    exact ⟨t2, st.trans a1, b1⟩
theorem vx_calld {S SX : Type} {post : UInt64 → S → Prop} {px : SX → Prop} {B : S → State → Prop} {BX : String → SX → State → Prop} {AX : Nat → Prop} (hr : vx_Run p l e R s m args below meth c H locs cells slots mc ms (F0 m pc ls st0) rest (va_Qd post B A1 a) (vx_X px BX AX) free) (hS : va_S A0 H0 H locs) (hA : ∀ q, q < H.size → A1 q → A0 q) (hf : ∀ q, free q → A0 q) (hAX : ∀ q, q < H.size → AX q → A0 q)
    (kx : ∀ (E : String) (ce : Cell) (q9 : Addr) (u : SX) (t : State) (H1 : Heap) (locs1 : List Loc), t.heap = H1 → s.vm.Alike t.vm → px u → BX E u t → H.size ≤ H1.size → (∀ q : Nat, q < H.size → ¬ AX q → H1[q]? = H[q]?) → va_S A0 H0 H1 locs1 → H1[q9]? = some ce → ce.vm = .none → s.vm.findClass E = some ce.cls → vx_W p l e R s m args below meth c H1 locs1 (cells + mc) (slots + ms) Q (F0 m pc ls rest) q9)
    (kk : ∀ (r : UInt64) (u : S) (t : State) (H1 : Heap) (locs1 : List Loc), t.heap = H1 → s.vm.Alike t.vm → post r u → B u t → H.size ≤ H1.size → (∀ q : Nat, q < H.size → ¬ A1 q → H1[q]? = H[q]?) → va_S A0 H0 H1 locs1 → W p l e R s m args below meth c H1 locs1 (cells + mc) (slots + ms) Q (F0 m (pc + 3) ls (.double r :: rest))) : W p l e R s m args below meth c H locs cells slots Q (F0 m pc ls st0) := by
  intro T hT X
  rcases hr T hT X with ⟨v, st₀, t, T', L, h0, X', hL, e1, e2, ⟨⟨r, u, hv, hp, hb⟩, hF⟩, st⟩ | ⟨q, st₀, t, T', L, E, ce, h0, X', hL, e1, e2, ⟨u, hp, hb, hF⟩, hce, hcv, hcl, st⟩
  · cases hv
    obtain ⟨k1, k2, k3⟩ := vx_keep h0 e1 hS hA hf hL hF
    obtain ⟨t2, a1, b1⟩ := kk r u t T'.heap (locs ++ L) e1.symm (by rw [← e2]; exact X'.warmed.alike) hp hb k1 k2 k3 T' rfl X'
    exact ⟨t2, st t2 a1, b1⟩
  · obtain ⟨k1, k2, k3⟩ := vx_keep h0 e1 hS hAX hf hL hF
    obtain ⟨t2, a1, b1⟩ := kx E ce q u t T'.heap (locs ++ L) e1.symm (by rw [← e2]; exact X'.warmed.alike) hp hb k1 k2 k3 (by rw [e1]; exact hce) hcv hcl T' rfl X'
    exact ⟨t2, st.trans a1, b1⟩
theorem vx_callv {S SX : Type} {post : S → Prop} {px : SX → Prop} {B : S → State → Prop} {BX : String → SX → State → Prop} {AX : Nat → Prop} (hr : vx_Run p l e R s m args below meth c H locs cells slots mc ms (F0 m pc ls st0) rest (va_Qv post B A1 a) (vx_X px BX AX) free) (hS : va_S A0 H0 H locs) (hA : ∀ q, q < H.size → A1 q → A0 q) (hf : ∀ q, free q → A0 q) (hAX : ∀ q, q < H.size → AX q → A0 q)
    (kx : ∀ (E : String) (ce : Cell) (q9 : Addr) (u : SX) (t : State) (H1 : Heap) (locs1 : List Loc), t.heap = H1 → s.vm.Alike t.vm → px u → BX E u t → H.size ≤ H1.size → (∀ q : Nat, q < H.size → ¬ AX q → H1[q]? = H[q]?) → va_S A0 H0 H1 locs1 → H1[q9]? = some ce → ce.vm = .none → s.vm.findClass E = some ce.cls → vx_W p l e R s m args below meth c H1 locs1 (cells + mc) (slots + ms) Q (F0 m pc ls rest) q9)
    (kk : ∀ (u : S) (t : State) (H1 : Heap) (locs1 : List Loc), t.heap = H1 → s.vm.Alike t.vm → post u → B u t → H.size ≤ H1.size → (∀ q : Nat, q < H.size → ¬ A1 q → H1[q]? = H[q]?) → va_S A0 H0 H1 locs1 → W p l e R s m args below meth c H1 locs1 (cells + mc) (slots + ms) Q (F0 m (pc + 3) ls (rest))) : W p l e R s m args below meth c H locs cells slots Q (F0 m pc ls st0) := by
  intro T hT X
  rcases hr T hT X with ⟨v, st₀, t, T', L, h0, X', hL, e1, e2, ⟨⟨u, hv, hp, hb⟩, hF⟩, st⟩ | ⟨q, st₀, t, T', L, E, ce, h0, X', hL, e1, e2, ⟨u, hp, hb, hF⟩, hce, hcv, hcl, st⟩
  · cases hv
    obtain ⟨k1, k2, k3⟩ := vx_keep h0 e1 hS hA hf hL hF
    obtain ⟨t2, a1, b1⟩ := kk u t T'.heap (locs ++ L) e1.symm (by rw [← e2]; exact X'.warmed.alike) hp hb k1 k2 k3 T' rfl X'
    exact ⟨t2, st t2 a1, b1⟩
  · obtain ⟨k1, k2, k3⟩ := vx_keep h0 e1 hS hAX hf hL hF
    obtain ⟨t2, a1, b1⟩ := kx E ce q u t T'.heap (locs ++ L) e1.symm (by rw [← e2]; exact X'.warmed.alike) hp hb k1 k2 k3 (by rw [e1]; exact hce) hcv hcl T' rfl X'
    exact ⟨t2, st.trans a1, b1⟩
/-- caught by the row x of this method's table; the rows ahead don't take it -/
theorem vx_catch {own name : String} {E : String} {ce : Cell} {q : Addr} (hown : s.vm.findClass own = some m.cls) (pre : List ExceptionTableEntry) (x : ExceptionTableEntry) (suf : List ExceptionTableEntry) (hsplit : c.exceptionTable.toList = pre ++ x :: suf)
    (hpass : ∀ z ∈ pre, covers z pc = false ∨ (z.catchType ≠ 0 ∧ ∃ nm : String, (Cond.classLink own z.catchType nm).before args s = true ∧ va_Nc E nm s)) (hx : covers x pc = true) (h0 : x.catchType ≠ 0)
    (hlink : (Cond.classLink own x.catchType name).before args s = true) (hcast : (Cond.castable E name).before args s = true) (hcell : H[q]? = some ce) (hv : ce.vm = .none) (hcl : s.vm.findClass E = some ce.cls)
    (kk : W p l e R s m args below meth c H locs cells slots Q (F0 m x.handlerPc ls [.ref q])) : vx_W p l e R s m args below meth c H locs cells slots Q (F0 m pc ls rest) q := by
  intro T hT X
  have hpl : e.platform.magicAccessors = ({} : Platform).magicAccessors := by rw [X.admits.platform]
  obtain ⟨c3, c4, hc3, hc4, hasg⟩ := Cond.castable_spec hcast
  cases Option.some.inj (hc3.symm.trans hcl)
  obtain ⟨c5, hc5, hcl5⟩ := Cond.classLink_spec hown hlink e.platform hpl
  cases Option.some.inj (hc4.symm.trans hc5)
  obtain ⟨vm', X', st⟩ := X.thenCaughtThrough q (g := F0 m pc ls rest) rfl (Steps.refl _) (by rw [hT]; exact hcell) (by rw [hv]; rfl) (by obtain ⟨k9, h9, -⟩ := Vm.findClass_spec hcl; exact ⟨k9, h9⟩) pre x suf hsplit
    (fun z hz => by
      rcases hpass z hz with h | ⟨hz0, nm, hl1, hn1⟩
      · exact Or.inl h
      · obtain ⟨c6, hc6, hcl6⟩ := Cond.classLink_spec hown hl1 e.platform hpl
        obtain ⟨a8, b8, h1, h2, h3⟩ := hn1
        cases Option.some.inj (h1.symm.trans hcl)
        cases Option.some.inj (h2.symm.trans hc6)
        exact Or.inr ⟨hz0, _, hcl6, h3⟩) hx (Or.inr ⟨h0, c4, hcl5, hasg⟩)
  obtain ⟨t, a1, b1⟩ := kk (T.setVm vm') hT X'
  exact ⟨t, st.trans a1, b1⟩
end Rows
section Ends
variable {p : Program} {l : Launch} {e : Env} {R : Room} {s : State} {m : MethodId} {args : Array Value} {below : List Frame} {meth : Method} {c : Code} {H : Heap} {locs : List Loc} {cells slots : Nat} {Q : State → Prop}
variable {mc ms : Nat} {free : Addr → Prop} {A0 A1 : Nat → Prop} {H0 : Heap} {a : Array Value} {ls : Array Slot} {st0 rest : List Value}
variable {Qc : Array Value → State → Outcome → State → Prop} {XC : String → State → State → Prop}
/-- what a body that may throw owes at its end -/
def vx_MQ (below : List Frame) (Qc : Array Value → State → Outcome → State → Prop) (XC : String → State → State → Prop) (a : Array Value) (s : State) (mc ms : Nat) (free : Addr → Prop) : State → Prop := fun t =>
  ∃ o, t.status = .running ∧ Ended t below o ∧ vx_Q Qc XC mc ms free a s o t
theorem vx_ret {g : JFrame} {mc ms : Nat} (k : W p l e R s m args below meth c H locs cells slots (MQ below Qc args s mc ms free) g) : W p l e R s m args below meth c H locs cells slots (vx_MQ below Qc XC args s mc ms free) g := by
  intro T hT X
  obtain ⟨t, a1, o, b1, b2, b3, b4⟩ := k T hT X
  exact ⟨t, a1, o, b1, b2, Or.inl ⟨b3, b4⟩⟩
/-- not caught here: it goes on to the caller -/
theorem vx_widen {g : JFrame} {q : Addr} {k n : Nat} (h1 : cells ≤ k) (h2 : slots ≤ n) (kk : vx_W p l e R s m args below meth c H locs k n Q g q) : vx_W p l e R s m args below meth c H locs cells slots Q g q := fun T hT X => kk T hT (stand_widen X h1 h2)
theorem vx_out {pc : Nat} {E : String} {ce : Cell} {q : Addr} {mc ms : Nat} (hout : ∀ x ∈ c.exceptionTable.toList, covers x pc = false) (hlocks : meth.locks = false) (hcell : H[q]? = some ce) (hv : ce.vm = .none) (hcl : s.vm.findClass E = some ce.cls)
    (hx : ∀ t : State, t.heap = H → s.vm.Alike t.vm → XC E s t) (hf : ∀ z ∈ locs, free z.base) (hc : cells ≤ mc) (hs : slots ≤ ms) :
    vx_W p l e R s m args below meth c H locs cells slots (vx_MQ below Qc XC args s mc ms free) (F0 m pc ls rest) q := by
  intro T hT X
  obtain ⟨st1, hrun, hend, hW, hsm⟩ := X.leaveThrown q (g := F0 m pc ls rest) rfl rfl rfl hout hlocks
  have hcell9 : (T.setFrames (.throwing q :: below)).heap[q]? = some ce := by
    show T.heap[q]? = some ce
    rw [hT]; exact hcell
  exact ⟨_, st1, .threw q, hrun, hend, Or.inr ⟨q, rfl, E, ce, locs, hx _ hT hW.alike, hcell9, hv, hcl, hW, hsm.mono hc hs, hf⟩⟩
theorem vx_frame {U : State} {k n : Nat} (h : s.sameButNew ({ U with vm := s.vm } : State) locs k n) : s.heap.size ≤ U.heap.size ∧ ∀ q : Nat, q < s.heap.size → (∀ z ∈ locs, z.base ≠ q) → U.heap[q]? = s.heap[q]? := by
  obtain ⟨-, h2, -, -, -, h6⟩ := h
  refine ⟨h2, fun q hq hz => ?_⟩
  obtain ⟨c9, e1, e2, e3, e4⟩ := h6 q _ (Array.getElem?_eq_getElem hq)
  have hs : c9.slots = (s.heap[q]).slots := Array.ext_getElem? fun i => e4 i fun hm => hz _ hm rfl
  have h9 : c9 = s.heap[q] := by
    rw [hs] at e2
    exact e2
  have e5 : U.heap[q]? = some c9 := e1
  rw [e5, h9, Array.getElem?_eq_getElem hq]
/-- the words of a throw but the four that speak of the heap -/
def vx_no (w : Cond) : Bool := decide (w ≠ .isRef (.static Bundle.tN "UNASSIGNED_STACK" Bundle.steD)) && decide (w ≠ .isRef (.static Bundle.tN "SUPPRESSED_SENTINEL" Bundle.listD)) && decide (w ≠ .laysStatic Bundle.tN "UNASSIGNED_STACK" Bundle.steD) && decide (w ≠ .laysStatic Bundle.tN "SUPPRESSED_SENTINEL" Bundle.listD)
def vx_at0 (own : String) (ic : Nat) (X : String) (names : List String) : List Cond := (Bundle.ownAtoms0 own ic X names).filter vx_no
def vx_atS (own : String) (ic : Nat) (X : String) (names : List String) : List Cond := (Bundle.ownAtoms own ic X names).filter vx_no
/-- a word that the tables alone decide, or a good one -/
def vx_ot (w : Cond) : Bool := w.onTables || goodWord w
theorem vx_ot_at {args a' : Array Value} {s U : State} {w : Cond} (hW : s.WarmedH U.vm) (hvm : s.vm = U.vm) (hg : vx_ot w = true) (h : w.before args s = true) : w.before a' U = true := by
  simp only [vx_ot, Bool.or_eq_true] at hg
  rcases hg with hg | hg
  · exact va_tabs hg hvm h
  · exact word_at hW (good_of_word hg) h
/-- a list's words: the good ones out of the method's own list, the others by premises of their own -/
theorem vx_hat {args : Array Value} {s : State} {L B : List Cond} (h1 : ∀ w ∈ L.filter goodWord, w.before args s = true) (h2 : ∀ w ∈ L.filter (fun w => !goodWord w), w ∈ B) (h3 : ∀ w ∈ B, w.before args s = true) : ∀ w ∈ L, w.before args s = true := by
  intro w hw
  by_cases g : goodWord w = true
  · exact h1 w (List.mem_filter.mpr ⟨hw, g⟩)
  · refine h3 w (h2 w (List.mem_filter.mpr ⟨hw, ?_⟩))
    show (!goodWord w) = true
    cases hgw : goodWord w
    · rfl
    · exact absurd hgw g
theorem vx_c {args : Array Value} {s : State} {w : Cond} {B : List Cond} (h : w.before args s = true) (t : ∀ w ∈ B, w.before args s = true) : ∀ w' ∈ w :: B, w'.before args s = true := fun w' h' => (List.mem_cons.mp h').elim (fun e => by rw [e]; exact h) (t w')
theorem vx_n {args : Array Value} {s : State} : ∀ w ∈ ([] : List Cond), w.before args s = true := fun _ h => nomatch h
theorem vx_own {args : Array Value} {s : State} {L : List Cond} (h1 : ∀ w ∈ L.filter vx_no, w.before args s = true)
    (hU : (Cond.isRef (.static Bundle.tN "UNASSIGNED_STACK" Bundle.steD)).before args s = true) (hN : (Cond.isRef (.static Bundle.tN "SUPPRESSED_SENTINEL" Bundle.listD)).before args s = true)
    (lU : (Cond.laysStatic Bundle.tN "UNASSIGNED_STACK" Bundle.steD).before args s = true) (lN : (Cond.laysStatic Bundle.tN "SUPPRESSED_SENTINEL" Bundle.listD).before args s = true) : ∀ w ∈ L, w.before args s = true := by
  intro w hw
  by_cases e1 : w = .isRef (.static Bundle.tN "UNASSIGNED_STACK" Bundle.steD)
  · rw [e1]; exact hU
  · by_cases e2 : w = .isRef (.static Bundle.tN "SUPPRESSED_SENTINEL" Bundle.listD)
    · rw [e2]; exact hN
    · by_cases e3 : w = .laysStatic Bundle.tN "UNASSIGNED_STACK" Bundle.steD
      · rw [e3]; exact lU
      · by_cases e4 : w = .laysStatic Bundle.tN "SUPPRESSED_SENTINEL" Bundle.listD
        · rw [e4]; exact lN
        · exact h1 w (List.mem_filter.mpr ⟨hw, by unfold vx_no; rw [decide_eq_true e1, decide_eq_true e2, decide_eq_true e3, decide_eq_true e4]; rfl⟩)
/-- where a static field lies, its class's statics cell in H -/
def vx_L (C n d : String) (A : Nat → Prop) (U : State) (H : Heap) : Prop := ∃ (c : ClassId) (k : Class) (i : Nat) (f : Field) (a : Nat) (cell : Cell), U.vm.findClass C = some c ∧ U.fieldFound? C n d = some (c, k, i, f) ∧ f.isStatic = true ∧ k.statics = some a ∧ H[a]? = some cell ∧ cell.vm.isStatics = true ∧ cell.cls = c ∧ f.slot < cell.slots.size ∧ k.staticTypes[f.slot]? = some f.type ∧ ¬ A a
theorem vx_L.moved {C n d : String} {A : Nat → Prop} {u U : State} {H : Heap} (hvm : u.vm.Alike U.vm) (h : vx_L C n d A u H) : vx_L C n d A U H := by
  obtain ⟨c, k, i, f, a, cell, h1, h2, h3, h4, h5, h6, h7, h8, h9, h10⟩ := h
  obtain ⟨k', hi', he⟩ := State.fieldFound?_setVm hvm h2
  exact ⟨c, k', i, f, a, cell, by rw [hvm.findClass]; exact h1, hi', h3, by rw [he]; exact h4, h5, h6, h7, h8, by rw [he]; exact h9, h10⟩
theorem vx_L.kept {C n d : String} {A : Nat → Prop} {U : State} {H H1 : Heap} (h : vx_L C n d A U H) (hq : ∀ a : Nat, a < H.size → ¬ A a → H1[a]? = H[a]?) : vx_L C n d A U H1 := by
  obtain ⟨c, k, i, f, a, cell, h1, h2, h3, h4, h5, h6, h7, h8, h9, h10⟩ := h
  exact ⟨c, k, i, f, a, cell, h1, h2, h3, h4, by rw [hq a (Array.getElem?_eq_some_iff.mp h5).1 h10]; exact h5, h6, h7, h8, h9, h10⟩
theorem vx_L.narrow {C n d : String} {A B : Nat → Prop} {U : State} {H : Heap} (h : vx_L C n d A U H) (hAB : ∀ q, B q → A q) : vx_L C n d B U H := by
  obtain ⟨c, k, i, f, a, cell, h1, h2, h3, h4, h5, h6, h7, h8, h9, h10⟩ := h
  exact ⟨c, k, i, f, a, cell, h1, h2, h3, h4, h5, h6, h7, h8, h9, fun z => h10 (hAB _ z)⟩
theorem vx_L.word {C n d : String} {A : Nat → Prop} {s : State} {args : Array Value} (h : vx_L C n d A s s.heap) : (Cond.laysStatic C n d).before args s = true := by
  obtain ⟨c, k, i, f, a, cell, h1, h2, h3, h4, h5, h6, h7, h8, h9, -⟩ := h
  show (Cond.laysStatic C n d).holds args s none s [] = true
  exact Cond.laysStatic_of h1 h2 h3 h4 h5 h6 h7 h8 h9
/-- .. and what it holds: null or some reference -/
def vx_Zq (C n d : String) (A : Nat → Prop) (U : State) (H : Heap) : Prop := va_Zq C n d A U H ∧ vx_L C n d A U H
theorem vx_Zq.moved {C n d : String} {A : Nat → Prop} {u U : State} {H : Heap} (hvm : u.vm.Alike U.vm) (h : vx_Zq C n d A u H) : vx_Zq C n d A U H := ⟨va_Zq.moved hvm h.1, vx_L.moved hvm h.2⟩
theorem vx_Zq.kept {C n d : String} {A : Nat → Prop} {U : State} {H H1 : Heap} (h : vx_Zq C n d A U H) (hq : ∀ a : Nat, a < H.size → ¬ A a → H1[a]? = H[a]?) : vx_Zq C n d A U H1 := ⟨va_Zq.kept h.1 hq, vx_L.kept h.2 hq⟩
theorem vx_Zq.narrow {C n d : String} {A B : Nat → Prop} {U : State} {H : Heap} (h : vx_Zq C n d A U H) (hAB : ∀ q, B q → A q) : vx_Zq C n d B U H := ⟨va_Zq.narrow h.1 hAB, vx_L.narrow h.2 hAB⟩
theorem vx_Zqof {args : Array Value} {s : State} {C n d : String} {A : Nat → Prop} (hl : (Cond.laysStatic C n d).before args s = true) (hini : (Cond.initialized C).before args s = true) (h : (Cond.isRef (.static C n d)).before args s = true) (hA : ∀ a : Nat, a < s.heap.size → ¬ A a) : vx_Zq C n d A s s.heap := by
  refine ⟨va_Zqof hl hini h hA, ?_⟩
  obtain ⟨c, k, i, f, a, cell, h1, h2, h3, h4, h5, h6, h7, h8, h9⟩ := Cond.laysStatic_spec hl
  exact ⟨c, k, i, f, a, cell, h1, h2, h3, h4, h5, h6, h7, h8, h9, hA a (Array.getElem?_eq_some_iff.mp h5).1⟩
theorem vx_isRef {C n d : String} {v : Value} {A : Nat → Prop} {s : State} {args : Array Value} (h : va_Z C n d v A s s.heap) (hv : v.isRef = true) : (Cond.isRef (.static C n d)).before args s = true := by
  obtain ⟨cf, kf, fi, f, a, cell, h1, h2, h3, h4, h5, h6, h7, -⟩ := h
  have he : (Term.static C n d).eval args s none [] s = some v := by
    simp [Term.eval, State.fieldNamed?, h1, h2, h4, h5, h6, h7]
  simp only [Cond.before, Cond.holds, Cond.value, he]
  cases v <;> simp_all [Value.isRef]
theorem vx_isRefq {C n d : String} {A : Nat → Prop} {s : State} {args : Array Value} (h : va_Zq C n d A s s.heap) : (Cond.isRef (.static C n d)).before args s = true := by
  rcases h with h | ⟨t, h⟩
  · exact vx_isRef h rfl
  · exact vx_isRef h rfl
/-- the same frame, seen from here: as if the method were called anew in this heap -/
theorem vx_rebase {T : State} (X : Stand p l e R s m args below meth c T locs cells slots) {R' : Room} (hf : R'.frames ≤ R.frames) (hl : R'.locals ≤ R.locals) (hc : cells + R'.cells ≤ R.cells) (hs : slots + R'.slots ≤ R.slots) :
    Stand p l e R' ((T.setVm s.vm).setFrames (.invoking m args :: below)) m args below meth c T [] 0 0 := by
  have htop : (T.setVm s.vm).topJava?.isSome := X.here.top
  have hF : ((T.setVm s.vm).setFrames (.invoking m args :: below)).frames = .invoking m args :: below := State.frames_setFrames _ (State.cur_lt_of_top htop)
  obtain ⟨g₀, hg0⟩ := Option.isSome_iff_exists.mp htop
  obtain ⟨r, hr⟩ := State.topJava?_eq_some.mp hg0
  have hl9 : e.platform.stackLimits (T.setVm s.vm).me = e.platform.stackLimits s.me := X.limits
  have hb9 : (T.setVm s.vm).me.stackBytes = s.me.stackBytes := X.bytes
  refine ⟨X.admits, X.cas, X.clock, hF, ?_, X.hears, X.method, X.code, X.here, X.tail, X.warmed, ?_, ?_, ?_⟩
  · have h := X.room
    have hU : ((T.setVm s.vm).setFrames (.invoking m args :: below)).localsInUse = s.localsInUse := by
      rw [State.localsInUse_invoking hF (meth := meth) (c := c) X.method X.code, State.localsInUse_invoking X.frames X.method X.code]
    simp only [State.hasRoom, Bool.and_eq_true, decide_eq_true_eq] at h ⊢
    obtain ⟨⟨⟨⟨h1, h2, h3, h4, h5, h6⟩, h7⟩, h8⟩, h9⟩ := h
    rw [X.frames, List.length_cons] at h2 h3
    have q1 := X.heapSize
    have q2 := X.used
    simp only [hF, hU, List.length_cons, State.stackLimits_setFrames, State.stackBytes_setFrames, hl9, hb9]
    refine ⟨⟨⟨⟨by omega, by omega, by omega, by omega, by omega, h6⟩, ?_⟩, ?_⟩, X.book⟩
    · show T.heap.size + R'.cells ≤ e.platform.maxCells
      omega
    · show T.slotsUsed + R'.slots ≤ e.platform.maxSlots
      omega
  · rw [State.stackLimits_setFrames]; rfl
  · rw [State.stackBytes_setFrames]; rfl
  · refine ⟨?_, Nat.le_refl _, Nat.le_refl _, ?_, ?_, fun a c9 h9 => ⟨c9, h9, rfl, rfl, fun _ _ => rfl⟩⟩
    · obtain ⟨t, ht, -⟩ := State.frames_cons hr
      show T.setVm s.vm = { ((T.setVm s.vm).setFrames (.invoking m args :: below)).setFrames (T.setVm s.vm).frames with heap := T.heap, slotsUsed := T.slotsUsed }
      rw [State.setFrames_setFrames, State.setFrames_self ht]
      rfl
    · show T.slotsUsed = T.slotsUsed + ((T.heap.toList.drop T.heap.size).map (·.slots.size)).sum
      rw [List.drop_eq_nil_of_le (Nat.le_of_eq Array.length_toList)]
      rfl
    · show ((T.heap.toList.drop T.heap.size).map (·.slots.size)).sum ≤ 0
      rw [List.drop_eq_nil_of_le (Nat.le_of_eq Array.length_toList)]
      exact Nat.le_refl _
/-- 'throw new E()': new; dup; invokespecial; athrow -/
theorem vx_throw0 {cc : ByteArray} {pc : Nat} (hexec : p.tables.exec = Jvm.exec) (hb : c.code = cc) (hl : l.stackTraces = false) {own cls : String} {names : List String} {ik ic mc ms : Nat} {A : Nat → Prop}
    (hown : s.vm.findClass own = some m.cls) (hcls : Bundle.fit cls = true) (hnames : ∀ n ∈ names, Bundle.fit n = true)
    (hk : (Cond.classLink own ik cls).before args s = true) (hini : (Cond.initialized cls).before args s = true) (hat : ∀ w ∈ vx_at0 own ic cls names, w.before args s = true)
    (hgood : ∀ w ∈ Cond.classLink own ik cls :: Cond.initialized cls :: vx_at0 own ic cls names, vx_ot w = true)
    (hU : vx_Zq Bundle.tN "UNASSIGNED_STACK" Bundle.steD A s s.heap) (hN : vx_Zq Bundle.tN "SUPPRESSED_SENTINEL" Bundle.listD A s s.heap) (hS : va_S A s.heap H locs) (hsize : ls.size = c.maxLocals)
    (d0 : decode cc pc = .ok (.new ik, 3)) (d3 : decode cc (pc + 3) = .ok (.dup, 1)) (d4 : decode cc (pc + 4) = .ok (.invokespecial ic, 3)) (d7 : decode cc (pc + 7) = .ok (.athrow, 1))
    (hout : ∀ x ∈ c.exceptionTable.toList, covers x (pc + 7) = false)
    (hRframes : names.length + 3 < R.frames) (hRlocals : (rest.map fun v => v.category).sum + (13 * (names.length + 1) + 42) ≤ R.locals) (hRcells : cells + 1 ≤ R.cells) (hRslots : slots + 6 ≤ R.slots) (hlocks : meth.locks = false)
    (hx : ∀ t : State, s.vm.Alike t.vm → H.size ≤ t.heap.size → (∀ q : Nat, q < H.size → t.heap[q]? = H[q]?) → XC cls s t)
    (hf : ∀ z ∈ locs, free z.base) (hc : cells + 1 ≤ mc) (hs : slots + 6 ≤ ms) :
    W p l e R s m args below meth c H locs cells slots (vx_MQ below Qc XC args s mc ms free) (F0 m pc ls rest) := by
  intro T hT X
  have htr : e.platform.stackTraces = false := (show e.platform.stackTraces = l.stackTraces by rw [X.admits.platform]).trans hl
  have Y := vx_rebase X (R' := { frames := R.frames, locals := R.locals, cells := 1, slots := 6 }) (Nat.le_refl _) (Nat.le_refl _) hRcells hRslots
  obtain ⟨s', hA⟩ : ∃ z, z = (T.setVm s.vm).setFrames (.invoking m args :: below) := ⟨_, rfl⟩
  rw [← hA] at Y
  have hvm : s'.vm = s.vm := by rw [hA]; rfl
  have hhp : s'.heap = H := by rw [hA]; exact hT
  have hW0 : s.WarmedH s'.vm := by rw [hvm]; exact State.WarmedH.refl s
  have hat' : ∀ w ∈ vx_at0 own ic cls names, w.before args s' = true := fun w hw => vx_ot_at hW0 hvm.symm (hgood w (List.mem_cons_of_mem _ (List.mem_cons_of_mem _ hw))) (hat w hw)
  have hk' : (Cond.classLink own ik cls).before args s' = true := vx_ot_at hW0 hvm.symm (hgood _ List.mem_cons_self) hk
  have hini' : (Cond.initialized cls).before args s' = true := vx_ot_at hW0 hvm.symm (hgood _ (List.mem_cons_of_mem _ List.mem_cons_self)) hini
  have hU' : vx_Zq Bundle.tN "UNASSIGNED_STACK" Bundle.steD A s' s'.heap := by rw [hhp]; exact vx_Zq.moved hW0.alike (hU.kept hS.2.1)
  have hN' : vx_Zq Bundle.tN "SUPPRESSED_SENTINEL" Bundle.listD A s' s'.heap := by rw [hhp]; exact vx_Zq.moved hW0.alike (hN.kept hS.2.1)
  have h : ∀ w ∈ Bundle.ownAtoms0 own ic cls names, w.before args s' = true := vx_own hat' (vx_isRefq hU'.1) (vx_isRefq hN'.1) hU'.2.word hN'.2.word
  have hown' : s'.vm.findClass own = some m.cls := by rw [hvm]; exact hown
  have hins : (Cond.instantiable cls 6).before args s' = true := h _ (by simp [Bundle.ownAtoms0])
  obtain ⟨vm₁, cX, kX, hfX, hkX, -, -, X₁, st1⟩ := Y.newCold hexec (own := own) (C := cls) (index := ik) (n := 6) hown' hk' hins hini'
    (g := F0 m pc ls rest) rfl (by rw [hb]; exact d0) (Nat.le_refl _) (Nat.le_refl _)
  generalize hT1 : (T.setVm vm₁).pushCell { cls := cX, slots := kX.instanceTypes.map defaultValue, vm := .none } = T1 at X₁ st1
  have hcat : (Value.ref T.heap.size).category = 1 := rfl
  have hcellA : T1.heap[T.heap.size]? = some (freshCell cX kX) := by rw [← hT1]; exact State.heap_pushCell_size _ _
  have d3' : decode c.code (pc + 3) = .ok (.dup, 1) := by rw [hb]; exact d3
  obtain ⟨U, hsteps, hrun, hend, hW, hsame, ce, hce, hO⟩ := X₁.ctorThrow0 hexec htr (own := own) (cls := cls) (names := names) (ic := ic) hown' hcls hnames h (fun x hx => nomatch hx) hfX hkX hcellA (by rw [hhp, hT]; exact Nat.le_refl _)
    (g := { method := m, pc := pc + 4, locals := ls, stack := .ref T.heap.size :: .ref T.heap.size :: rest, locked := none }) rfl hsize rfl rfl (rest := rest) rfl
    (by rw [hb]; exact d4) (by rw [hb]; exact d7) hout hRframes (by simp only [List.map_cons, List.sum_cons, hcat]; omega) hlocks
  obtain ⟨f1, f2⟩ := vx_frame hsame
  rw [hhp] at f1 f2
  have hWs : s.WarmedH U.vm := State.WarmedH.trans hW0 hW
  have hcl : s.vm.findClass cls = some ce.cls := by
    have h9 := hO.cls
    rw [hvm] at h9
    exact h9
  have hall : s.sameButNew ({ U with vm := s.vm } : State) locs mc ms := by
    subst hA
    obtain ⟨e1, e2⟩ := hsame
    rw [State.setFrames_setFrames] at e1
    have h2 : (T.setVm s.vm).sameButNew ({ U with vm := s.vm } : State) [] (0 + 1) (0 + 6) := ⟨e1, e2⟩
    have h3 := X.same.trans h2
    rw [List.append_nil] at h3
    exact h3.mono hc hs
  refine ⟨U, ?_, .threw T.heap.size, hrun, hend, Or.inr ⟨T.heap.size, rfl, cls, ce, locs, hx U hWs.alike f1 (fun q hq => f2 q hq (fun z hz => nomatch hz)), hce, hO.vm, hcl, hWs, hall, hf⟩⟩
  refine st1 _ ?_
  show Steps p.tables e below (T1.setTop { method := m, pc := pc + 3, locals := ls, stack := .ref T.heap.size :: rest, locked := none }) _
  jvm_step X₁.here [X₁.here.top, hexec, d3', Value.category]
  exact hsteps
/-- 'throw new E("text")': new; dup; ldc; invokespecial; athrow -/
theorem vx_throwS {cc : ByteArray} {pc : Nat} (hexec : p.tables.exec = Jvm.exec) (hb : c.code = cc) (hl : l.stackTraces = false) {own cls text : String} {names : List String} {ik is ic mc ms sa : Nat} {A : Nat → Prop}
    (hown : s.vm.findClass own = some m.cls) (hcls : Bundle.fit cls = true) (hnames : ∀ n ∈ names, Bundle.fit n = true)
    (hk : (Cond.classLink own ik cls).before args s = true) (hini : (Cond.initialized cls).before args s = true) (hstr : vk_R own is text sa s) (hat : ∀ w ∈ vx_atS own ic cls names, w.before args s = true)
    (hgood : ∀ w ∈ Cond.classLink own ik cls :: Cond.initialized cls :: vx_atS own ic cls names, vx_ot w = true)
    (hU : vx_Zq Bundle.tN "UNASSIGNED_STACK" Bundle.steD A s s.heap) (hN : vx_Zq Bundle.tN "SUPPRESSED_SENTINEL" Bundle.listD A s s.heap) (hS : va_S A s.heap H locs) (hsize : ls.size = c.maxLocals)
    (d0 : decode cc pc = .ok (.new ik, 3)) (d3 : decode cc (pc + 3) = .ok (.dup, 1)) (d4 : decode cc (pc + 4) = .ok (.ldc is, 2)) (d6 : decode cc (pc + 6) = .ok (.invokespecial ic, 3)) (d9 : decode cc (pc + 9) = .ok (.athrow, 1))
    (hout : ∀ x ∈ c.exceptionTable.toList, covers x (pc + 9) = false)
    (hRframes : names.length + 3 < R.frames) (hRlocals : (rest.map fun v => v.category).sum + (13 * (names.length + 1) + 43) ≤ R.locals) (hRcells : cells + 1 ≤ R.cells) (hRslots : slots + 6 ≤ R.slots) (hlocks : meth.locks = false)
    (hx : ∀ t : State, s.vm.Alike t.vm → H.size ≤ t.heap.size → (∀ q : Nat, q < H.size → t.heap[q]? = H[q]?) → XC cls s t)
    (hf : ∀ z ∈ locs, free z.base) (hc : cells + 1 ≤ mc) (hs : slots + 6 ≤ ms) :
    W p l e R s m args below meth c H locs cells slots (vx_MQ below Qc XC args s mc ms free) (F0 m pc ls rest) := by
  intro T hT X
  have htr : e.platform.stackTraces = false := (show e.platform.stackTraces = l.stackTraces by rw [X.admits.platform]).trans hl
  have Y := vx_rebase X (R' := { frames := R.frames, locals := R.locals, cells := 1, slots := 6 }) (Nat.le_refl _) (Nat.le_refl _) hRcells hRslots
  obtain ⟨s', hA⟩ : ∃ z, z = (T.setVm s.vm).setFrames (.invoking m args :: below) := ⟨_, rfl⟩
  rw [← hA] at Y
  have hvm : s'.vm = s.vm := by rw [hA]; rfl
  have hhp : s'.heap = H := by rw [hA]; exact hT
  have hW0 : s.WarmedH s'.vm := by rw [hvm]; exact State.WarmedH.refl s
  have hat' : ∀ w ∈ vx_atS own ic cls names, w.before args s' = true := fun w hw => vx_ot_at hW0 hvm.symm (hgood w (List.mem_cons_of_mem _ (List.mem_cons_of_mem _ hw))) (hat w hw)
  have hk' : (Cond.classLink own ik cls).before args s' = true := vx_ot_at hW0 hvm.symm (hgood _ List.mem_cons_self) hk
  have hini' : (Cond.initialized cls).before args s' = true := vx_ot_at hW0 hvm.symm (hgood _ (List.mem_cons_of_mem _ List.mem_cons_self)) hini
  have hU' : vx_Zq Bundle.tN "UNASSIGNED_STACK" Bundle.steD A s' s'.heap := by rw [hhp]; exact vx_Zq.moved hW0.alike (hU.kept hS.2.1)
  have hN' : vx_Zq Bundle.tN "SUPPRESSED_SENTINEL" Bundle.listD A s' s'.heap := by rw [hhp]; exact vx_Zq.moved hW0.alike (hN.kept hS.2.1)
  have h : ∀ w ∈ Bundle.ownAtoms own ic cls names, w.before args s' = true := vx_own hat' (vx_isRefq hU'.1) (vx_isRefq hN'.1) hU'.2.word hN'.2.word
  have hown' : s'.vm.findClass own = some m.cls := by rw [hvm]; exact hown
  have hins : (Cond.instantiable cls 6).before args s' = true := h _ (by simp [Bundle.ownAtoms])
  obtain ⟨vm₁, cX, kX, hfX, hkX, -, -, X₁, st1⟩ := Y.newCold hexec (own := own) (C := cls) (index := ik) (n := 6) hown' hk' hins hini'
    (g := F0 m pc ls rest) rfl (by rw [hb]; exact d0) (Nat.le_refl _) (Nat.le_refl _)
  generalize hT1 : (T.setVm vm₁).pushCell { cls := cX, slots := kX.instanceTypes.map defaultValue, vm := .none } = T1 at X₁ st1
  have hcat : (Value.ref T.heap.size).category = 1 := rfl
  have hcellA : T1.heap[T.heap.size]? = some (freshCell cX kX) := by rw [← hT1]; exact State.heap_pushCell_size _ _
  have d3' : decode c.code (pc + 3) = .ok (.dup, 1) := by rw [hb]; exact d3
  have d4' : decode c.code (pc + 4) = .ok (.ldc is, 2) := by rw [hb]; exact d4
  have hstr' : vk_R own is text sa s' := vk_R.warm hW0 hstr
  obtain ⟨U, hsteps, hrun, hend, hW, hsame, ce, hce, hO⟩ := X₁.ctorThrowS hexec htr (own := own) (cls := cls) (names := names) (ic := ic) hown' hcls hnames h (fun x hx => nomatch hx) hfX hkX hcellA (by rw [hhp, hT]; exact Nat.le_refl _) (msg := .ref sa) rfl
    (g := { method := m, pc := pc + 6, locals := ls, stack := .ref sa :: .ref T.heap.size :: .ref T.heap.size :: rest, locked := none }) rfl hsize rfl rfl (rest := rest) rfl
    (by rw [hb]; exact d6) (by rw [hb]; exact d9) hout hRframes (by simp only [List.map_cons, List.sum_cons, hcat]; omega) hlocks
  obtain ⟨f1, f2⟩ := vx_frame hsame
  rw [hhp] at f1 f2
  have hWs : s.WarmedH U.vm := State.WarmedH.trans hW0 hW
  have hcl : s.vm.findClass cls = some ce.cls := by
    have h9 := hO.cls
    rw [hvm] at h9
    exact h9
  have hall : s.sameButNew ({ U with vm := s.vm } : State) locs mc ms := by
    subst hA
    obtain ⟨e1, e2⟩ := hsame
    rw [State.setFrames_setFrames] at e1
    have h2 : (T.setVm s.vm).sameButNew ({ U with vm := s.vm } : State) [] (0 + 1) (0 + 6) := ⟨e1, e2⟩
    have h3 := X.same.trans h2
    rw [List.append_nil] at h3
    exact h3.mono hc hs
  refine ⟨U, ?_, .threw T.heap.size, hrun, hend, Or.inr ⟨T.heap.size, rfl, cls, ce, locs, hx U hWs.alike f1 (fun q hq => f2 q hq (fun z hz => nomatch hz)), hce, hO.vm, hcl, hWs, hall, hf⟩⟩
  refine st1 _ ?_
  show Steps p.tables e below (T1.setTop { method := m, pc := pc + 3, locals := ls, stack := .ref T.heap.size :: rest, locked := none }) _
  jvm_step X₁.here [X₁.here.top, hexec, d3', Value.category]
  exact X₁.ldcString hexec (own := own) (text := text) (index := is) (a := sa) hown' hstr'.1 hstr'.2
    (g := { method := m, pc := pc + 4, locals := ls, stack := .ref T.heap.size :: .ref T.heap.size :: rest, locked := none }) rfl d4' _ hsteps
/-- 'throw new E("text")', the text by a wide index -/
theorem vx_throwSW {cc : ByteArray} {pc : Nat} (hexec : p.tables.exec = Jvm.exec) (hb : c.code = cc) (hl : l.stackTraces = false) {own cls text : String} {names : List String} {ik is ic mc ms sa : Nat} {A : Nat → Prop}
    (hown : s.vm.findClass own = some m.cls) (hcls : Bundle.fit cls = true) (hnames : ∀ n ∈ names, Bundle.fit n = true)
    (hk : (Cond.classLink own ik cls).before args s = true) (hini : (Cond.initialized cls).before args s = true) (hstr : vk_R own is text sa s) (hat : ∀ w ∈ vx_atS own ic cls names, w.before args s = true)
    (hgood : ∀ w ∈ Cond.classLink own ik cls :: Cond.initialized cls :: vx_atS own ic cls names, vx_ot w = true)
    (hU : vx_Zq Bundle.tN "UNASSIGNED_STACK" Bundle.steD A s s.heap) (hN : vx_Zq Bundle.tN "SUPPRESSED_SENTINEL" Bundle.listD A s s.heap) (hS : va_S A s.heap H locs) (hsize : ls.size = c.maxLocals)
    (d0 : decode cc pc = .ok (.new ik, 3)) (d3 : decode cc (pc + 3) = .ok (.dup, 1)) (d4 : decode cc (pc + 4) = .ok (.ldc_w is, 3)) (d7 : decode cc (pc + 7) = .ok (.invokespecial ic, 3)) (d10 : decode cc (pc + 10) = .ok (.athrow, 1))
    (hout : ∀ x ∈ c.exceptionTable.toList, covers x (pc + 10) = false)
    (hRframes : names.length + 3 < R.frames) (hRlocals : (rest.map fun v => v.category).sum + (13 * (names.length + 1) + 43) ≤ R.locals) (hRcells : cells + 1 ≤ R.cells) (hRslots : slots + 6 ≤ R.slots) (hlocks : meth.locks = false)
    (hx : ∀ t : State, s.vm.Alike t.vm → H.size ≤ t.heap.size → (∀ q : Nat, q < H.size → t.heap[q]? = H[q]?) → XC cls s t)
    (hf : ∀ z ∈ locs, free z.base) (hc : cells + 1 ≤ mc) (hs : slots + 6 ≤ ms) :
    W p l e R s m args below meth c H locs cells slots (vx_MQ below Qc XC args s mc ms free) (F0 m pc ls rest) := by
  intro T hT X
  have htr : e.platform.stackTraces = false := (show e.platform.stackTraces = l.stackTraces by rw [X.admits.platform]).trans hl
  have Y := vx_rebase X (R' := { frames := R.frames, locals := R.locals, cells := 1, slots := 6 }) (Nat.le_refl _) (Nat.le_refl _) hRcells hRslots
  obtain ⟨s', hA⟩ : ∃ z, z = (T.setVm s.vm).setFrames (.invoking m args :: below) := ⟨_, rfl⟩
  rw [← hA] at Y
  have hvm : s'.vm = s.vm := by rw [hA]; rfl
  have hhp : s'.heap = H := by rw [hA]; exact hT
  have hW0 : s.WarmedH s'.vm := by rw [hvm]; exact State.WarmedH.refl s
  have hat' : ∀ w ∈ vx_atS own ic cls names, w.before args s' = true := fun w hw => vx_ot_at hW0 hvm.symm (hgood w (List.mem_cons_of_mem _ (List.mem_cons_of_mem _ hw))) (hat w hw)
  have hk' : (Cond.classLink own ik cls).before args s' = true := vx_ot_at hW0 hvm.symm (hgood _ List.mem_cons_self) hk
  have hini' : (Cond.initialized cls).before args s' = true := vx_ot_at hW0 hvm.symm (hgood _ (List.mem_cons_of_mem _ List.mem_cons_self)) hini
  have hU' : vx_Zq Bundle.tN "UNASSIGNED_STACK" Bundle.steD A s' s'.heap := by rw [hhp]; exact vx_Zq.moved hW0.alike (hU.kept hS.2.1)
  have hN' : vx_Zq Bundle.tN "SUPPRESSED_SENTINEL" Bundle.listD A s' s'.heap := by rw [hhp]; exact vx_Zq.moved hW0.alike (hN.kept hS.2.1)
  have h : ∀ w ∈ Bundle.ownAtoms own ic cls names, w.before args s' = true := vx_own hat' (vx_isRefq hU'.1) (vx_isRefq hN'.1) hU'.2.word hN'.2.word
  have hown' : s'.vm.findClass own = some m.cls := by rw [hvm]; exact hown
  have hins : (Cond.instantiable cls 6).before args s' = true := h _ (by simp [Bundle.ownAtoms])
  obtain ⟨vm₁, cX, kX, hfX, hkX, -, -, X₁, st1⟩ := Y.newCold hexec (own := own) (C := cls) (index := ik) (n := 6) hown' hk' hins hini'
    (g := F0 m pc ls rest) rfl (by rw [hb]; exact d0) (Nat.le_refl _) (Nat.le_refl _)
  generalize hT1 : (T.setVm vm₁).pushCell { cls := cX, slots := kX.instanceTypes.map defaultValue, vm := .none } = T1 at X₁ st1
  have hcat : (Value.ref T.heap.size).category = 1 := rfl
  have hcellA : T1.heap[T.heap.size]? = some (freshCell cX kX) := by rw [← hT1]; exact State.heap_pushCell_size _ _
  have d3' : decode c.code (pc + 3) = .ok (.dup, 1) := by rw [hb]; exact d3
  have d4' : decode c.code (pc + 4) = .ok (.ldc_w is, 3) := by rw [hb]; exact d4
  have hstr' : vk_R own is text sa s' := vk_R.warm hW0 hstr
  obtain ⟨U, hsteps, hrun, hend, hW, hsame, ce, hce, hO⟩ := X₁.ctorThrowS hexec htr (own := own) (cls := cls) (names := names) (ic := ic) hown' hcls hnames h (fun x hx => nomatch hx) hfX hkX hcellA (by rw [hhp, hT]; exact Nat.le_refl _) (msg := .ref sa) rfl
    (g := { method := m, pc := pc + 7, locals := ls, stack := .ref sa :: .ref T.heap.size :: .ref T.heap.size :: rest, locked := none }) rfl hsize rfl rfl (rest := rest) rfl
    (by rw [hb]; exact d7) (by rw [hb]; exact d10) hout hRframes (by simp only [List.map_cons, List.sum_cons, hcat]; omega) hlocks
  obtain ⟨f1, f2⟩ := vx_frame hsame
  rw [hhp] at f1 f2
  have hWs : s.WarmedH U.vm := State.WarmedH.trans hW0 hW
  have hcl : s.vm.findClass cls = some ce.cls := by
    have h9 := hO.cls
    rw [hvm] at h9
    exact h9
  have hall : s.sameButNew ({ U with vm := s.vm } : State) locs mc ms := by
    subst hA
    obtain ⟨e1, e2⟩ := hsame
    rw [State.setFrames_setFrames] at e1
    have h2 : (T.setVm s.vm).sameButNew ({ U with vm := s.vm } : State) [] (0 + 1) (0 + 6) := ⟨e1, e2⟩
    have h3 := X.same.trans h2
    rw [List.append_nil] at h3
    exact h3.mono hc hs
  refine ⟨U, ?_, .threw T.heap.size, hrun, hend, Or.inr ⟨T.heap.size, rfl, cls, ce, locs, hx U hWs.alike f1 (fun q hq => f2 q hq (fun z hz => nomatch hz)), hce, hO.vm, hcl, hWs, hall, hf⟩⟩
  refine st1 _ ?_
  show Steps p.tables e below (T1.setTop { method := m, pc := pc + 3, locals := ls, stack := .ref T.heap.size :: rest, locked := none }) _
  jvm_step X₁.here [X₁.here.top, hexec, d3', Value.category]
  exact X₁.ldcStringW hexec (own := own) (text := text) (index := is) (a := sa) hown' hstr'.1 hstr'.2
    (g := { method := m, pc := pc + 4, locals := ls, stack := .ref T.heap.size :: .ref T.heap.size :: rest, locked := none }) rfl d4' _ hsteps
end Ends
section Bodies
variable {l : Launch}
theorem vx_ofW {y : MethodName} {ws ws' : List Cond} {rm : Room} {Pc : Array Value → State → Prop} {Qc : Array Value → State → Outcome → State → Prop} {XC : String → State → State → Prop} {mc ms : Nat} {free : Addr → Prop} {cc : ByteArray} {maxL : Nat} {ret : Option FieldType}
    (hy : plainName y.cls = true) (hw : ws = Cond.code y cc maxL ret :: ws')
    (body : ∀ p e s m args below meth c s₁, BodyLoose p l y (headSpec ws rm) cc maxL ret e s m args below meth c s₁ → c.maxLocals = maxL → (∀ x ∈ c.exceptionTable.toList, False) → Pc args s →
      W p l e (headSpec ws rm).room s m args below meth c s.heap [] 0 0 (vx_MQ below Qc XC args s mc ms free) (entryFrame m args maxL)) : vx_Met l y ws rm Pc Qc XC mc ms free := by
  refine MetFree.of_bodyS (code := cc) (maxLocals := maxL) (ret := ret) hy ?_ ?_
  · intro args s m h hn
    obtain ⟨meth, c, h1, h2, h3, h4, h5, h6, -, -⟩ := Cond.code_spec hn (atoms_spec (ws := ws) h _ (by rw [hw]; exact List.mem_cons_self))
    exact ⟨meth, c, h1, h2, h3, h4, h5, h6⟩
  · intro p e s m args below meth c s₁ B hml hP _
    have hh0 : s₁.heap = s.heap := by rw [B.state]; rfl
    have ht : ∀ x ∈ c.exceptionTable.toList, False := by
      obtain ⟨meth9, c9, h1, h2, -, -, -, -, h7, -⟩ := Cond.code_spec B.named (atoms_spec (ws := ws) B.pre _ (by rw [hw]; exact List.mem_cons_self))
      cases Option.some.inj (h1.symm.trans B.method)
      cases Option.some.inj (h2.symm.trans (Stand.of_body B).code)
      intro x hx
      rw [Array.isEmpty_iff.mp h7] at hx
      cases hx
    obtain ⟨t, a1, o, b1, b2, b3⟩ := body p e s m args below meth c s₁ B hml ht hP s₁ hh0 (Stand.of_body B)
    exact ⟨t, o, a1, b1, b2, b3⟩
/-- the table of a body with handlers -/
theorem vx_table {p : Program} {x y : MethodName} {S : Spec} {cc bytes : ByteArray} {maxL maxL' : Nat} {ret ret' : Option FieldType} {e : Env} {s s₁ : State} {m : MethodId} {args : Array Value} {below : List Frame} {meth : Method} {c : Code} {hh : List (Nat × Nat × Nat × Nat)}
    (B : BodyLoose p l y S cc maxL ret e s m args below meth c s₁) (h : (Cond.codeWith y bytes maxL' ret' hh).before args s = true) : c.exceptionTable.toList = tableOf hh := by
  obtain ⟨m9, meth9, c9, hn9, h1, h2, -, -, h6, -⟩ := Cond.codeWith_spec h
  cases Option.some.inj (hn9.symm.trans B.named)
  cases Option.some.inj (h1.symm.trans B.method)
  cases Option.some.inj (h2.symm.trans (Stand.of_body B).code)
  rw [← h6, table_eq]
end Bodies
end VXA
/-! ===== END ===== -/
/-! ===== BEGIN a static call of a method with an exception table ===== -/
section VXS
variable {p : Program} {l : Launch} {e : Env} {R : Room} {s : State} {m : MethodId} {args : Array Value} {below : List Frame} {meth : Method} {c : Code} {T : State} {H : Heap} {locs : List Loc} {cells slots : Nat}
abbrev vx_CSW (R : Room) (s : State) (args : Array Value) (own : String) (index : Nat) (y : MethodName) (bytes : ByteArray) (maxL : Nat) (ret : Option FieldType) (hh : List (Nat × Nat × Nat × Nat)) (ws : List Cond) (rm : Room) (mc ms n : Nat) : Prop :=
  (rm.cells = mc ∧ rm.slots = ms ∧ rm.frames + 1 ≤ R.frames ∧ 8 + (maxL + 11) + rm.locals ≤ R.locals ∧ (∀ w ∈ ws, ∀ (a' : Array Value) (U : State), s.WarmedH U.vm → w.before a' U = true) ∧ Cond.codeWith y bytes maxL ret hh ∈ ws) ∧
  (Cond.codeWith y bytes maxL ret hh).before args s = true ∧ (Cond.initialized y.cls).before args s = true ∧ (y.cls ≠ "java/lang/invoke/MethodHandle" ∧ y.cls ≠ "java/lang/invoke/VarHandle") ∧
  (∀ sig, parseMethodDescriptor y.desc = some sig → n = sig.parameters.length) ∧ (Cond.methodLink own index y).before args s = true ∧ (Cond.static y).before args s = true
theorem vx_cwSW {own : String} {index maxL mc ms : Nat} {y : MethodName} {bytes : ByteArray} {ret : Option FieldType} {hh : List (Nat × Nat × Nat × Nat)} {Ts ws ws' : List Cond} {rm : Room} (n : Nat) (ht : ∀ w ∈ Ts, w.before args s = true) (hT : GoodIn Ts (va_wsS own index y ws)) (hw : ws = Cond.codeWith y bytes maxL ret hh :: ws') (hrc : rm.cells = mc) (hrs : rm.slots = ms)
    (hd : y.cls ≠ "java/lang/invoke/MethodHandle" ∧ y.cls ≠ "java/lang/invoke/VarHandle" ∧ (parseMethodDescriptor y.desc).map (fun d => d.parameters.length) = some n) (hR : rm.frames + 1 ≤ R.frames ∧ 8 + (maxL + 11) + rm.locals ≤ R.locals) :
    vx_CSW R s args own index y bytes maxL ret hh ws rm mc ms n := by
  have ok : ∀ w ∈ va_wsS own index y ws, w.before args s = true := fun w h => ht w (hT w h).1
  have hG : GoodIn Ts ws := fun w h => hT w (by unfold va_wsS; exact List.mem_append_right _ h)
  have hc : Cond.codeWith y bytes maxL ret hh ∈ ws := by rw [hw]; exact List.mem_cons_self
  refine ⟨⟨hrc, hrs, hR.1, hR.2, pay_in ht hG, hc⟩, ht _ (hG _ hc).1, ok _ (by simp [va_wsS]), ⟨hd.1, hd.2.1⟩, fun sig h => ?_, ok _ (by simp [va_wsS]), ok _ (by simp [va_wsS])⟩
  have h2 := hd.2.2
  rw [h] at h2
  exact (Option.some.inj h2).symm
theorem vx_callSW (X : Stand p l e R s m args below meth c T locs cells slots) (hexec : p.tables.exec = Jvm.exec) {own : String} {index : Nat} {y : MethodName} {bytes : ByteArray} {maxL : Nat} {ret : Option FieldType} {hh : List (Nat × Nat × Nat × Nat)}
    (hown : s.vm.findClass own = some m.cls) (hlink : (Cond.methodLink own index y).before args s = true) (hstat : (Cond.static y).before args s = true) (hinit : (Cond.initialized y.cls).before args s = true)
    (hcode : (Cond.codeWith y bytes maxL ret hh).before args s = true) (hy : y.cls ≠ "java/lang/invoke/MethodHandle" ∧ y.cls ≠ "java/lang/invoke/VarHandle")
    {W9 : Nat} {Pre : Pt → Array Value → Prop} {Post : Pt → Array Value → Option Value → Pt → Prop} (hK : Back l R p e below s args y 3 W9 Pre Post)
    {g : JFrame} (hg : g.method = m) (hsize : g.locals.size = c.maxLocals) {argsL rest : List Value} (hlen : ∀ sig, parseMethodDescriptor y.desc = some sig → argsL.length = sig.parameters.length)
    (hstack : g.stack = argsL.reverse ++ rest) (hW : 2 * g.monitorRoom + (rest.map fun v => v.category).sum ≤ W9) (hdg : decode c.code g.pc = .ok (.invokestatic index, 3))
    (hpre : ∀ vm₁, s.WarmedH vm₁ → Pre ⟨T.setVm vm₁, locs, cells, slots⟩ argsL.toArray) :
    ∃ (v : Option Value) (vm₁ : Vm) (B : Pt), s.WarmedH vm₁ ∧ Stand p l e R s m args below meth c B.U B.locs B.cells B.slots ∧ Post ⟨T.setVm vm₁, locs, cells, slots⟩ argsL.toArray v B ∧
      ∀ target, Steps p.tables e below (B.U.setTop { g with pc := g.pc + 3, stack := v.toList ++ rest }) target → Steps p.tables e below (T.setTop g) target := by
  obtain ⟨mk, methM, cM, hnamed, hmethM, -, -, -, -, -, -, hsigM⟩ := Cond.codeWith_spec hcode
  have hstatic : methM.isStatic = true := Cond.static_spec hnamed hmethM hstat
  obtain ⟨kP, hkP, -⟩ := className_of_methodNamed hnamed
  have hinitP : kP.init = .initialized := Cond.initialized_spec (findClass_of_methodNamed hnamed) hkP hinit
  obtain ⟨vm₁, X₁, hstep₁⟩ := X.invokestatic hexec hown hlink hnamed hmethM hstatic hkP hinitP hy (g := g) hg (argsL := argsL) (rest := rest) (hlen _ hsigM) hstack hdg
  obtain ⟨v, B, X', hpost, hsteps⟩ := hK m meth c ⟨T.setVm vm₁, locs, cells, slots⟩ { g with stack := rest } (.invokestatic index) mk argsL.toArray X₁ hg hsize hdg hW (X₁.named hnamed) (hpre vm₁ X₁.warmed)
  exact ⟨v, vm₁, B, X₁.warmed, X', hpost, fun target h => hstep₁ _ fun acts => by rw [doInvoke_state]; exact hsteps.trans h⟩
theorem vx_runSW {y : MethodName} {bytes cc : ByteArray} {maxL nL mc ms n index : Nat} {ret : Option FieldType} {hh : List (Nat × Nat × Nat × Nat)} {ws : List Cond} {rm : Room} {Pc : Array Value → State → Prop} {Qc : Array Value → State → Outcome → State → Prop} {free : Addr → Prop} {Ts : List Cond} {own : String} {As rest : List Value} {g : JFrame}
    (S : CallFix p m c cc nL s args Ts own) (hM : Met l y ws rm Pc Qc mc ms free) (cw : vx_CSW R s args own index y bytes maxL ret hh ws rm mc ms n) (hp : PreS s H Pc As)
    (hg : g.method = m) (hn : As.length = n) (hsize : g.locals.size = nL) (hstack : g.stack = As.reverse ++ rest) (hW : 2 * g.monitorRoom + (rest.map fun v => v.category).sum ≤ 8) (hdg : decode cc g.pc = .ok (.invokestatic index, 3)) (hf : cells + mc ≤ R.cells ∧ slots + ms ≤ R.slots) :
    va_Run p l e R s m args below meth c H locs cells slots mc ms g rest (Qc As.toArray) (free) := by
  obtain ⟨⟨hrc, hrs, hfr, hlo, hws, hcw⟩, hcode, hini, hy, hlen, hl, hstt⟩ := cw
  have hK : Back l R p e below s args y 3 8 (PreOf R mc ms Pc) (PostOf Qc mc ms free) := va_backW (hh := hh) (bytes := bytes) (maxL := maxL) (ret := ret) hM hp.1 hrc hrs hfr hlo hws hcw (fun a' U hW => word_at hW (Or.inl (by first | rfl | simp [Cond.onTables, Cond.keeps, Cond.steady])) hini)
  obtain ⟨hx, hb, hml, ho, -⟩ := S
  intro T hT X
  obtain ⟨v, vm₁, ⟨U', l2, c2, s2⟩, hW₁, X', ⟨g', mk, t, L, e1, e2, hq, h1, hL, h2, h3⟩, st⟩ := vx_callSW X hx (hh := hh) (bytes := bytes) (maxL := maxL) (ret := ret) ho hl hstt hini hcode hy hK hg (hsize.trans hml.symm) (argsL := As) (rest := rest) (fun sig h => hn.trans (hlen sig h)) hstack hW (by rw [hb]; exact hdg)
    (fun vm₁ hW₁ => ⟨hf.1, hf.2, hp.2 (T.setVm vm₁) hT hW₁⟩)
  dsimp only [Pt.U, Pt.locs, Pt.cells, Pt.slots] at X' e1 e2 h1 h2 h3 st
  subst h1; subst h2; subst h3
  exact ⟨v, (T.setVm vm₁).calling g' mk As.toArray, t, U', L, hT, X', hL, e1, e2, hq, st⟩
/-- not caught here, past rows that name other classes: it goes on to the caller -/
theorem vx_outP {p : Program} {l : Launch} {e : Env} {R : Room} {s : State} {m : MethodId} {args : Array Value} {below : List Frame} {meth : Method} {c : Code} {H : Heap} {locs : List Loc} {cells slots : Nat} {free : Addr → Prop} {ls : Array Slot} {rest : List Value} {Qc : Array Value → State → Outcome → State → Prop} {XC : String → State → State → Prop}
    {pc : Nat} {own E : String} {ce : Cell} {q : Addr} {mc ms : Nat} (hown : s.vm.findClass own = some m.cls) (hlocks : meth.locks = false)
    (hpass : ∀ z ∈ c.exceptionTable.toList, covers z pc = false ∨ (z.catchType ≠ 0 ∧ ∃ nm : String, (Cond.classLink own z.catchType nm).before args s = true ∧ va_Nc E nm s)) (hcell : H[q]? = some ce) (hv : ce.vm = .none) (hcl : s.vm.findClass E = some ce.cls)
    (hx : ∀ t : State, t.heap = H → s.vm.Alike t.vm → XC E s t) (hf : ∀ z ∈ locs, free z.base) (hc : cells ≤ mc) (hs : slots ≤ ms) :
    vx_W p l e R s m args below meth c H locs cells slots (vx_MQ below Qc XC args s mc ms free) (F0 m pc ls rest) q := by
  intro T hT X
  have hpl : e.platform.magicAccessors = ({} : Platform).magicAccessors := by rw [X.admits.platform]
  obtain ⟨vm', hW', X', st⟩ := X.outThrough hlocks q (g := F0 m pc ls rest) rfl rfl rfl (cell := ce) (by rw [hT]; exact hcell) (by rw [hv]; rfl)
    (by obtain ⟨k9, h9, -⟩ := Vm.findClass_spec hcl; exact ⟨k9, h9⟩) (fun z hz => by
      rcases hpass z hz with h | ⟨hz0, nm, hl1, hn1⟩
      · exact Or.inl h
      · obtain ⟨c6, hc6, hcl6⟩ := Cond.classLink_spec hown hl1 e.platform hpl
        obtain ⟨a8, b8, h1, h2, h3⟩ := hn1
        cases Option.some.inj (h1.symm.trans hcl)
        cases Option.some.inj (h2.symm.trans hc6)
        exact Or.inr ⟨hz0, _, hcl6, h3⟩)
  obtain ⟨g₀, hfr⟩ := X'.frames_eq
  have hcell9 : ((T.setVm vm').setFrames (.throwing q :: below)).heap[q]? = some ce := by
    show T.heap[q]? = some ce
    rw [hT]; exact hcell
  have hend : Ended ((T.setVm vm').setFrames (.throwing q :: below)) below (.threw q) := State.frames_setFrames _ (State.cur_lt_of_frames hfr)
  refine ⟨(T.setVm vm').setFrames (.throwing q :: below), ?_, .threw q, X'.here.running, hend, Or.inr ⟨q, rfl, E, ce, locs, hx _ hT (X'.ends _).1.alike, hcell9, hv, hcl, (X'.ends _).1, (X'.ends _).2.mono hc hs, hf⟩⟩
  rw [X.pushThrowing_eq]
  exact st
/-- a thing of a world lies in the heap -/
theorem vx_lt {D : va_G} {cl : List vw_C} {ws : va_W} {H1 : Heap} (h : va_P D cl ws H1) {k : Nat} {q : Nat × va_E} (hk : ws[k]? = some q) : q.1 < H1.size := (h k q hk).lt
end VXS
/-! ===== END ===== -/
/-! ===== BEGIN methods with a table of their own: called by a name, returning or throwing ===== -/
section VXH
/-! vx_backW, vx_callVX, vx_callSX, vx_callVW, vx_runVW, vx_runVX, vx_runSX, vx_ofWH follow the same proofs as their sisters above (Free/Laws.lean, Shelf42/LK1.lean); vx_outP calls Shelf42/NT130.lean (outThrough). -/
section
variable {l : Launch} {R : Room} {p : Program} {e : Env} {below : List Frame} {s : State} {sargs : Array Value} {y : MethodName} {len W9 : Nat}
theorem vx_backW {ws : List Cond} {rm : Room} {Pc : Array Value → State → Prop} {Qc : Array Value → State → Outcome → State → Prop} {XC : String → State → State → Prop} {mc ms : Nat} {free : Addr → Prop} {bytes : ByteArray} {maxL : Nat} {ret : Option FieldType} {hh : List (Nat × Nat × Nat × Nat)}
    (hM : vx_Met l y ws rm Pc Qc XC mc ms free) (hblind : FrameBlind Pc) (hrc : rm.cells = mc) (hrs : rm.slots = ms)
    (hframes : rm.frames + 1 ≤ R.frames) (hlocals : W9 + (maxL + 11) + rm.locals ≤ R.locals)
    (hws : ∀ w ∈ ws, ∀ a' U, s.WarmedH U.vm → w.before a' U = true) (hcode : Cond.codeWith y bytes maxL ret hh ∈ ws) (hinit : ∀ a' U, s.WarmedH U.vm → (Cond.initialized y.cls).before a' U = true) :
    vx_Back l R p e below s sargs y len W9 (PreOf R mc ms Pc) (PostOf Qc mc ms free) (vx_Post XC mc ms free) := by
  intro m meth c A g ig mk a X hg hsize hdg hW hn hp
  have h1 : (headSpec ws rm).pre.before a A.U = true := atoms_intro fun w hw => hws w hw _ _ X.warmed
  have h2 : (Cond.codeWith y bytes maxL ret hh).before a A.U = true := hws _ hcode _ _ X.warmed
  have h3 : (Cond.initialized y.cls).before a A.U = true := hinit _ _ X.warmed
  have h4 : A.cells + (headSpec ws rm).room.cells ≤ R.cells := by rw [show (headSpec ws rm).room.cells = mc from hrc]; exact hp.1
  have h5 : A.slots + (headSpec ws rm).room.slots ≤ R.slots := by rw [show (headSpec ws rm).room.slots = ms from hrs]; exact hp.2.1
  have hPc : Pc a (A.U.calling g mk a) := hblind _ _ _ _ hp.2.2
  obtain ⟨U, Ls, c0, s0⟩ := A
  dsimp only [Pt.U, Pt.locs, Pt.cells, Pt.slots] at h1 h2 h3 h4 h5 X hn hPc ⊢
  obtain ⟨m9, methY, cY, hn9, hmY, hcY, -, hlY, -⟩ := Cond.codeWith_spec h2
  cases Option.some.inj (hn9.symm.trans hn)
  obtain ⟨kY, hkY, -⟩ := className_of_methodNamed hn
  have hinitY : kY.init = .initialized := Cond.initialized_spec (findClass_of_methodNamed hn) hkY h3
  have h : At U g.method c below := by rw [hg]; exact X.here
  have hlocals9 : W9 + (maxL + 11) + (headSpec ws rm).room.locals ≤ R.locals := hlocals
  have happ : (headSpec ws rm).appliesLoose y e.platform (U.calling g mk a) = true :=
    Spec.appliesLoose_calling (g := g) h hdg hn hkY hinitY
      (X.room_calling (g := g) (R' := (headSpec ws rm).room) hsize hmY hcY hframes (by rw [hlY]; omega) h4 h5) h1
  obtain ⟨mid, hmid⟩ := h.above
  have hfr : (U.setTop g).frames = (.java g :: mid) ++ below := by rw [State.frames_setTop' g h.top, hmid]; rfl
  obtain ⟨o, s₂, hsteps, -, hend, hq⟩ := Steps.callFree hM p X.admits X.cas X.clock (acts := []) hfr happ hPc trivial
  have hq' : vx_Q Qc XC mc ms free a (U.calling g mk a) o s₂ := hq
  rw [State.frames_setTop' g h.top] at hend
  obtain ⟨g₀, hg0⟩ := Option.isSome_iff_exists.mp h.top
  obtain ⟨r, hr⟩ := State.topJava?_eq_some.mp hg0
  have hr' : (({ U with heap := s₂.heap, slotsUsed := s₂.slotsUsed } : State).setVm s₂.vm).frames = .java g₀ :: r := hr
  rcases hq' with ⟨hqc, L, hfe, hL⟩ | ⟨q, rfl, E, ce, L, hx, hce, hcv, hcl, hW₂, hsm, hL⟩
  · obtain ⟨⟨v, rfl⟩, hW₂, e2, q2, q3, q4, q5, q6⟩ := id hfe
    have e3 : s₂ = ({ (U.calling g mk a).setFrames s₂.frames with heap := s₂.heap, slotsUsed := s₂.slotsUsed } : State).setVm s₂.vm := by
      have : s₂ = ({ s₂ with vm := (U.calling g mk a).vm } : State).setVm s₂.vm := rfl
      rw [e2] at this
      exact this
    obtain ⟨c₂, i₂, len₂, hc₂, hd₂, hf₂⟩ := hend
    have hW' : U.WarmedH s₂.vm := hW₂
    have hcc : c₂ = c := by
      have h1 : s₂.code? g.method = U.code? g.method := by
        rw [State.code?_eq, State.code?_eq, hW'.alike.method?]
      exact Option.some.inj (hc₂.symm.trans (h1.trans h.code))
    subst hcc
    have hlen : len₂ = len := by rw [hdg] at hd₂; cases hd₂; rfl
    subst hlen
    have hs₂ : s₂ = (({ U with heap := s₂.heap, slotsUsed := s₂.slotsUsed } : State).setVm s₂.vm).setTop { g with pc := g.pc + len₂, stack := v.toList ++ g.stack } := by
      refine e3.trans ?_
      rw [hf₂, State.calling_eq h.top, State.setFrames_setFrames, State.setTop_of_frames _ hr', hr]
      rfl
    have hsame : U.sameButNew ({ U with heap := s₂.heap, slotsUsed := s₂.slotsUsed } : State) L mc ms := by
      refine ⟨?_, q2, q3, q4, q5, q6⟩
      obtain ⟨t, ht, -⟩ := State.frames_cons hr
      show ({ U with heap := s₂.heap, slotsUsed := s₂.slotsUsed } : State) = { U.setFrames U.frames with heap := s₂.heap, slotsUsed := s₂.slotsUsed }
      rw [State.setFrames_self ht]
    subst hg
    refine Or.inl ⟨v, ⟨(({ U with heap := s₂.heap, slotsUsed := s₂.slotsUsed } : State).setVm s₂.vm), Ls ++ L, c0 + mc, s0 + ms⟩,
      ⟨X.admits, X.cas, X.clock, X.frames, X.room, X.hears, X.method, X.code, (X.here.setHeapUsed s₂.heap s₂.slotsUsed).setVm hW'.alike, X.tail, State.WarmedH.trans X.warmed hW', X.limits, X.bytes, X.same.trans (hsame.setVm s.vm)⟩,
      ⟨g, mk, s₂, L, rfl, rfl, hqc, rfl, hL, rfl, rfl⟩, ?_⟩
    show Steps p.tables e below _ ((({ U with heap := s₂.heap, slotsUsed := s₂.slotsUsed } : State).setVm s₂.vm).setTop { g with pc := g.pc + len₂, stack := v.toList ++ g.stack })
    rw [← hs₂]
    exact hsteps
  · obtain ⟨e2, q2, q3, q4, q5, q6⟩ := id hsm
    have e3 : s₂ = ({ (U.calling g mk a).setFrames s₂.frames with heap := s₂.heap, slotsUsed := s₂.slotsUsed } : State).setVm s₂.vm := by
      have : s₂ = ({ s₂ with vm := (U.calling g mk a).vm } : State).setVm s₂.vm := rfl
      rw [e2] at this
      exact this
    have hf₂ : s₂.frames = .throwing q :: .java g :: U.frames.tail := hend
    have hW' : U.WarmedH s₂.vm := hW₂
    have hs₂ : s₂ = ((({ U with heap := s₂.heap, slotsUsed := s₂.slotsUsed } : State).setVm s₂.vm).setTop g).pushFrame (.throwing q) := by
      refine e3.trans ?_
      rw [hf₂, State.calling_eq h.top, State.setFrames_setFrames, State.pushFrame, State.frames_setTop _ hr', State.setTop_of_frames _ hr', State.setFrames_setFrames, hr]
      rfl
    have hsame : U.sameButNew ({ U with heap := s₂.heap, slotsUsed := s₂.slotsUsed } : State) L mc ms := by
      refine ⟨?_, q2, q3, q4, q5, q6⟩
      obtain ⟨t, ht, -⟩ := State.frames_cons hr
      show ({ U with heap := s₂.heap, slotsUsed := s₂.slotsUsed } : State) = { U.setFrames U.frames with heap := s₂.heap, slotsUsed := s₂.slotsUsed }
      rw [State.setFrames_self ht]
    subst hg
    refine Or.inr ⟨q, ⟨(({ U with heap := s₂.heap, slotsUsed := s₂.slotsUsed } : State).setVm s₂.vm), Ls ++ L, c0 + mc, s0 + ms⟩,
      ⟨X.admits, X.cas, X.clock, X.frames, X.room, X.hears, X.method, X.code, (X.here.setHeapUsed s₂.heap s₂.slotsUsed).setVm hW'.alike, X.tail, State.WarmedH.trans X.warmed hW', X.limits, X.bytes, X.same.trans (hsame.setVm s.vm)⟩,
      ⟨g, mk, s₂, L, E, ce, rfl, rfl, hx, hce, hcv, hcl, rfl, hL, rfl, rfl⟩, ?_⟩
    show Steps p.tables e below _ (((({ U with heap := s₂.heap, slotsUsed := s₂.slotsUsed } : State).setVm s₂.vm).setTop g).pushFrame (.throwing q))
    rw [← hs₂]
    exact hsteps
end
variable {p : Program} {l : Launch} {e : Env} {R : Room} {s : State} {m : MethodId} {args : Array Value} {below : List Frame} {meth : Method} {c : Code} {T : State} {H : Heap} {locs : List Loc} {cells slots : Nat}
theorem vx_callVX (X : Stand p l e R s m args below meth c T locs cells slots) (hexec : p.tables.exec = Jvm.exec) {own C : String} {index : Nat} {y : MethodName} {bytes : ByteArray} {maxL : Nat} {ret : Option FieldType} {hh : List (Nat × Nat × Nat × Nat)}
    (hown : s.vm.findClass own = some m.cls) (hlink : (Cond.methodLink own index y).before args s = true) (hinst : (Cond.instanceMethod y).before args s = true) (hsel : (Cond.selects C y y).before args s = true)
    (hcode : (Cond.codeWith y bytes maxL ret hh).before args s = true) (hy : y.cls ≠ "java/lang/invoke/MethodHandle" ∧ y.cls ≠ "java/lang/invoke/VarHandle")
    {W9 : Nat} {Pre : Pt → Array Value → Prop} {Post : Pt → Array Value → Option Value → Pt → Prop} {PostX : Pt → Array Value → Addr → Pt → Prop} (hK : vx_Back l R p e below s args y 3 W9 Pre Post PostX)
    {b : Addr} {cellB : Cell} (hcell : T.heap[b]? = some cellB) (hobj : cellB.vm.isStatics = false) (hcls : s.vm.findClass C = some cellB.cls)
    {g : JFrame} (hg : g.method = m) (hsize : g.locals.size = c.maxLocals) {argsL rest : List Value} (hlen : ∀ sig, parseMethodDescriptor y.desc = some sig → argsL.length = sig.parameters.length)
    (hstack : g.stack = argsL.reverse ++ .ref b :: rest) (hW : 2 * g.monitorRoom + (rest.map fun v => v.category).sum ≤ W9) (hdg : decode c.code g.pc = .ok (.invokevirtual index, 3))
    (hpre : ∀ vm₁, s.WarmedH vm₁ → Pre ⟨T.setVm vm₁, locs, cells, slots⟩ (Value.ref b :: argsL).toArray) :
    (∃ (v : Option Value) (vm₁ : Vm) (B : Pt), s.WarmedH vm₁ ∧ Stand p l e R s m args below meth c B.U B.locs B.cells B.slots ∧ Post ⟨T.setVm vm₁, locs, cells, slots⟩ (Value.ref b :: argsL).toArray v B ∧
      ∀ target, Steps p.tables e below (B.U.setTop { g with pc := g.pc + 3, stack := v.toList ++ rest }) target → Steps p.tables e below (T.setTop g) target) ∨
    (∃ (q : Addr) (vm₁ : Vm) (B : Pt), s.WarmedH vm₁ ∧ Stand p l e R s m args below meth c B.U B.locs B.cells B.slots ∧ PostX ⟨T.setVm vm₁, locs, cells, slots⟩ (Value.ref b :: argsL).toArray q B ∧
      Steps p.tables e below (T.setTop g) ((B.U.setTop { g with stack := rest }).pushFrame (.throwing q))) := by
  obtain ⟨mk, methM, hnamed, hmethM, hstM, habM⟩ := Cond.instanceMethod_spec hinst
  obtain ⟨m8, methM', cM, hn8, hmethM', -, -, -, -, -, -, hsigM⟩ := Cond.codeWith_spec hcode
  cases Option.some.inj (hn8.symm.trans hnamed)
  cases hmethM.symm.trans hmethM'
  obtain ⟨c2, r2, m2, q1, q2, q3, q4, kP, hkP, hkPi⟩ := Cond.selects_spec hsel
  cases hcls.symm.trans q1
  cases (State.methodFound?_of_named hnamed hy).symm.trans q2
  cases hnamed.symm.trans q3
  have hselP : selectMethod e.platform s.vm cellB.cls mk = .method mk := by rw [Launch.admits_selectMethod X.admits]; exact q4
  obtain ⟨vm₁, X₁, hstep₁⟩ := X.invokevirtual hexec hown hlink hnamed hmethM hstM hkP hkPi hy (a := b) (cell := cellB) hcell
    (fun z h => by rw [h] at hobj; cases hobj) hselP hmethM habM hkP hkPi (g := g) hg (argsL := argsL) (rest := rest) (hlen _ hsigM) hstack hdg
  rcases hK m meth c ⟨T.setVm vm₁, locs, cells, slots⟩ { g with stack := rest } (.invokevirtual index) mk (Value.ref b :: argsL).toArray X₁ hg hsize hdg hW (X₁.named hnamed) (hpre vm₁ X₁.warmed) with ⟨v, B, X', hpost, hsteps⟩ | ⟨q, B, X', hpost, hsteps⟩
  · exact Or.inl ⟨v, vm₁, B, X₁.warmed, X', hpost, fun target h => hstep₁ _ fun acts => by rw [doInvoke_state]; exact hsteps.trans h⟩
  · exact Or.inr ⟨q, vm₁, B, X₁.warmed, X', hpost, hstep₁ _ fun acts => by rw [doInvoke_state]; exact hsteps⟩
theorem vx_callSX (X : Stand p l e R s m args below meth c T locs cells slots) (hexec : p.tables.exec = Jvm.exec) {own : String} {index : Nat} {y : MethodName} {bytes : ByteArray} {maxL : Nat} {ret : Option FieldType} {hh : List (Nat × Nat × Nat × Nat)}
    (hown : s.vm.findClass own = some m.cls) (hlink : (Cond.methodLink own index y).before args s = true) (hstat : (Cond.static y).before args s = true) (hinit : (Cond.initialized y.cls).before args s = true)
    (hcode : (Cond.codeWith y bytes maxL ret hh).before args s = true) (hy : y.cls ≠ "java/lang/invoke/MethodHandle" ∧ y.cls ≠ "java/lang/invoke/VarHandle")
    {W9 : Nat} {Pre : Pt → Array Value → Prop} {Post : Pt → Array Value → Option Value → Pt → Prop} {PostX : Pt → Array Value → Addr → Pt → Prop} (hK : vx_Back l R p e below s args y 3 W9 Pre Post PostX)
    {g : JFrame} (hg : g.method = m) (hsize : g.locals.size = c.maxLocals) {argsL rest : List Value} (hlen : ∀ sig, parseMethodDescriptor y.desc = some sig → argsL.length = sig.parameters.length)
    (hstack : g.stack = argsL.reverse ++ rest) (hW : 2 * g.monitorRoom + (rest.map fun v => v.category).sum ≤ W9) (hdg : decode c.code g.pc = .ok (.invokestatic index, 3))
    (hpre : ∀ vm₁, s.WarmedH vm₁ → Pre ⟨T.setVm vm₁, locs, cells, slots⟩ argsL.toArray) :
    (∃ (v : Option Value) (vm₁ : Vm) (B : Pt), s.WarmedH vm₁ ∧ Stand p l e R s m args below meth c B.U B.locs B.cells B.slots ∧ Post ⟨T.setVm vm₁, locs, cells, slots⟩ argsL.toArray v B ∧
      ∀ target, Steps p.tables e below (B.U.setTop { g with pc := g.pc + 3, stack := v.toList ++ rest }) target → Steps p.tables e below (T.setTop g) target) ∨
    (∃ (q : Addr) (vm₁ : Vm) (B : Pt), s.WarmedH vm₁ ∧ Stand p l e R s m args below meth c B.U B.locs B.cells B.slots ∧ PostX ⟨T.setVm vm₁, locs, cells, slots⟩ argsL.toArray q B ∧
      Steps p.tables e below (T.setTop g) ((B.U.setTop { g with stack := rest }).pushFrame (.throwing q))) := by
  obtain ⟨mk, methM, cM, hnamed, hmethM, -, -, -, -, -, -, hsigM⟩ := Cond.codeWith_spec hcode
  have hstatic : methM.isStatic = true := Cond.static_spec hnamed hmethM hstat
  obtain ⟨kP, hkP, -⟩ := className_of_methodNamed hnamed
  have hinitP : kP.init = .initialized := Cond.initialized_spec (findClass_of_methodNamed hnamed) hkP hinit
  obtain ⟨vm₁, X₁, hstep₁⟩ := X.invokestatic hexec hown hlink hnamed hmethM hstatic hkP hinitP hy (g := g) hg (argsL := argsL) (rest := rest) (hlen _ hsigM) hstack hdg
  rcases hK m meth c ⟨T.setVm vm₁, locs, cells, slots⟩ { g with stack := rest } (.invokestatic index) mk argsL.toArray X₁ hg hsize hdg hW (X₁.named hnamed) (hpre vm₁ X₁.warmed) with ⟨v, B, X', hpost, hsteps⟩ | ⟨q, B, X', hpost, hsteps⟩
  · exact Or.inl ⟨v, vm₁, B, X₁.warmed, X', hpost, fun target h => hstep₁ _ fun acts => by rw [doInvoke_state]; exact hsteps.trans h⟩
  · exact Or.inr ⟨q, vm₁, B, X₁.warmed, X', hpost, hstep₁ _ fun acts => by rw [doInvoke_state]; exact hsteps⟩
theorem vx_callVW (X : Stand p l e R s m args below meth c T locs cells slots) (hexec : p.tables.exec = Jvm.exec) {own C : String} {index : Nat} {y : MethodName} {bytes : ByteArray} {maxL : Nat} {ret : Option FieldType} {hh : List (Nat × Nat × Nat × Nat)}
    (hown : s.vm.findClass own = some m.cls) (hlink : (Cond.methodLink own index y).before args s = true) (hinst : (Cond.instanceMethod y).before args s = true) (hsel : (Cond.selects C y y).before args s = true)
    (hcode : (Cond.codeWith y bytes maxL ret hh).before args s = true) (hy : y.cls ≠ "java/lang/invoke/MethodHandle" ∧ y.cls ≠ "java/lang/invoke/VarHandle")
    {W9 : Nat} {Pre : Pt → Array Value → Prop} {Post : Pt → Array Value → Option Value → Pt → Prop} (hK : Back l R p e below s args y 3 W9 Pre Post)
    {b : Addr} {cellB : Cell} (hcell : T.heap[b]? = some cellB) (hobj : cellB.vm.isStatics = false) (hcls : s.vm.findClass C = some cellB.cls)
    {g : JFrame} (hg : g.method = m) (hsize : g.locals.size = c.maxLocals) {argsL rest : List Value} (hlen : ∀ sig, parseMethodDescriptor y.desc = some sig → argsL.length = sig.parameters.length)
    (hstack : g.stack = argsL.reverse ++ .ref b :: rest) (hW : 2 * g.monitorRoom + (rest.map fun v => v.category).sum ≤ W9) (hdg : decode c.code g.pc = .ok (.invokevirtual index, 3))
    (hpre : ∀ vm₁, s.WarmedH vm₁ → Pre ⟨T.setVm vm₁, locs, cells, slots⟩ (Value.ref b :: argsL).toArray) :
    ∃ (v : Option Value) (vm₁ : Vm) (B : Pt), s.WarmedH vm₁ ∧ Stand p l e R s m args below meth c B.U B.locs B.cells B.slots ∧ Post ⟨T.setVm vm₁, locs, cells, slots⟩ (Value.ref b :: argsL).toArray v B ∧
      ∀ target, Steps p.tables e below (B.U.setTop { g with pc := g.pc + 3, stack := v.toList ++ rest }) target → Steps p.tables e below (T.setTop g) target := by
  obtain ⟨mk, methM, hnamed, hmethM, hstM, habM⟩ := Cond.instanceMethod_spec hinst
  obtain ⟨m8, methM', cM, hn8, hmethM', -, -, -, -, -, -, hsigM⟩ := Cond.codeWith_spec hcode
  cases Option.some.inj (hn8.symm.trans hnamed)
  cases hmethM.symm.trans hmethM'
  obtain ⟨c2, r2, m2, q1, q2, q3, q4, kP, hkP, hkPi⟩ := Cond.selects_spec hsel
  cases hcls.symm.trans q1
  cases (State.methodFound?_of_named hnamed hy).symm.trans q2
  cases hnamed.symm.trans q3
  have hselP : selectMethod e.platform s.vm cellB.cls mk = .method mk := by rw [Launch.admits_selectMethod X.admits]; exact q4
  obtain ⟨vm₁, X₁, hstep₁⟩ := X.invokevirtual hexec hown hlink hnamed hmethM hstM hkP hkPi hy (a := b) (cell := cellB) hcell
    (fun z h => by rw [h] at hobj; cases hobj) hselP hmethM habM hkP hkPi (g := g) hg (argsL := argsL) (rest := rest) (hlen _ hsigM) hstack hdg
  obtain ⟨v, B, X', hpost, hsteps⟩ := hK m meth c ⟨T.setVm vm₁, locs, cells, slots⟩ { g with stack := rest } (.invokevirtual index) mk (Value.ref b :: argsL).toArray X₁ hg hsize hdg hW (X₁.named hnamed) (hpre vm₁ X₁.warmed)
  exact ⟨v, vm₁, B, X₁.warmed, X', hpost, fun target h => hstep₁ _ fun acts => by rw [doInvoke_state]; exact hsteps.trans h⟩
abbrev vx_CVW (R : Room) (s : State) (args : Array Value) (own C : String) (index : Nat) (y : MethodName) (bytes : ByteArray) (maxL : Nat) (ret : Option FieldType) (hh : List (Nat × Nat × Nat × Nat)) (ws : List Cond) (rm : Room) (mc ms n : Nat) : Prop :=
  (rm.cells = mc ∧ rm.slots = ms ∧ rm.frames + 1 ≤ R.frames ∧ 8 + (maxL + 11) + rm.locals ≤ R.locals ∧ (∀ w ∈ ws, ∀ (a' : Array Value) (U : State), s.WarmedH U.vm → w.before a' U = true) ∧ Cond.codeWith y bytes maxL ret hh ∈ ws) ∧
  (Cond.codeWith y bytes maxL ret hh).before args s = true ∧ (Cond.initialized y.cls).before args s = true ∧ (y.cls ≠ "java/lang/invoke/MethodHandle" ∧ y.cls ≠ "java/lang/invoke/VarHandle") ∧
  (∀ sig, parseMethodDescriptor y.desc = some sig → n = sig.parameters.length) ∧ (Cond.methodLink own index y).before args s = true ∧ (Cond.instanceMethod y).before args s = true ∧ (Cond.selects C y y).before args s = true
theorem vx_cwVW {own C : String} {index maxL mc ms : Nat} {y : MethodName} {bytes : ByteArray} {ret : Option FieldType} {hh : List (Nat × Nat × Nat × Nat)} {Ts ws ws' : List Cond} {rm : Room} (n : Nat) (ht : ∀ w ∈ Ts, w.before args s = true) (hT : GoodIn Ts (wsV own index C y ws)) (hw : ws = Cond.codeWith y bytes maxL ret hh :: ws') (hrc : rm.cells = mc) (hrs : rm.slots = ms)
    (hd : y.cls = C ∧ y.cls ≠ "java/lang/invoke/MethodHandle" ∧ y.cls ≠ "java/lang/invoke/VarHandle" ∧ (parseMethodDescriptor y.desc).map (fun d => d.parameters.length) = some n) (hR : rm.frames + 1 ≤ R.frames ∧ 8 + (maxL + 11) + rm.locals ≤ R.locals) :
    vx_CVW R s args own C index y bytes maxL ret hh ws rm mc ms n := by
  obtain ⟨hC, hd⟩ := hd
  subst hC
  have ok : ∀ w ∈ wsV own index y.cls y ws, w.before args s = true := fun w h => ht w (hT w h).1
  have hG : GoodIn Ts ws := fun w h => hT w (by unfold wsV; exact List.mem_append_right _ h)
  have hc : Cond.codeWith y bytes maxL ret hh ∈ ws := by rw [hw]; exact List.mem_cons_self
  refine ⟨⟨hrc, hrs, hR.1, hR.2, pay_in ht hG, hc⟩, ht _ (hG _ hc).1, ok _ (by simp [wsV]), ⟨hd.1, hd.2.1⟩, fun sig h => ?_, ok _ (by simp [wsV]), ok _ (by simp [wsV]), ok _ (by simp [wsV])⟩
  have h2 := hd.2.2
  rw [h] at h2
  exact (Option.some.inj h2).symm
theorem vx_runVW {y : MethodName} {bytes cc : ByteArray} {maxL nL mc ms n index : Nat} {ret : Option FieldType} {hh : List (Nat × Nat × Nat × Nat)} {ws : List Cond} {rm : Room} {Pc : Array Value → State → Prop} {Qc : Array Value → State → Outcome → State → Prop} {free : Addr → Prop} {Ts : List Cond} {own C : String} {b : Addr} {As rest : List Value} {g : JFrame}
    (S : CallFix p m c cc nL s args Ts own) (hM : Met l y ws rm Pc Qc mc ms free) (cw : vx_CVW R s args own C index y bytes maxL ret hh ws rm mc ms n) (hp : PreV s H C b Pc As)
    (hg : g.method = m) (hn : As.length = n) (hsize : g.locals.size = nL) (hstack : g.stack = As.reverse ++ .ref b :: rest) (hW : 2 * g.monitorRoom + (rest.map fun v => v.category).sum ≤ 8) (hdg : decode cc g.pc = .ok (.invokevirtual index, 3)) (hf : cells + mc ≤ R.cells ∧ slots + ms ≤ R.slots) :
    va_Run p l e R s m args below meth c H locs cells slots mc ms g rest (Qc (Value.ref b :: As).toArray) free := by
  obtain ⟨⟨hrc, hrs, hfr, hlo, hws, hcw⟩, hcode, hini, hy, hlen, hl, hin, hse⟩ := cw
  have hK : Back l R p e below s args y 3 8 (PreOf R mc ms Pc) (PostOf Qc mc ms free) := va_backW (hh := hh) (bytes := bytes) (maxL := maxL) (ret := ret) hM hp.1 hrc hrs hfr hlo hws hcw (fun a' U hW => word_at hW (Or.inl (by first | rfl | simp [Cond.onTables, Cond.keeps, Cond.steady])) hini)
  obtain ⟨hx, hb, hml, ho, -⟩ := S
  obtain ⟨-, ⟨cellB, hcB, hoB, hclB⟩, hPc⟩ := hp
  intro T hT X
  obtain ⟨v, vm₁, ⟨U', l2, c2, s2⟩, hW₁, X', ⟨g', mk, t, L, e1, e2, hq, h1, hL, h2, h3⟩, st⟩ := vx_callVW X hx (C := C) (hh := hh) (bytes := bytes) (maxL := maxL) (ret := ret) ho hl hin hse hcode hy hK (by rw [hT]; exact hcB) hoB hclB hg (hsize.trans hml.symm) (argsL := As) (rest := rest) (fun sig h => hn.trans (hlen sig h)) hstack hW (by rw [hb]; exact hdg)
    (fun vm₁ hW₁ => ⟨hf.1, hf.2, hPc (T.setVm vm₁) hT hW₁⟩)
  dsimp only [Pt.U, Pt.locs, Pt.cells, Pt.slots] at X' e1 e2 h1 h2 h3 st
  subst h1; subst h2; subst h3
  exact ⟨v, (T.setVm vm₁).calling g' mk (Value.ref b :: As).toArray, t, U', L, hT, X', hL, e1, e2, hq, st⟩
section
variable {y : MethodName} {bytes cc : ByteArray} {maxL nL mc ms n index : Nat} {ret : Option FieldType} {ws : List Cond} {rm : Room} {Pc : Array Value → State → Prop} {Qc : Array Value → State → Outcome → State → Prop} {XC : String → State → State → Prop} {free : Addr → Prop} {Ts : List Cond} {own C : String} {b : Addr} {As rest : List Value} {g : JFrame}
theorem vx_runVX {hh : List (Nat × Nat × Nat × Nat)} (S : CallFix p m c cc nL s args Ts own) (hM : vx_Met l y ws rm Pc Qc XC mc ms free) (cw : vx_CVW R s args own C index y bytes maxL ret hh ws rm mc ms n) (hp : PreV s H C b Pc As)
    (hg : g.method = m) (hn : As.length = n) (hsize : g.locals.size = nL) (hstack : g.stack = As.reverse ++ .ref b :: rest) (hW : 2 * g.monitorRoom + (rest.map fun v => v.category).sum ≤ 8) (hdg : decode cc g.pc = .ok (.invokevirtual index, 3)) (hf : cells + mc ≤ R.cells ∧ slots + ms ≤ R.slots) :
    vx_Run p l e R s m args below meth c H locs cells slots mc ms g rest (Qc (Value.ref b :: As).toArray) XC free := by
  obtain ⟨⟨hrc, hrs, hfr, hlo, hws, hcw⟩, hcode, hini, hy, hlen, hl, hin, hse⟩ := cw
  have hK : vx_Back l R p e below s args y 3 8 (PreOf R mc ms Pc) (PostOf Qc mc ms free) (vx_Post XC mc ms free) := vx_backW (hh := hh) (bytes := bytes) (maxL := maxL) (ret := ret) hM hp.1 hrc hrs hfr hlo hws hcw (fun a' U hW => word_at hW (Or.inl (by first | rfl | simp [Cond.onTables, Cond.keeps, Cond.steady])) hini)
  obtain ⟨hx, hb, hml, ho, -⟩ := S
  obtain ⟨-, ⟨cellB, hcB, hoB, hclB⟩, hPc⟩ := hp
  intro T hT X
  rcases vx_callVX X hx (C := C) (hh := hh) (bytes := bytes) (maxL := maxL) (ret := ret) ho hl hin hse hcode hy hK (by rw [hT]; exact hcB) hoB hclB hg (hsize.trans hml.symm) (argsL := As) (rest := rest) (fun sig h => hn.trans (hlen sig h)) hstack hW (by rw [hb]; exact hdg)
    (fun vm₁ hW₁ => ⟨hf.1, hf.2, hPc (T.setVm vm₁) hT hW₁⟩) with ⟨v, vm₁, ⟨U', l2, c2, s2⟩, hW₁, X', ⟨g', mk, t, L, e1, e2, hq, h1, hL, h2, h3⟩, st⟩ | ⟨q, vm₁, ⟨U', l2, c2, s2⟩, hW₁, X', ⟨g', mk, t, L, E, ce, e1, e2, hq, hce, hcv, hcl, h1, hL, h2, h3⟩, st⟩
  · dsimp only [Pt.U, Pt.locs, Pt.cells, Pt.slots] at X' e1 e2 h1 h2 h3 st
    subst h1; subst h2; subst h3
    exact Or.inl ⟨v, (T.setVm vm₁).calling g' mk (Value.ref b :: As).toArray, t, U', L, hT, X', hL, e1, e2, hq, st⟩
  · dsimp only [Pt.U, Pt.locs, Pt.cells, Pt.slots] at X' e1 e2 h1 h2 h3 st hcl
    subst h1; subst h2; subst h3
    exact Or.inr ⟨q, (T.setVm vm₁).calling g' mk (Value.ref b :: As).toArray, t, U', L, E, ce, hT, X', hL, e1, e2, hq, hce, hcv, vx_cls hW₁ hcl, st⟩
theorem vx_runSX {hh : List (Nat × Nat × Nat × Nat)} (S : CallFix p m c cc nL s args Ts own) (hM : vx_Met l y ws rm Pc Qc XC mc ms free) (cw : vx_CSW R s args own index y bytes maxL ret hh ws rm mc ms n) (hp : PreS s H Pc As)
    (hg : g.method = m) (hn : As.length = n) (hsize : g.locals.size = nL) (hstack : g.stack = As.reverse ++ rest) (hW : 2 * g.monitorRoom + (rest.map fun v => v.category).sum ≤ 8) (hdg : decode cc g.pc = .ok (.invokestatic index, 3)) (hf : cells + mc ≤ R.cells ∧ slots + ms ≤ R.slots) :
    vx_Run p l e R s m args below meth c H locs cells slots mc ms g rest (Qc As.toArray) XC free := by
  obtain ⟨⟨hrc, hrs, hfr, hlo, hws, hcw⟩, hcode, hini, hy, hlen, hl, hstt⟩ := cw
  have hK : vx_Back l R p e below s args y 3 8 (PreOf R mc ms Pc) (PostOf Qc mc ms free) (vx_Post XC mc ms free) := vx_backW (hh := hh) (bytes := bytes) (maxL := maxL) (ret := ret) hM hp.1 hrc hrs hfr hlo hws hcw (fun a' U hW => word_at hW (Or.inl (by first | rfl | simp [Cond.onTables, Cond.keeps, Cond.steady])) hini)
  obtain ⟨hx, hb, hml, ho, -⟩ := S
  intro T hT X
  rcases vx_callSX X hx (hh := hh) (bytes := bytes) (maxL := maxL) (ret := ret) ho hl hstt hini hcode hy hK hg (hsize.trans hml.symm) (argsL := As) (rest := rest) (fun sig h => hn.trans (hlen sig h)) hstack hW (by rw [hb]; exact hdg)
    (fun vm₁ hW₁ => ⟨hf.1, hf.2, hp.2 (T.setVm vm₁) hT hW₁⟩) with ⟨v, vm₁, ⟨U', l2, c2, s2⟩, hW₁, X', ⟨g', mk, t, L, e1, e2, hq, h1, hL, h2, h3⟩, st⟩ | ⟨q, vm₁, ⟨U', l2, c2, s2⟩, hW₁, X', ⟨g', mk, t, L, E, ce, e1, e2, hq, hce, hcv, hcl, h1, hL, h2, h3⟩, st⟩
  · dsimp only [Pt.U, Pt.locs, Pt.cells, Pt.slots] at X' e1 e2 h1 h2 h3 st
    subst h1; subst h2; subst h3
    exact Or.inl ⟨v, (T.setVm vm₁).calling g' mk As.toArray, t, U', L, hT, X', hL, e1, e2, hq, st⟩
  · dsimp only [Pt.U, Pt.locs, Pt.cells, Pt.slots] at X' e1 e2 h1 h2 h3 st hcl
    subst h1; subst h2; subst h3
    exact Or.inr ⟨q, (T.setVm vm₁).calling g' mk As.toArray, t, U', L, E, ce, hT, X', hL, e1, e2, hq, hce, hcv, vx_cls hW₁ hcl, st⟩
end
end VXH
theorem vx_ofWH {l : Launch} {y : MethodName} {ws ws' : List Cond} {rm : Room} {Pc : Array Value → State → Prop} {Qc : Array Value → State → Outcome → State → Prop} {XC : String → State → State → Prop} {mc ms : Nat} {free : Addr → Prop} {cc : ByteArray} {maxL : Nat} {ret : Option FieldType} {hh : List (Nat × Nat × Nat × Nat)}
    (hy : plainName y.cls = true) (hw : ws = Cond.codeWith y cc maxL ret hh :: ws')
    (body : ∀ p e s m args below meth c s₁, BodyLoose p l y (headSpec ws rm) cc maxL ret e s m args below meth c s₁ → c.maxLocals = maxL → Pc args s →
      W p l e (headSpec ws rm).room s m args below meth c s.heap [] 0 0 (vx_MQ below Qc XC args s mc ms free) (entryFrame m args maxL)) : vx_Met l y ws rm Pc Qc XC mc ms free := by
  refine MetFree.of_bodyS (code := cc) (maxLocals := maxL) (ret := ret) hy ?_ ?_
  · intro args s m h hn
    obtain ⟨m9, meth, c, hn9, h1, h2, h3, h4, -, h5, h6, -⟩ := Cond.codeWith_spec (atoms_spec (ws := ws) h _ (by rw [hw]; exact List.mem_cons_self))
    cases hn.symm.trans hn9
    exact ⟨meth, c, h1, h2, h3, h4, h5, h6⟩
  · intro p e s m args below meth c s₁ B hml hP _
    have hh0 : s₁.heap = s.heap := by rw [B.state]; rfl
    obtain ⟨t, a1, o, b1, b2, b3⟩ := body p e s m args below meth c s₁ B hml hP s₁ hh0 (Stand.of_body B)
    exact ⟨t, o, a1, b1, b2, b3⟩
/-! ===== END ===== -/
end
section
/-! ===== BEGIN printed: names, fields, word lists, decode rows ===== -/
def RX0 : String := "FlexibleBoxes$Box"
def TX0 : u_T := fun k => match k with
  | 0 => ("FlexibleBoxes$Box", "number", "I", true)
  | 1 => ("FlexibleBoxes$Box", "style", "[I", true)
  | 2 => ("FlexibleBoxes$Box", "exists", "Z", false)
  | 3 => ("FlexibleBoxes$Box", "parent", "LFlexibleBoxes$Box;", false)
  | 4 => ("FlexibleBoxes$Box", "container", "Z", false)
  | 5 => ("FlexibleBoxes$Box", "shown", "Z", false)
  | 6 => ("FlexibleBoxes$Box", "firstKid", "LFlexibleBoxes$Box;", false)
  | 7 => ("FlexibleBoxes$Box", "nextKid", "LFlexibleBoxes$Box;", false)
  | 8 => ("FlexibleBoxes$Box", "kids", "I", false)
  | 9 => ("FlexibleBoxes$Box", "heir", "LFlexibleBoxes$Box;", false)
  | 10 => ("FlexibleBoxes$Box", "naturalWidth", "I", false)
  | 11 => ("FlexibleBoxes$Box", "naturalHeight", "I", false)
  | 12 => ("FlexibleBoxes$Box", "x", "I", false)
  | 13 => ("FlexibleBoxes$Box", "y", "I", false)
  | 14 => ("FlexibleBoxes$Box", "width", "I", false)
  | 15 => ("FlexibleBoxes$Box", "height", "I", false)
  | 16 => ("FlexibleBoxes$Box", "lineCount", "I", false)
  | _ => ("FlexibleBoxes$Box", "line", "I", false)
def tyX0 : Nat → FieldType := fun k => match k with
  | 0 => .int
  | 1 => .array .int
  | 2 => .boolean
  | 3 => .object "FlexibleBoxes$Box"
  | 4 => .boolean
  | 5 => .boolean
  | 6 => .object "FlexibleBoxes$Box"
  | 7 => .object "FlexibleBoxes$Box"
  | 8 => .int
  | 9 => .object "FlexibleBoxes$Box"
  | 10 => .int
  | 11 => .int
  | 12 => .int
  | 13 => .int
  | 14 => .int
  | 15 => .int
  | 16 => .int
  | _ => .int
abbrev wsX00 : List Cond := u_ws RX0 TX0 18
theorem nmX0 : ∀ a, a < 18 → ∀ b, b < 18 → a ≠ b → (TX0 a).2.1 ≠ (TX0 b).2.1 := by decide +kernel
theorem tyX0_ok : ∀ k, k < 18 → parseFieldDescriptor (TX0 k).2.2.1 = some (tyX0 k) := by decide +kernel
abbrev cX0_init : ByteArray := prog_2_method_1_code
def yX0_init : MethodName := ⟨RX0, "<init>", "(I)V"⟩
abbrev cX0_begin : ByteArray := prog_2_method_2_code
def yX0_begin : MethodName := ⟨RX0, "begin", "(LFlexibleBoxes$Box;)V"⟩
abbrev cX0_of : ByteArray := prog_2_method_3_code
def yX0_of : MethodName := ⟨RX0, "of", "(I)I"⟩
abbrev cX0_change : ByteArray := prog_2_method_4_code
def yX0_change : MethodName := ⟨RX0, "change", "(II)I"⟩
abbrev cX0_isRoot : ByteArray := prog_2_method_5_code
def yX0_isRoot : MethodName := ⟨RX0, "isRoot", "()Z"⟩
abbrev cX0_parentNumber : ByteArray := prog_2_method_6_code
def yX0_parentNumber : MethodName := ⟨RX0, "parentNumber", "()I"⟩
abbrev cX0_isColumn : ByteArray := prog_2_method_7_code
def yX0_isColumn : MethodName := ⟨RX0, "isColumn", "()Z"⟩
abbrev cX0_wraps : ByteArray := prog_2_method_8_code
def yX0_wraps : MethodName := ⟨RX0, "wraps", "()Z"⟩
abbrev cX0_unlink : ByteArray := prog_2_method_9_code
def yX0_unlink : MethodName := ⟨RX0, "unlink", "()V"⟩
abbrev cX0_adopt : ByteArray := prog_2_method_10_code
def yX0_adopt : MethodName := ⟨RX0, "adopt", "(LFlexibleBoxes$Box;)V"⟩
abbrev cX0_innerWidth : ByteArray := prog_2_method_11_code
def yX0_innerWidth : MethodName := ⟨RX0, "innerWidth", "()I"⟩
abbrev cX0_innerHeight : ByteArray := prog_2_method_12_code
def yX0_innerHeight : MethodName := ⟨RX0, "innerHeight", "()I"⟩
abbrev cX0_margins : ByteArray := prog_2_method_13_code
def yX0_margins : MethodName := ⟨RX0, "margins", "()I"⟩
abbrev cX0_limitWidth : ByteArray := prog_2_method_14_code
def yX0_limitWidth : MethodName := ⟨RX0, "limitWidth", "(I)I"⟩
abbrev cX0_limitHeight : ByteArray := prog_2_method_15_code
def yX0_limitHeight : MethodName := ⟨RX0, "limitHeight", "(I)I"⟩
abbrev cX0_fixedSize : ByteArray := prog_2_method_16_code
def yX0_fixedSize : MethodName := ⟨RX0, "fixedSize", "(I)I"⟩
abbrev cX0_alignment : ByteArray := prog_2_method_17_code
def yX0_alignment : MethodName := ⟨RX0, "alignment", "()I"⟩
abbrev cX0_textLines : ByteArray := prog_2_method_18_code
def yX0_textLines : MethodName := ⟨RX0, "textLines", "()I"⟩
abbrev cX0_covers : ByteArray := prog_2_method_19_code
def yX0_covers : MethodName := ⟨RX0, "covers", "(II)Z"⟩
def RX1 : String := "FlexibleBoxes$Flex"
def TX1 : u_T := fun k => match k with
  | 0 => ("FlexibleBoxes$Flex", "bases", "[I", true)
  | 1 => ("FlexibleBoxes$Flex", "leasts", "[I", true)
  | 2 => ("FlexibleBoxes$Flex", "greatests", "[I", true)
  | 3 => ("FlexibleBoxes$Flex", "grows", "[I", true)
  | 4 => ("FlexibleBoxes$Flex", "shrinks", "[I", true)
  | 5 => ("FlexibleBoxes$Flex", "factors", "[I", true)
  | 6 => ("FlexibleBoxes$Flex", "sizes", "[I", true)
  | 7 => ("FlexibleBoxes$Flex", "deviations", "[I", true)
  | 8 => ("FlexibleBoxes$Flex", "settled", "[Z", true)
  | 9 => ("FlexibleBoxes$Flex", "count", "I", false)
  | _ => ("FlexibleBoxes$Flex", "margins", "I", false)
def tyX1 : Nat → FieldType := fun k => match k with
  | 0 => .array .int
  | 1 => .array .int
  | 2 => .array .int
  | 3 => .array .int
  | 4 => .array .int
  | 5 => .array .int
  | 6 => .array .int
  | 7 => .array .int
  | 8 => .array .boolean
  | 9 => .int
  | _ => .int
abbrev wsX10 : List Cond := u_ws RX1 TX1 11
theorem nmX1 : ∀ a, a < 11 → ∀ b, b < 11 → a ≠ b → (TX1 a).2.1 ≠ (TX1 b).2.1 := by decide +kernel
theorem tyX1_ok : ∀ k, k < 11 → parseFieldDescriptor (TX1 k).2.2.1 = some (tyX1 k) := by decide +kernel
abbrev cX1_init : ByteArray := prog_3_method_1_code
def yX1_init : MethodName := ⟨RX1, "<init>", "()V"⟩
abbrev cX1_clear : ByteArray := prog_3_method_2_code
def yX1_clear : MethodName := ⟨RX1, "clear", "()V"⟩
abbrev cX1_put : ByteArray := prog_3_method_3_code
def yX1_put : MethodName := ⟨RX1, "put", "(LFlexibleBoxes$Box;Z)V"⟩
abbrev cX1_baseOf : ByteArray := prog_3_method_4_code
def yX1_baseOf : MethodName := ⟨RX1, "baseOf", "(LFlexibleBoxes$Box;Z)I"⟩
abbrev cX1_sizeAt : ByteArray := prog_3_method_5_code
def yX1_sizeAt : MethodName := ⟨RX1, "sizeAt", "(I)I"⟩
abbrev cX1_share : ByteArray := prog_3_method_6_code
def yX1_share : MethodName := ⟨RX1, "share", "(II)V"⟩
abbrev cX1_begin : ByteArray := prog_3_method_7_code
def yX1_begin : MethodName := ⟨RX1, "begin", "()I"⟩
abbrev cX1_restOf : ByteArray := prog_3_method_8_code
def yX1_restOf : MethodName := ⟨RX1, "restOf", "(I)I"⟩
abbrev cX1_openFactors : ByteArray := prog_3_method_9_code
def yX1_openFactors : MethodName := ⟨RX1, "openFactors", "()J"⟩
abbrev cX1_propose : ByteArray := prog_3_method_10_code
def yX1_propose : MethodName := ⟨RX1, "propose", "(JJZ)J"⟩
abbrev cX1_settle : ByteArray := prog_3_method_11_code
def yX1_settle : MethodName := ⟨RX1, "settle", "(J)V"⟩
def RX2 : String := "FlexibleBoxes$Layout"
def TX2 : u_T := fun k => match k with
  | 0 => ("FlexibleBoxes$Layout", "tree", "LFlexibleBoxes$Tree;", true)
  | 1 => ("FlexibleBoxes$Layout", "flex", "LFlexibleBoxes$Flex;", true)
  | _ => ("FlexibleBoxes$Layout", "stale", "Z", false)
def tyX2 : Nat → FieldType := fun k => match k with
  | 0 => .object "FlexibleBoxes$Tree"
  | 1 => .object "FlexibleBoxes$Flex"
  | _ => .boolean
abbrev wsX20 : List Cond := u_ws RX2 TX2 3
theorem nmX2 : ∀ a, a < 3 → ∀ b, b < 3 → a ≠ b → (TX2 a).2.1 ≠ (TX2 b).2.1 := by decide +kernel
theorem tyX2_ok : ∀ k, k < 3 → parseFieldDescriptor (TX2 k).2.2.1 = some (tyX2 k) := by decide +kernel
abbrev cX2_init : ByteArray := prog_4_method_1_code
def yX2_init : MethodName := ⟨RX2, "<init>", "(LFlexibleBoxes$Tree;)V"⟩
abbrev cX2_arrange : ByteArray := prog_4_method_2_code
def yX2_arrange : MethodName := ⟨RX2, "arrange", "()V"⟩
abbrev cX2_measureWidth : ByteArray := prog_4_method_3_code
def yX2_measureWidth : MethodName := ⟨RX2, "measureWidth", "(LFlexibleBoxes$Box;)V"⟩
abbrev cX2_contentWidth : ByteArray := prog_4_method_4_code
def yX2_contentWidth : MethodName := ⟨RX2, "contentWidth", "(LFlexibleBoxes$Box;)I"⟩
abbrev cX2_spreadWidths : ByteArray := prog_4_method_5_code
def yX2_spreadWidths : MethodName := ⟨RX2, "spreadWidths", "(LFlexibleBoxes$Box;)V"⟩
abbrev cX2_spreadColumn : ByteArray := prog_4_method_6_code
def yX2_spreadColumn : MethodName := ⟨RX2, "spreadColumn", "(LFlexibleBoxes$Box;)V"⟩
abbrev cX2_breakLines : ByteArray := prog_4_method_7_code
def yX2_breakLines : MethodName := ⟨RX2, "breakLines", "(LFlexibleBoxes$Box;)V"⟩
abbrev cX2_lineEnd : ByteArray := prog_4_method_8_code
def yX2_lineEnd : MethodName := ⟨RX2, "lineEnd", "(LFlexibleBoxes$Box;)LFlexibleBoxes$Box;"⟩
abbrev cX2_flexKids : ByteArray := prog_4_method_9_code
def yX2_flexKids : MethodName := ⟨RX2, "flexKids", "(LFlexibleBoxes$Box;LFlexibleBoxes$Box;ZII)V"⟩
abbrev cX2_measureHeight : ByteArray := prog_4_method_10_code
def yX2_measureHeight : MethodName := ⟨RX2, "measureHeight", "(LFlexibleBoxes$Box;)V"⟩
abbrev cX2_contentHeight : ByteArray := prog_4_method_11_code
def yX2_contentHeight : MethodName := ⟨RX2, "contentHeight", "(LFlexibleBoxes$Box;)I"⟩
abbrev cX2_lineHeight : ByteArray := prog_4_method_12_code
def yX2_lineHeight : MethodName := ⟨RX2, "lineHeight", "(LFlexibleBoxes$Box;LFlexibleBoxes$Box;)I"⟩
abbrev cX2_placeRow : ByteArray := prog_4_method_13_code
def yX2_placeRow : MethodName := ⟨RX2, "placeRow", "(LFlexibleBoxes$Box;)V"⟩
abbrev cX2_placeColumn : ByteArray := prog_4_method_14_code
def yX2_placeColumn : MethodName := ⟨RX2, "placeColumn", "(LFlexibleBoxes$Box;)V"⟩
abbrev cX2_placeLine : ByteArray := prog_4_method_15_code
def yX2_placeLine : MethodName := ⟨RX2, "placeLine", "(LFlexibleBoxes$Box;LFlexibleBoxes$Box;LFlexibleBoxes$Box;II)V"⟩
abbrev cX2_heightInLine : ByteArray := prog_4_method_16_code
def yX2_heightInLine : MethodName := ⟨RX2, "heightInLine", "(LFlexibleBoxes$Box;I)I"⟩
abbrev cX2_justifyShift : ByteArray := prog_4_method_17_code
def yX2_justifyShift : MethodName := ⟨RX2, "justifyShift", "(IIII)I"⟩
abbrev cX2_alignShift : ByteArray := prog_4_method_18_code
def yX2_alignShift : MethodName := ⟨RX2, "alignShift", "(II)I"⟩
abbrev cX2_kidsOverflow : ByteArray := prog_4_method_19_code
def yX2_kidsOverflow : MethodName := ⟨RX2, "kidsOverflow", "(LFlexibleBoxes$Box;)I"⟩
abbrev cX2_textOverflow : ByteArray := prog_4_method_20_code
def yX2_textOverflow : MethodName := ⟨RX2, "textOverflow", "(LFlexibleBoxes$Box;)I"⟩
abbrev cX2_topmostAt : ByteArray := prog_4_method_21_code
def yX2_topmostAt : MethodName := ⟨RX2, "topmostAt", "(II)I"⟩
abbrev cX2_paintedAfter : ByteArray := prog_4_method_22_code
def yX2_paintedAfter : MethodName := ⟨RX2, "paintedAfter", "(LFlexibleBoxes$Box;)LFlexibleBoxes$Box;"⟩
abbrev cX2_narrowestFor : ByteArray := prog_4_method_23_code
def yX2_narrowestFor : MethodName := ⟨RX2, "narrowestFor", "(LFlexibleBoxes$Box;I)I"⟩
abbrev cX2_linesVary : ByteArray := prog_4_method_24_code
def yX2_linesVary : MethodName := ⟨RX2, "linesVary", "(LFlexibleBoxes$Box;)Z"⟩
abbrev cX2_linesAt : ByteArray := prog_4_method_25_code
def yX2_linesAt : MethodName := ⟨RX2, "linesAt", "(LFlexibleBoxes$Box;I)I"⟩
def RX3 : String := "FlexibleBoxes$Snapshot"
def TX3 : u_T := fun k => match k with
  | 0 => ("FlexibleBoxes$Snapshot", "exists", "[Z", true)
  | 1 => ("FlexibleBoxes$Snapshot", "parents", "[I", true)
  | 2 => ("FlexibleBoxes$Snapshot", "styles", "[[I", true)
  | 3 => ("FlexibleBoxes$Snapshot", "given", "I", false)
  | 4 => ("FlexibleBoxes$Snapshot", "viewportWidth", "I", false)
  | _ => ("FlexibleBoxes$Snapshot", "viewportHeight", "I", false)
def tyX3 : Nat → FieldType := fun k => match k with
  | 0 => .array .boolean
  | 1 => .array .int
  | 2 => .array (.array .int)
  | 3 => .int
  | 4 => .int
  | _ => .int
abbrev wsX30 : List Cond := u_ws RX3 TX3 6
theorem nmX3 : ∀ a, a < 6 → ∀ b, b < 6 → a ≠ b → (TX3 a).2.1 ≠ (TX3 b).2.1 := by decide +kernel
theorem tyX3_ok : ∀ k, k < 6 → parseFieldDescriptor (TX3 k).2.2.1 = some (tyX3 k) := by decide +kernel
abbrev cX3_init : ByteArray := prog_5_method_1_code
def yX3_init : MethodName := ⟨RX3, "<init>", "()V"⟩
def RX4 : String := "FlexibleBoxes$Tree"
def TX4 : u_T := fun k => match k with
  | 0 => ("FlexibleBoxes$Tree", "boxes", "[LFlexibleBoxes$Box;", true)
  | 1 => ("FlexibleBoxes$Tree", "root", "LFlexibleBoxes$Box;", true)
  | 2 => ("FlexibleBoxes$Tree", "given", "I", false)
  | 3 => ("FlexibleBoxes$Tree", "viewportWidth", "I", false)
  | _ => ("FlexibleBoxes$Tree", "viewportHeight", "I", false)
def tyX4 : Nat → FieldType := fun k => match k with
  | 0 => .array (.object "FlexibleBoxes$Box")
  | 1 => .object "FlexibleBoxes$Box"
  | 2 => .int
  | 3 => .int
  | _ => .int
abbrev wsX40 : List Cond := u_ws RX4 TX4 5
theorem nmX4 : ∀ a, a < 5 → ∀ b, b < 5 → a ≠ b → (TX4 a).2.1 ≠ (TX4 b).2.1 := by decide +kernel
theorem tyX4_ok : ∀ k, k < 5 → parseFieldDescriptor (TX4 k).2.2.1 = some (tyX4 k) := by decide +kernel
abbrev cX4_init : ByteArray := prog_6_method_1_code
def yX4_init : MethodName := ⟨RX4, "<init>", "()V"⟩
abbrev cX4_at : ByteArray := prog_6_method_2_code
def yX4_at : MethodName := ⟨RX4, "at", "(I)LFlexibleBoxes$Box;"⟩
abbrev cX4_shownAt : ByteArray := prog_6_method_3_code
def yX4_shownAt : MethodName := ⟨RX4, "shownAt", "(I)LFlexibleBoxes$Box;"⟩
abbrev cX4_isFull : ByteArray := prog_6_method_4_code
def yX4_isFull : MethodName := ⟨RX4, "isFull", "()Z"⟩
abbrev cX4_append : ByteArray := prog_6_method_5_code
def yX4_append : MethodName := ⟨RX4, "append", "(LFlexibleBoxes$Box;)I"⟩
abbrev cX4_cut : ByteArray := prog_6_method_6_code
def yX4_cut : MethodName := ⟨RX4, "cut", "(LFlexibleBoxes$Box;)I"⟩
abbrev cX4_count : ByteArray := prog_6_method_7_code
def yX4_count : MethodName := ⟨RX4, "count", "()I"⟩
abbrev cX4_link : ByteArray := prog_6_method_8_code
def yX4_link : MethodName := ⟨RX4, "link", "()V"⟩
abbrev cX4_copyTo : ByteArray := prog_6_method_9_code
def yX4_copyTo : MethodName := ⟨RX4, "copyTo", "(LFlexibleBoxes$Snapshot;)V"⟩
abbrev cX4_takeFrom : ByteArray := prog_6_method_10_code
def yX4_takeFrom : MethodName := ⟨RX4, "takeFrom", "(LFlexibleBoxes$Snapshot;)V"⟩
def RX5 : String := "FlexibleBoxes"
def TX5 : u_T := fun k => match k with
  | 0 => ("FlexibleBoxes", "tree", "LFlexibleBoxes$Tree;", true)
  | 1 => ("FlexibleBoxes", "layout", "LFlexibleBoxes$Layout;", true)
  | _ => ("FlexibleBoxes", "slots", "[LFlexibleBoxes$Snapshot;", true)
def tyX5 : Nat → FieldType := fun k => match k with
  | 0 => .object "FlexibleBoxes$Tree"
  | 1 => .object "FlexibleBoxes$Layout"
  | _ => .array (.object "FlexibleBoxes$Snapshot")
abbrev wsX50 : List Cond := u_ws RX5 TX5 3
theorem nmX5 : ∀ a, a < 3 → ∀ b, b < 3 → a ≠ b → (TX5 a).2.1 ≠ (TX5 b).2.1 := by decide +kernel
theorem tyX5_ok : ∀ k, k < 3 → parseFieldDescriptor (TX5 k).2.2.1 = some (tyX5 k) := by decide +kernel
abbrev cX5_init : ByteArray := prog_1_method_1_code
def yX5_init : MethodName := ⟨RX5, "<init>", "()V"⟩
abbrev cX5_add : ByteArray := prog_1_method_2_code
def yX5_add : MethodName := ⟨RX5, "add", "(I)I"⟩
abbrev cX5_remove : ByteArray := prog_1_method_3_code
def yX5_remove : MethodName := ⟨RX5, "remove", "(I)I"⟩
abbrev cX5_boxes : ByteArray := prog_1_method_4_code
def yX5_boxes : MethodName := ⟨RX5, "boxes", "()I"⟩
abbrev cX5_parent : ByteArray := prog_1_method_5_code
def yX5_parent : MethodName := ⟨RX5, "parent", "(I)I"⟩
abbrev cX5_child : ByteArray := prog_1_method_6_code
def yX5_child : MethodName := ⟨RX5, "child", "(II)I"⟩
abbrev cX5_set : ByteArray := prog_1_method_7_code
def yX5_set : MethodName := ⟨RX5, "set", "(III)I"⟩
abbrev cX5_get : ByteArray := prog_1_method_8_code
def yX5_get : MethodName := ⟨RX5, "get", "(II)I"⟩
abbrev cX5_copyStyle : ByteArray := prog_1_method_9_code
def yX5_copyStyle : MethodName := ⟨RX5, "copyStyle", "(II)I"⟩
abbrev cX5_viewport : ByteArray := prog_1_method_10_code
def yX5_viewport : MethodName := ⟨RX5, "viewport", "(II)V"⟩
abbrev cX5_x : ByteArray := prog_1_method_11_code
def yX5_x : MethodName := ⟨RX5, "x", "(I)I"⟩
abbrev cX5_y : ByteArray := prog_1_method_12_code
def yX5_y : MethodName := ⟨RX5, "y", "(I)I"⟩
abbrev cX5_width : ByteArray := prog_1_method_13_code
def yX5_width : MethodName := ⟨RX5, "width", "(I)I"⟩
abbrev cX5_height : ByteArray := prog_1_method_14_code
def yX5_height : MethodName := ⟨RX5, "height", "(I)I"⟩
abbrev cX5_naturalWidth : ByteArray := prog_1_method_15_code
def yX5_naturalWidth : MethodName := ⟨RX5, "naturalWidth", "(I)I"⟩
abbrev cX5_naturalHeight : ByteArray := prog_1_method_16_code
def yX5_naturalHeight : MethodName := ⟨RX5, "naturalHeight", "(I)I"⟩
abbrev cX5_lines : ByteArray := prog_1_method_17_code
def yX5_lines : MethodName := ⟨RX5, "lines", "(I)I"⟩
abbrev cX5_lineOf : ByteArray := prog_1_method_18_code
def yX5_lineOf : MethodName := ⟨RX5, "lineOf", "(I)I"⟩
abbrev cX5_overflow : ByteArray := prog_1_method_19_code
def yX5_overflow : MethodName := ⟨RX5, "overflow", "(I)I"⟩
abbrev cX5_hit : ByteArray := prog_1_method_20_code
def yX5_hit : MethodName := ⟨RX5, "hit", "(II)I"⟩
abbrev cX5_widthFor : ByteArray := prog_1_method_21_code
def yX5_widthFor : MethodName := ⟨RX5, "widthFor", "(II)I"⟩
abbrev cX5_save : ByteArray := prog_1_method_22_code
def yX5_save : MethodName := ⟨RX5, "save", "(I)V"⟩
abbrev cX5_restore : ByteArray := prog_1_method_23_code
def yX5_restore : MethodName := ⟨RX5, "restore", "(I)V"⟩
abbrev cX5_existing : ByteArray := prog_1_method_24_code
def yX5_existing : MethodName := ⟨RX5, "existing", "(I)LFlexibleBoxes$Box;"⟩
abbrev cX5_laidOut : ByteArray := prog_1_method_25_code
def yX5_laidOut : MethodName := ⟨RX5, "laidOut", "(LFlexibleBoxes$Box;)LFlexibleBoxes$Box;"⟩
abbrev cX5_isProperty : ByteArray := prog_1_method_26_code
def yX5_isProperty : MethodName := ⟨RX5, "isProperty", "(I)Z"⟩
abbrev cX5_isViewportLength : ByteArray := prog_1_method_27_code
def yX5_isViewportLength : MethodName := ⟨RX5, "isViewportLength", "(I)Z"⟩
abbrev cX5_limited : ByteArray := prog_1_method_28_code
def yX5_limited : MethodName := ⟨RX5, "limited", "(III)I"⟩
abbrev cX5_gaps : ByteArray := prog_1_method_29_code
def yX5_gaps : MethodName := ⟨RX5, "gaps", "(II)I"⟩
def RX6 : String := "FlexibleBoxesModel"
def TX6 : u_T := fun k => match k with
  | 0 => ("FlexibleBoxesModel", "at", "[I", true)
  | 1 => ("FlexibleBoxesModel", "slots", "[I", true)
  | 2 => ("FlexibleBoxesModel", "isSaved", "[Z", true)
  | 3 => ("FlexibleBoxesModel", "thrown", "I", false)
  | 4 => ("FlexibleBoxesModel", "kids", "[I", true)
  | 5 => ("FlexibleBoxesModel", "kidMany", "I", false)
  | 6 => ("FlexibleBoxesModel", "isShown", "[Z", true)
  | 7 => ("FlexibleBoxesModel", "natural", "[I", true)
  | 8 => ("FlexibleBoxesModel", "size", "[I", true)
  | 9 => ("FlexibleBoxesModel", "place", "[I", true)
  | 10 => ("FlexibleBoxesModel", "lineAt", "[I", true)
  | 11 => ("FlexibleBoxesModel", "lineMany", "[I", true)
  | 12 => ("FlexibleBoxesModel", "isFixed", "[Z", true)
  | 13 => ("FlexibleBoxesModel", "factor", "[J", true)
  | 14 => ("FlexibleBoxesModel", "proposed", "[I", true)
  | _ => ("FlexibleBoxesModel", "waiting", "[I", true)
def tyX6 : Nat → FieldType := fun k => match k with
  | 0 => .array .int
  | 1 => .array .int
  | 2 => .array .boolean
  | 3 => .int
  | 4 => .array .int
  | 5 => .int
  | 6 => .array .boolean
  | 7 => .array .int
  | 8 => .array .int
  | 9 => .array .int
  | 10 => .array .int
  | 11 => .array .int
  | 12 => .array .boolean
  | 13 => .array .long
  | 14 => .array .int
  | _ => .array .int
abbrev wsX60 : List Cond := u_ws RX6 TX6 16
theorem nmX6 : ∀ a, a < 16 → ∀ b, b < 16 → a ≠ b → (TX6 a).2.1 ≠ (TX6 b).2.1 := by decide +kernel
theorem tyX6_ok : ∀ k, k < 16 → parseFieldDescriptor (TX6 k).2.2.1 = some (tyX6 k) := by decide +kernel
abbrev cX6_init : ByteArray := prog_8_method_1_code
def yX6_init : MethodName := ⟨RX6, "<init>", "()V"⟩
abbrev cX6_thrown : ByteArray := prog_8_method_2_code
def yX6_thrown : MethodName := ⟨RX6, "thrown", "()I"⟩
abbrev cX6_in : ByteArray := prog_8_method_3_code
def yX6_in : MethodName := ⟨RX6, "in", "(III)Z"⟩
abbrev cX6_low : ByteArray := prog_8_method_4_code
def yX6_low : MethodName := ⟨RX6, "low", "(I)I"⟩
abbrev cX6_high : ByteArray := prog_8_method_5_code
def yX6_high : MethodName := ⟨RX6, "high", "(I)I"⟩
abbrev cX6_firstOf : ByteArray := prog_8_method_6_code
def yX6_firstOf : MethodName := ⟨RX6, "firstOf", "(I)I"⟩
abbrev cX6_of : ByteArray := prog_8_method_7_code
def yX6_of : MethodName := ⟨RX6, "of", "(II)I"⟩
abbrev cX6_make : ByteArray := prog_8_method_8_code
def yX6_make : MethodName := ⟨RX6, "make", "(I)I"⟩
abbrev cX6_isBox : ByteArray := prog_8_method_9_code
def yX6_isBox : MethodName := ⟨RX6, "isBox", "(I)Z"⟩
abbrev cX6_add : ByteArray := prog_8_method_10_code
def yX6_add : MethodName := ⟨RX6, "add", "(I)I"⟩
abbrev cX6_remove : ByteArray := prog_8_method_11_code
def yX6_remove : MethodName := ⟨RX6, "remove", "(I)I"⟩
abbrev cX6_boxes : ByteArray := prog_8_method_12_code
def yX6_boxes : MethodName := ⟨RX6, "boxes", "()I"⟩
abbrev cX6_parent : ByteArray := prog_8_method_13_code
def yX6_parent : MethodName := ⟨RX6, "parent", "(I)I"⟩
abbrev cX6_isChild : ByteArray := prog_8_method_14_code
def yX6_isChild : MethodName := ⟨RX6, "isChild", "(II)Z"⟩
abbrev cX6_isAhead : ByteArray := prog_8_method_15_code
def yX6_isAhead : MethodName := ⟨RX6, "isAhead", "(II)Z"⟩
abbrev cX6_layKids : ByteArray := prog_8_method_16_code
def yX6_layKids : MethodName := ⟨RX6, "layKids", "(I)V"⟩
abbrev cX6_isLeaf : ByteArray := prog_8_method_17_code
def yX6_isLeaf : MethodName := ⟨RX6, "isLeaf", "(I)Z"⟩
abbrev cX6_child : ByteArray := prog_8_method_18_code
def yX6_child : MethodName := ⟨RX6, "child", "(II)I"⟩
abbrev cX6_set : ByteArray := prog_8_method_19_code
def yX6_set : MethodName := ⟨RX6, "set", "(III)I"⟩
abbrev cX6_get : ByteArray := prog_8_method_20_code
def yX6_get : MethodName := ⟨RX6, "get", "(II)I"⟩
abbrev cX6_copyStyle : ByteArray := prog_8_method_21_code
def yX6_copyStyle : MethodName := ⟨RX6, "copyStyle", "(II)I"⟩
abbrev cX6_viewport : ByteArray := prog_8_method_22_code
def yX6_viewport : MethodName := ⟨RX6, "viewport", "(II)V"⟩
abbrev cX6_findShown : ByteArray := prog_8_method_23_code
def yX6_findShown : MethodName := ⟨RX6, "findShown", "()V"⟩
abbrev cX6_limited : ByteArray := prog_8_method_24_code
def yX6_limited : MethodName := ⟨RX6, "limited", "(III)I"⟩
abbrev cX6_notNegative : ByteArray := prog_8_method_25_code
def yX6_notNegative : MethodName := ⟨RX6, "notNegative", "(I)I"⟩
abbrev cX6_inner : ByteArray := prog_8_method_26_code
def yX6_inner : MethodName := ⟨RX6, "inner", "(II)I"⟩
abbrev cX6_outer : ByteArray := prog_8_method_27_code
def yX6_outer : MethodName := ⟨RX6, "outer", "(II)I"⟩
abbrev cX6_gapsOf : ByteArray := prog_8_method_28_code
def yX6_gapsOf : MethodName := ⟨RX6, "gapsOf", "(II)I"⟩
abbrev cX6_content : ByteArray := prog_8_method_29_code
def yX6_content : MethodName := ⟨RX6, "content", "(IIZ)I"⟩
abbrev cX6_setNatural : ByteArray := prog_8_method_30_code
def yX6_setNatural : MethodName := ⟨RX6, "setNatural", "(III)V"⟩
abbrev cX6_findNaturalWidths : ByteArray := prog_8_method_31_code
def yX6_findNaturalWidths : MethodName := ⟨RX6, "findNaturalWidths", "()V"⟩
abbrev cX6_alignment : ByteArray := prog_8_method_32_code
def yX6_alignment : MethodName := ⟨RX6, "alignment", "(I)I"⟩
abbrev cX6_baseOf : ByteArray := prog_8_method_33_code
def yX6_baseOf : MethodName := ⟨RX6, "baseOf", "(II)I"⟩
abbrev cX6_startOf : ByteArray := prog_8_method_34_code
def yX6_startOf : MethodName := ⟨RX6, "startOf", "(II)I"⟩
abbrev cX6_beginFlex : ByteArray := prog_8_method_35_code
def yX6_beginFlex : MethodName := ⟨RX6, "beginFlex", "(IIIII)Z"⟩
abbrev cX6_propose : ByteArray := prog_8_method_36_code
def yX6_propose : MethodName := ⟨RX6, "propose", "(IIIIIZ)V"⟩
abbrev cX6_deviation : ByteArray := prog_8_method_37_code
def yX6_deviation : MethodName := ⟨RX6, "deviation", "(II)I"⟩
abbrev cX6_fixSome : ByteArray := prog_8_method_38_code
def yX6_fixSome : MethodName := ⟨RX6, "fixSome", "(III)I"⟩
abbrev cX6_flex : ByteArray := prog_8_method_39_code
def yX6_flex : MethodName := ⟨RX6, "flex", "(IIIII)V"⟩
abbrev cX6_endOfLine : ByteArray := prog_8_method_40_code
def yX6_endOfLine : MethodName := ⟨RX6, "endOfLine", "(II)I"⟩
abbrev cX6_findLines : ByteArray := prog_8_method_41_code
def yX6_findLines : MethodName := ⟨RX6, "findLines", "(I)V"⟩
abbrev cX6_findColumnWidths : ByteArray := prog_8_method_42_code
def yX6_findColumnWidths : MethodName := ⟨RX6, "findColumnWidths", "(I)V"⟩
abbrev cX6_textLines : ByteArray := prog_8_method_43_code
def yX6_textLines : MethodName := ⟨RX6, "textLines", "(I)I"⟩
abbrev cX6_findWidths : ByteArray := prog_8_method_44_code
def yX6_findWidths : MethodName := ⟨RX6, "findWidths", "()V"⟩
abbrev cX6_lineHeight : ByteArray := prog_8_method_45_code
def yX6_lineHeight : MethodName := ⟨RX6, "lineHeight", "(I)I"⟩
abbrev cX6_rowContent : ByteArray := prog_8_method_46_code
def yX6_rowContent : MethodName := ⟨RX6, "rowContent", "(I)I"⟩
abbrev cX6_findNaturalHeights : ByteArray := prog_8_method_47_code
def yX6_findNaturalHeights : MethodName := ⟨RX6, "findNaturalHeights", "()V"⟩
abbrev cX6_moved : ByteArray := prog_8_method_48_code
def yX6_moved : MethodName := ⟨RX6, "moved", "(IIII)I"⟩
abbrev cX6_justify : ByteArray := prog_8_method_49_code
def yX6_justify : MethodName := ⟨RX6, "justify", "(IIII)V"⟩
abbrev cX6_align : ByteArray := prog_8_method_50_code
def yX6_align : MethodName := ⟨RX6, "align", "(IIII)V"⟩
abbrev cX6_placeColumn : ByteArray := prog_8_method_51_code
def yX6_placeColumn : MethodName := ⟨RX6, "placeColumn", "(I)V"⟩
abbrev cX6_setRowHeight : ByteArray := prog_8_method_52_code
def yX6_setRowHeight : MethodName := ⟨RX6, "setRowHeight", "(II)V"⟩
abbrev cX6_placeRow : ByteArray := prog_8_method_53_code
def yX6_placeRow : MethodName := ⟨RX6, "placeRow", "(I)V"⟩
abbrev cX6_findPlaces : ByteArray := prog_8_method_54_code
def yX6_findPlaces : MethodName := ⟨RX6, "findPlaces", "()V"⟩
abbrev cX6_layOut : ByteArray := prog_8_method_55_code
def yX6_layOut : MethodName := ⟨RX6, "layOut", "()V"⟩
abbrev cX6_hasLayout : ByteArray := prog_8_method_56_code
def yX6_hasLayout : MethodName := ⟨RX6, "hasLayout", "(I)Z"⟩
abbrev cX6_x : ByteArray := prog_8_method_57_code
def yX6_x : MethodName := ⟨RX6, "x", "(I)I"⟩
abbrev cX6_y : ByteArray := prog_8_method_58_code
def yX6_y : MethodName := ⟨RX6, "y", "(I)I"⟩
abbrev cX6_width : ByteArray := prog_8_method_59_code
def yX6_width : MethodName := ⟨RX6, "width", "(I)I"⟩
abbrev cX6_height : ByteArray := prog_8_method_60_code
def yX6_height : MethodName := ⟨RX6, "height", "(I)I"⟩
abbrev cX6_naturalWidth : ByteArray := prog_8_method_61_code
def yX6_naturalWidth : MethodName := ⟨RX6, "naturalWidth", "(I)I"⟩
abbrev cX6_naturalHeight : ByteArray := prog_8_method_62_code
def yX6_naturalHeight : MethodName := ⟨RX6, "naturalHeight", "(I)I"⟩
abbrev cX6_lines : ByteArray := prog_8_method_63_code
def yX6_lines : MethodName := ⟨RX6, "lines", "(I)I"⟩
abbrev cX6_lineOf : ByteArray := prog_8_method_64_code
def yX6_lineOf : MethodName := ⟨RX6, "lineOf", "(I)I"⟩
abbrev cX6_end : ByteArray := prog_8_method_65_code
def yX6_end : MethodName := ⟨RX6, "end", "(II)I"⟩
abbrev cX6_overflow : ByteArray := prog_8_method_66_code
def yX6_overflow : MethodName := ⟨RX6, "overflow", "(I)I"⟩
abbrev cX6_covers : ByteArray := prog_8_method_67_code
def yX6_covers : MethodName := ⟨RX6, "covers", "(III)Z"⟩
abbrev cX6_hit : ByteArray := prog_8_method_68_code
def yX6_hit : MethodName := ⟨RX6, "hit", "(II)I"⟩
abbrev cX6_widthFor : ByteArray := prog_8_method_69_code
def yX6_widthFor : MethodName := ⟨RX6, "widthFor", "(II)I"⟩
abbrev cX6_save : ByteArray := prog_8_method_70_code
def yX6_save : MethodName := ⟨RX6, "save", "(I)V"⟩
abbrev cX6_restore : ByteArray := prog_8_method_71_code
def yX6_restore : MethodName := ⟨RX6, "restore", "(I)V"⟩
def RJ9 : String := "java/lang/Math"
def TJ9 : u_T := fun k => match k with
  | _ => ("", "", "", false)
def tyJ9 : Nat → FieldType := fun k => match k with
  | _ => .int
abbrev wsJ90 : List Cond := u_ws RJ9 TJ9 0
theorem nmJ9 : ∀ a, a < 0 → ∀ b, b < 0 → a ≠ b → (TJ9 a).2.1 ≠ (TJ9 b).2.1 := by decide +kernel
theorem tyJ9_ok : ∀ k, k < 0 → parseFieldDescriptor (TJ9 k).2.2.1 = some (tyJ9 k) := by decide +kernel
abbrev cJ9_max_7cf53 : ByteArray := prog_13_method_65_code
def yJ9_max_7cf53 : MethodName := ⟨RJ9, "max", "(II)I"⟩
abbrev cJ9_min_7cf53 : ByteArray := prog_13_method_69_code
def yJ9_min_7cf53 : MethodName := ⟨RJ9, "min", "(II)I"⟩
def RJ0 : String := "java/lang/String"
def TJ0 : u_T := fun k => match k with
  | _ => ("", "", "", false)
def tyJ0 : Nat → FieldType := fun k => match k with
  | _ => .int
abbrev wsJ00 : List Cond := u_ws RJ0 TJ0 0
theorem nmJ0 : ∀ a, a < 0 → ∀ b, b < 0 → a ≠ b → (TJ0 a).2.1 ≠ (TJ0 b).2.1 := by decide +kernel
theorem tyJ0_ok : ∀ k, k < 0 → parseFieldDescriptor (TJ0 k).2.2.1 = some (tyJ0 k) := by decide +kernel
def RJ10 : String := "java/lang/System"
def TJ10 : u_T := fun k => match k with
  | _ => ("", "", "", false)
def tyJ10 : Nat → FieldType := fun k => match k with
  | _ => .int
abbrev wsJ100 : List Cond := u_ws RJ10 TJ10 0
theorem nmJ10 : ∀ a, a < 0 → ∀ b, b < 0 → a ≠ b → (TJ10 a).2.1 ≠ (TJ10 b).2.1 := by decide +kernel
theorem tyJ10_ok : ∀ k, k < 0 → parseFieldDescriptor (TJ10 k).2.2.1 = some (tyJ10 k) := by decide +kernel
def RL : String := "FlexibleBoxesLaw"
abbrev cL_add : ByteArray := method_3_code
def yL_add : MethodName := ⟨RL, "add", "(LFlexibleBoxes;I[J)I"⟩
abbrev cL_remove : ByteArray := method_4_code
def yL_remove : MethodName := ⟨RL, "remove", "(LFlexibleBoxes;I[J)I"⟩
abbrev cL_parent : ByteArray := method_5_code
def yL_parent : MethodName := ⟨RL, "parent", "(LFlexibleBoxes;I[J)I"⟩
abbrev cL_child : ByteArray := method_6_code
def yL_child : MethodName := ⟨RL, "child", "(LFlexibleBoxes;II[J)I"⟩
abbrev cL_set : ByteArray := method_7_code
def yL_set : MethodName := ⟨RL, "set", "(LFlexibleBoxes;III[J)I"⟩
abbrev cL_get : ByteArray := method_8_code
def yL_get : MethodName := ⟨RL, "get", "(LFlexibleBoxes;II[J)I"⟩
abbrev cL_copyStyle : ByteArray := method_9_code
def yL_copyStyle : MethodName := ⟨RL, "copyStyle", "(LFlexibleBoxes;II[J)I"⟩
abbrev cL_viewport : ByteArray := method_10_code
def yL_viewport : MethodName := ⟨RL, "viewport", "(LFlexibleBoxes;II)I"⟩
abbrev cL_x : ByteArray := method_11_code
def yL_x : MethodName := ⟨RL, "x", "(LFlexibleBoxes;I[J)I"⟩
abbrev cL_y : ByteArray := method_12_code
def yL_y : MethodName := ⟨RL, "y", "(LFlexibleBoxes;I[J)I"⟩
abbrev cL_width : ByteArray := method_13_code
def yL_width : MethodName := ⟨RL, "width", "(LFlexibleBoxes;I[J)I"⟩
abbrev cL_height : ByteArray := method_14_code
def yL_height : MethodName := ⟨RL, "height", "(LFlexibleBoxes;I[J)I"⟩
abbrev cL_naturalWidth : ByteArray := method_15_code
def yL_naturalWidth : MethodName := ⟨RL, "naturalWidth", "(LFlexibleBoxes;I[J)I"⟩
abbrev cL_naturalHeight : ByteArray := method_16_code
def yL_naturalHeight : MethodName := ⟨RL, "naturalHeight", "(LFlexibleBoxes;I[J)I"⟩
abbrev cL_lines : ByteArray := method_17_code
def yL_lines : MethodName := ⟨RL, "lines", "(LFlexibleBoxes;I[J)I"⟩
abbrev cL_lineOf : ByteArray := method_18_code
def yL_lineOf : MethodName := ⟨RL, "lineOf", "(LFlexibleBoxes;I[J)I"⟩
abbrev cL_overflow : ByteArray := method_19_code
def yL_overflow : MethodName := ⟨RL, "overflow", "(LFlexibleBoxes;I[J)I"⟩
abbrev cL_widthFor : ByteArray := method_20_code
def yL_widthFor : MethodName := ⟨RL, "widthFor", "(LFlexibleBoxes;II[J)I"⟩
abbrev cL_save : ByteArray := method_21_code
def yL_save : MethodName := ⟨RL, "save", "(LFlexibleBoxes;I)I"⟩
abbrev cL_restore : ByteArray := method_22_code
def yL_restore : MethodName := ⟨RL, "restore", "(LFlexibleBoxes;I)I"⟩
abbrev cL_law : ByteArray := code
def yL_law : MethodName := ⟨RL, "law", "([I)Z"⟩
abbrev vwCl : List vw_C := [(RX0, TX0, 18), (RX1, TX1, 11), (RX2, TX2, 3), (RX3, TX3, 6), (RX4, TX4, 5), (RX5, TX5, 3), (RX6, TX6, 16)]
/-- the words that every method takes: the good ones of the tables -/
def zU : List Cond := lw_tbl.filter goodWord
theorem zin1 {w : Cond} (h : w ∈ tables_1_1) (hg : goodWord w = true) : w ∈ zU := List.mem_filter.mpr ⟨List.mem_append_right _ (show w ∈ tables_1 from List.mem_append_left _ h), hg⟩
theorem zin2 {w : Cond} (h : w ∈ tables_1_2) (hg : goodWord w = true) : w ∈ zU := List.mem_filter.mpr ⟨List.mem_append_right _ (show w ∈ tables_1 from List.mem_append_right _ (List.mem_append_left _ h)), hg⟩
theorem zin3 {w : Cond} (h : w ∈ tables_1_3) (hg : goodWord w = true) : w ∈ zU := List.mem_filter.mpr ⟨List.mem_append_right _ (show w ∈ tables_1 from List.mem_append_right _ (List.mem_append_right _ (List.mem_append_left _ h))), hg⟩
theorem zin4 {w : Cond} (h : w ∈ tables_1_4) (hg : goodWord w = true) : w ∈ zU := List.mem_filter.mpr ⟨List.mem_append_right _ (show w ∈ tables_1 from List.mem_append_right _ (List.mem_append_right _ (List.mem_append_right _ (List.mem_append_left _ h)))), hg⟩
theorem zin5 {w : Cond} (h : w ∈ tables_1_5) (hg : goodWord w = true) : w ∈ zU := List.mem_filter.mpr ⟨List.mem_append_right _ (show w ∈ tables_1 from List.mem_append_right _ (List.mem_append_right _ (List.mem_append_right _ (List.mem_append_right _ (h))))), hg⟩
theorem zin_t {w : Cond} (h : w ∈ zU) : w ∈ lw_tbl := (List.mem_filter.mp h).1
theorem zin_g {w : Cond} (h : w ∈ zU) : goodWord w = true := (List.mem_filter.mp h).2
theorem zs_X2_spreadWidths : Cond.selects RX2 yX2_spreadWidths yX2_spreadWidths ∈ zU := List.mem_filter.mpr ⟨List.mem_append_left _ (List.mem_map.mpr ⟨(⟨"FlexibleBoxes$Layout", "spreadWidths", "(LFlexibleBoxes$Box;)V"⟩, 3), (show _ ∈ lw_privs from List.mem_append_left _ (List.mem_of_getElem? (i := 0) rfl : (⟨"FlexibleBoxes$Layout", "spreadWidths", "(LFlexibleBoxes$Box;)V"⟩, 3) ∈ lw_privs_1)), rfl⟩), rfl⟩
theorem zs_X2_flexKids : Cond.selects RX2 yX2_flexKids yX2_flexKids ∈ zU := List.mem_filter.mpr ⟨List.mem_append_left _ (List.mem_map.mpr ⟨(⟨"FlexibleBoxes$Layout", "flexKids", "(LFlexibleBoxes$Box;LFlexibleBoxes$Box;ZII)V"⟩, 3), (show _ ∈ lw_privs from List.mem_append_left _ (List.mem_of_getElem? (i := 1) rfl : (⟨"FlexibleBoxes$Layout", "flexKids", "(LFlexibleBoxes$Box;LFlexibleBoxes$Box;ZII)V"⟩, 3) ∈ lw_privs_1)), rfl⟩), rfl⟩
theorem zs_X1_begin : Cond.selects RX1 yX1_begin yX1_begin ∈ zU := List.mem_filter.mpr ⟨List.mem_append_left _ (List.mem_map.mpr ⟨(⟨"FlexibleBoxes$Flex", "begin", "()I"⟩, 11), (show _ ∈ lw_privs from List.mem_append_left _ (List.mem_of_getElem? (i := 2) rfl : (⟨"FlexibleBoxes$Flex", "begin", "()I"⟩, 11) ∈ lw_privs_1)), rfl⟩), rfl⟩
theorem zs_X1_openFactors : Cond.selects RX1 yX1_openFactors yX1_openFactors ∈ zU := List.mem_filter.mpr ⟨List.mem_append_left _ (List.mem_map.mpr ⟨(⟨"FlexibleBoxes$Flex", "openFactors", "()J"⟩, 11), (show _ ∈ lw_privs from List.mem_append_left _ (List.mem_of_getElem? (i := 3) rfl : (⟨"FlexibleBoxes$Flex", "openFactors", "()J"⟩, 11) ∈ lw_privs_1)), rfl⟩), rfl⟩
theorem zs_X1_restOf : Cond.selects RX1 yX1_restOf yX1_restOf ∈ zU := List.mem_filter.mpr ⟨List.mem_append_left _ (List.mem_map.mpr ⟨(⟨"FlexibleBoxes$Flex", "restOf", "(I)I"⟩, 11), (show _ ∈ lw_privs from List.mem_append_left _ (List.mem_of_getElem? (i := 4) rfl : (⟨"FlexibleBoxes$Flex", "restOf", "(I)I"⟩, 11) ∈ lw_privs_1)), rfl⟩), rfl⟩
theorem zs_X1_propose : Cond.selects RX1 yX1_propose yX1_propose ∈ zU := List.mem_filter.mpr ⟨List.mem_append_left _ (List.mem_map.mpr ⟨(⟨"FlexibleBoxes$Flex", "propose", "(JJZ)J"⟩, 11), (show _ ∈ lw_privs from List.mem_append_left _ (List.mem_of_getElem? (i := 5) rfl : (⟨"FlexibleBoxes$Flex", "propose", "(JJZ)J"⟩, 11) ∈ lw_privs_1)), rfl⟩), rfl⟩
theorem zs_X1_settle : Cond.selects RX1 yX1_settle yX1_settle ∈ zU := List.mem_filter.mpr ⟨List.mem_append_left _ (List.mem_map.mpr ⟨(⟨"FlexibleBoxes$Flex", "settle", "(J)V"⟩, 11), (show _ ∈ lw_privs from List.mem_append_left _ (List.mem_of_getElem? (i := 6) rfl : (⟨"FlexibleBoxes$Flex", "settle", "(J)V"⟩, 11) ∈ lw_privs_1)), rfl⟩), rfl⟩
theorem zs_X2_placeColumn : Cond.selects RX2 yX2_placeColumn yX2_placeColumn ∈ zU := List.mem_filter.mpr ⟨List.mem_append_left _ (List.mem_map.mpr ⟨(⟨"FlexibleBoxes$Layout", "placeColumn", "(LFlexibleBoxes$Box;)V"⟩, 3), (show _ ∈ lw_privs from List.mem_append_left _ (List.mem_of_getElem? (i := 7) rfl : (⟨"FlexibleBoxes$Layout", "placeColumn", "(LFlexibleBoxes$Box;)V"⟩, 3) ∈ lw_privs_1)), rfl⟩), rfl⟩
theorem zs_X5_existing : Cond.selects RX5 yX5_existing yX5_existing ∈ zU := List.mem_filter.mpr ⟨List.mem_append_left _ (List.mem_map.mpr ⟨(⟨"FlexibleBoxes", "existing", "(I)LFlexibleBoxes$Box;"⟩, 3), (show _ ∈ lw_privs from List.mem_append_left _ (List.mem_of_getElem? (i := 8) rfl : (⟨"FlexibleBoxes", "existing", "(I)LFlexibleBoxes$Box;"⟩, 3) ∈ lw_privs_1)), rfl⟩), rfl⟩
theorem zs_X5_laidOut : Cond.selects RX5 yX5_laidOut yX5_laidOut ∈ zU := List.mem_filter.mpr ⟨List.mem_append_left _ (List.mem_map.mpr ⟨(⟨"FlexibleBoxes", "laidOut", "(LFlexibleBoxes$Box;)LFlexibleBoxes$Box;"⟩, 3), (show _ ∈ lw_privs from List.mem_append_left _ (List.mem_of_getElem? (i := 10) rfl : (⟨"FlexibleBoxes", "laidOut", "(LFlexibleBoxes$Box;)LFlexibleBoxes$Box;"⟩, 3) ∈ lw_privs_1)), rfl⟩), rfl⟩
theorem zs_X2_linesAt : Cond.selects RX2 yX2_linesAt yX2_linesAt ∈ zU := List.mem_filter.mpr ⟨List.mem_append_left _ (List.mem_map.mpr ⟨(⟨"FlexibleBoxes$Layout", "linesAt", "(LFlexibleBoxes$Box;I)I"⟩, 3), (show _ ∈ lw_privs from List.mem_append_left _ (List.mem_of_getElem? (i := 11) rfl : (⟨"FlexibleBoxes$Layout", "linesAt", "(LFlexibleBoxes$Box;I)I"⟩, 3) ∈ lw_privs_1)), rfl⟩), rfl⟩
theorem zs_X6_make : Cond.selects RX6 yX6_make yX6_make ∈ zU := List.mem_filter.mpr ⟨List.mem_append_left _ (List.mem_map.mpr ⟨(⟨"FlexibleBoxesModel", "make", "(I)I"⟩, 16), (show _ ∈ lw_privs from List.mem_append_left _ (List.mem_of_getElem? (i := 12) rfl : (⟨"FlexibleBoxesModel", "make", "(I)I"⟩, 16) ∈ lw_privs_1)), rfl⟩), rfl⟩
theorem zs_X6_isBox : Cond.selects RX6 yX6_isBox yX6_isBox ∈ zU := List.mem_filter.mpr ⟨List.mem_append_left _ (List.mem_map.mpr ⟨(⟨"FlexibleBoxesModel", "isBox", "(I)Z"⟩, 16), (show _ ∈ lw_privs from List.mem_append_left _ (List.mem_of_getElem? (i := 13) rfl : (⟨"FlexibleBoxesModel", "isBox", "(I)Z"⟩, 16) ∈ lw_privs_1)), rfl⟩), rfl⟩
theorem zs_X6_layKids : Cond.selects RX6 yX6_layKids yX6_layKids ∈ zU := List.mem_filter.mpr ⟨List.mem_append_left _ (List.mem_map.mpr ⟨(⟨"FlexibleBoxesModel", "layKids", "(I)V"⟩, 16), (show _ ∈ lw_privs from List.mem_append_left _ (List.mem_of_getElem? (i := 14) rfl : (⟨"FlexibleBoxesModel", "layKids", "(I)V"⟩, 16) ∈ lw_privs_1)), rfl⟩), rfl⟩
theorem zs_X6_isChild : Cond.selects RX6 yX6_isChild yX6_isChild ∈ zU := List.mem_filter.mpr ⟨List.mem_append_left _ (List.mem_map.mpr ⟨(⟨"FlexibleBoxesModel", "isChild", "(II)Z"⟩, 16), (show _ ∈ lw_privs from List.mem_append_left _ (List.mem_of_getElem? (i := 15) rfl : (⟨"FlexibleBoxesModel", "isChild", "(II)Z"⟩, 16) ∈ lw_privs_1)), rfl⟩), rfl⟩
theorem zs_X6_of : Cond.selects RX6 yX6_of yX6_of ∈ zU := List.mem_filter.mpr ⟨List.mem_append_left _ (List.mem_map.mpr ⟨(⟨"FlexibleBoxesModel", "of", "(II)I"⟩, 16), (show _ ∈ lw_privs from List.mem_append_right _ (List.mem_append_left _ (List.mem_of_getElem? (i := 0) rfl : (⟨"FlexibleBoxesModel", "of", "(II)I"⟩, 16) ∈ lw_privs_2))), rfl⟩), rfl⟩
theorem zs_X6_isAhead : Cond.selects RX6 yX6_isAhead yX6_isAhead ∈ zU := List.mem_filter.mpr ⟨List.mem_append_left _ (List.mem_map.mpr ⟨(⟨"FlexibleBoxesModel", "isAhead", "(II)Z"⟩, 16), (show _ ∈ lw_privs from List.mem_append_right _ (List.mem_append_left _ (List.mem_of_getElem? (i := 1) rfl : (⟨"FlexibleBoxesModel", "isAhead", "(II)Z"⟩, 16) ∈ lw_privs_2))), rfl⟩), rfl⟩
theorem zs_X6_hasLayout : Cond.selects RX6 yX6_hasLayout yX6_hasLayout ∈ zU := List.mem_filter.mpr ⟨List.mem_append_left _ (List.mem_map.mpr ⟨(⟨"FlexibleBoxesModel", "hasLayout", "(I)Z"⟩, 16), (show _ ∈ lw_privs from List.mem_append_right _ (List.mem_append_left _ (List.mem_of_getElem? (i := 2) rfl : (⟨"FlexibleBoxesModel", "hasLayout", "(I)Z"⟩, 16) ∈ lw_privs_2))), rfl⟩), rfl⟩
theorem zs_X6_findShown : Cond.selects RX6 yX6_findShown yX6_findShown ∈ zU := List.mem_filter.mpr ⟨List.mem_append_left _ (List.mem_map.mpr ⟨(⟨"FlexibleBoxesModel", "findShown", "()V"⟩, 16), (show _ ∈ lw_privs from List.mem_append_right _ (List.mem_append_left _ (List.mem_of_getElem? (i := 3) rfl : (⟨"FlexibleBoxesModel", "findShown", "()V"⟩, 16) ∈ lw_privs_2))), rfl⟩), rfl⟩
theorem zs_X6_layOut : Cond.selects RX6 yX6_layOut yX6_layOut ∈ zU := List.mem_filter.mpr ⟨List.mem_append_left _ (List.mem_map.mpr ⟨(⟨"FlexibleBoxesModel", "layOut", "()V"⟩, 16), (show _ ∈ lw_privs from List.mem_append_right _ (List.mem_append_left _ (List.mem_of_getElem? (i := 4) rfl : (⟨"FlexibleBoxesModel", "layOut", "()V"⟩, 16) ∈ lw_privs_2))), rfl⟩), rfl⟩
theorem zs_X6_findNaturalWidths : Cond.selects RX6 yX6_findNaturalWidths yX6_findNaturalWidths ∈ zU := List.mem_filter.mpr ⟨List.mem_append_left _ (List.mem_map.mpr ⟨(⟨"FlexibleBoxesModel", "findNaturalWidths", "()V"⟩, 16), (show _ ∈ lw_privs from List.mem_append_right _ (List.mem_append_left _ (List.mem_of_getElem? (i := 5) rfl : (⟨"FlexibleBoxesModel", "findNaturalWidths", "()V"⟩, 16) ∈ lw_privs_2))), rfl⟩), rfl⟩
theorem zs_X6_isLeaf : Cond.selects RX6 yX6_isLeaf yX6_isLeaf ∈ zU := List.mem_filter.mpr ⟨List.mem_append_left _ (List.mem_map.mpr ⟨(⟨"FlexibleBoxesModel", "isLeaf", "(I)Z"⟩, 16), (show _ ∈ lw_privs from List.mem_append_right _ (List.mem_append_left _ (List.mem_of_getElem? (i := 6) rfl : (⟨"FlexibleBoxesModel", "isLeaf", "(I)Z"⟩, 16) ∈ lw_privs_2))), rfl⟩), rfl⟩
theorem zs_X6_content : Cond.selects RX6 yX6_content yX6_content ∈ zU := List.mem_filter.mpr ⟨List.mem_append_left _ (List.mem_map.mpr ⟨(⟨"FlexibleBoxesModel", "content", "(IIZ)I"⟩, 16), (show _ ∈ lw_privs from List.mem_append_right _ (List.mem_append_left _ (List.mem_of_getElem? (i := 7) rfl : (⟨"FlexibleBoxesModel", "content", "(IIZ)I"⟩, 16) ∈ lw_privs_2))), rfl⟩), rfl⟩
theorem zs_X6_outer : Cond.selects RX6 yX6_outer yX6_outer ∈ zU := List.mem_filter.mpr ⟨List.mem_append_left _ (List.mem_map.mpr ⟨(⟨"FlexibleBoxesModel", "outer", "(II)I"⟩, 16), (show _ ∈ lw_privs from List.mem_append_right _ (List.mem_append_left _ (List.mem_of_getElem? (i := 8) rfl : (⟨"FlexibleBoxesModel", "outer", "(II)I"⟩, 16) ∈ lw_privs_2))), rfl⟩), rfl⟩
theorem zs_X6_gapsOf : Cond.selects RX6 yX6_gapsOf yX6_gapsOf ∈ zU := List.mem_filter.mpr ⟨List.mem_append_left _ (List.mem_map.mpr ⟨(⟨"FlexibleBoxesModel", "gapsOf", "(II)I"⟩, 16), (show _ ∈ lw_privs from List.mem_append_right _ (List.mem_append_left _ (List.mem_of_getElem? (i := 9) rfl : (⟨"FlexibleBoxesModel", "gapsOf", "(II)I"⟩, 16) ∈ lw_privs_2))), rfl⟩), rfl⟩
theorem zs_X6_setNatural : Cond.selects RX6 yX6_setNatural yX6_setNatural ∈ zU := List.mem_filter.mpr ⟨List.mem_append_left _ (List.mem_map.mpr ⟨(⟨"FlexibleBoxesModel", "setNatural", "(III)V"⟩, 16), (show _ ∈ lw_privs from List.mem_append_right _ (List.mem_append_left _ (List.mem_of_getElem? (i := 10) rfl : (⟨"FlexibleBoxesModel", "setNatural", "(III)V"⟩, 16) ∈ lw_privs_2))), rfl⟩), rfl⟩
theorem zs_X6_limited : Cond.selects RX6 yX6_limited yX6_limited ∈ zU := List.mem_filter.mpr ⟨List.mem_append_left _ (List.mem_map.mpr ⟨(⟨"FlexibleBoxesModel", "limited", "(III)I"⟩, 16), (show _ ∈ lw_privs from List.mem_append_right _ (List.mem_append_left _ (List.mem_of_getElem? (i := 11) rfl : (⟨"FlexibleBoxesModel", "limited", "(III)I"⟩, 16) ∈ lw_privs_2))), rfl⟩), rfl⟩
theorem zs_X6_findWidths : Cond.selects RX6 yX6_findWidths yX6_findWidths ∈ zU := List.mem_filter.mpr ⟨List.mem_append_left _ (List.mem_map.mpr ⟨(⟨"FlexibleBoxesModel", "findWidths", "()V"⟩, 16), (show _ ∈ lw_privs from List.mem_append_right _ (List.mem_append_left _ (List.mem_of_getElem? (i := 12) rfl : (⟨"FlexibleBoxesModel", "findWidths", "()V"⟩, 16) ∈ lw_privs_2))), rfl⟩), rfl⟩
theorem zs_X6_textLines : Cond.selects RX6 yX6_textLines yX6_textLines ∈ zU := List.mem_filter.mpr ⟨List.mem_append_left _ (List.mem_map.mpr ⟨(⟨"FlexibleBoxesModel", "textLines", "(I)I"⟩, 16), (show _ ∈ lw_privs from List.mem_append_right _ (List.mem_append_left _ (List.mem_of_getElem? (i := 13) rfl : (⟨"FlexibleBoxesModel", "textLines", "(I)I"⟩, 16) ∈ lw_privs_2))), rfl⟩), rfl⟩
theorem zs_X6_inner : Cond.selects RX6 yX6_inner yX6_inner ∈ zU := List.mem_filter.mpr ⟨List.mem_append_left _ (List.mem_map.mpr ⟨(⟨"FlexibleBoxesModel", "inner", "(II)I"⟩, 16), (show _ ∈ lw_privs from List.mem_append_right _ (List.mem_append_left _ (List.mem_of_getElem? (i := 14) rfl : (⟨"FlexibleBoxesModel", "inner", "(II)I"⟩, 16) ∈ lw_privs_2))), rfl⟩), rfl⟩
theorem zs_X6_findColumnWidths : Cond.selects RX6 yX6_findColumnWidths yX6_findColumnWidths ∈ zU := List.mem_filter.mpr ⟨List.mem_append_left _ (List.mem_map.mpr ⟨(⟨"FlexibleBoxesModel", "findColumnWidths", "(I)V"⟩, 16), (show _ ∈ lw_privs from List.mem_append_right _ (List.mem_append_left _ (List.mem_of_getElem? (i := 15) rfl : (⟨"FlexibleBoxesModel", "findColumnWidths", "(I)V"⟩, 16) ∈ lw_privs_2))), rfl⟩), rfl⟩
theorem zs_X6_alignment : Cond.selects RX6 yX6_alignment yX6_alignment ∈ zU := List.mem_filter.mpr ⟨List.mem_append_left _ (List.mem_map.mpr ⟨(⟨"FlexibleBoxesModel", "alignment", "(I)I"⟩, 16), (show _ ∈ lw_privs from List.mem_append_right _ (List.mem_append_right _ (List.mem_append_left _ (List.mem_of_getElem? (i := 0) rfl : (⟨"FlexibleBoxesModel", "alignment", "(I)I"⟩, 16) ∈ lw_privs_3)))), rfl⟩), rfl⟩
theorem zs_X6_findLines : Cond.selects RX6 yX6_findLines yX6_findLines ∈ zU := List.mem_filter.mpr ⟨List.mem_append_left _ (List.mem_map.mpr ⟨(⟨"FlexibleBoxesModel", "findLines", "(I)V"⟩, 16), (show _ ∈ lw_privs from List.mem_append_right _ (List.mem_append_right _ (List.mem_append_left _ (List.mem_of_getElem? (i := 1) rfl : (⟨"FlexibleBoxesModel", "findLines", "(I)V"⟩, 16) ∈ lw_privs_3)))), rfl⟩), rfl⟩
theorem zs_X6_endOfLine : Cond.selects RX6 yX6_endOfLine yX6_endOfLine ∈ zU := List.mem_filter.mpr ⟨List.mem_append_left _ (List.mem_map.mpr ⟨(⟨"FlexibleBoxesModel", "endOfLine", "(II)I"⟩, 16), (show _ ∈ lw_privs from List.mem_append_right _ (List.mem_append_right _ (List.mem_append_left _ (List.mem_of_getElem? (i := 2) rfl : (⟨"FlexibleBoxesModel", "endOfLine", "(II)I"⟩, 16) ∈ lw_privs_3)))), rfl⟩), rfl⟩
theorem zs_X6_startOf : Cond.selects RX6 yX6_startOf yX6_startOf ∈ zU := List.mem_filter.mpr ⟨List.mem_append_left _ (List.mem_map.mpr ⟨(⟨"FlexibleBoxesModel", "startOf", "(II)I"⟩, 16), (show _ ∈ lw_privs from List.mem_append_right _ (List.mem_append_right _ (List.mem_append_left _ (List.mem_of_getElem? (i := 3) rfl : (⟨"FlexibleBoxesModel", "startOf", "(II)I"⟩, 16) ∈ lw_privs_3)))), rfl⟩), rfl⟩
theorem zs_X6_baseOf : Cond.selects RX6 yX6_baseOf yX6_baseOf ∈ zU := List.mem_filter.mpr ⟨List.mem_append_left _ (List.mem_map.mpr ⟨(⟨"FlexibleBoxesModel", "baseOf", "(II)I"⟩, 16), (show _ ∈ lw_privs from List.mem_append_right _ (List.mem_append_right _ (List.mem_append_left _ (List.mem_of_getElem? (i := 4) rfl : (⟨"FlexibleBoxesModel", "baseOf", "(II)I"⟩, 16) ∈ lw_privs_3)))), rfl⟩), rfl⟩
theorem zs_X6_flex : Cond.selects RX6 yX6_flex yX6_flex ∈ zU := List.mem_filter.mpr ⟨List.mem_append_left _ (List.mem_map.mpr ⟨(⟨"FlexibleBoxesModel", "flex", "(IIIII)V"⟩, 16), (show _ ∈ lw_privs from List.mem_append_right _ (List.mem_append_right _ (List.mem_append_left _ (List.mem_of_getElem? (i := 5) rfl : (⟨"FlexibleBoxesModel", "flex", "(IIIII)V"⟩, 16) ∈ lw_privs_3)))), rfl⟩), rfl⟩
theorem zs_X6_beginFlex : Cond.selects RX6 yX6_beginFlex yX6_beginFlex ∈ zU := List.mem_filter.mpr ⟨List.mem_append_left _ (List.mem_map.mpr ⟨(⟨"FlexibleBoxesModel", "beginFlex", "(IIIII)Z"⟩, 16), (show _ ∈ lw_privs from List.mem_append_right _ (List.mem_append_right _ (List.mem_append_left _ (List.mem_of_getElem? (i := 6) rfl : (⟨"FlexibleBoxesModel", "beginFlex", "(IIIII)Z"⟩, 16) ∈ lw_privs_3)))), rfl⟩), rfl⟩
theorem zs_X6_propose : Cond.selects RX6 yX6_propose yX6_propose ∈ zU := List.mem_filter.mpr ⟨List.mem_append_left _ (List.mem_map.mpr ⟨(⟨"FlexibleBoxesModel", "propose", "(IIIIIZ)V"⟩, 16), (show _ ∈ lw_privs from List.mem_append_right _ (List.mem_append_right _ (List.mem_append_left _ (List.mem_of_getElem? (i := 7) rfl : (⟨"FlexibleBoxesModel", "propose", "(IIIIIZ)V"⟩, 16) ∈ lw_privs_3)))), rfl⟩), rfl⟩
theorem zs_X6_fixSome : Cond.selects RX6 yX6_fixSome yX6_fixSome ∈ zU := List.mem_filter.mpr ⟨List.mem_append_left _ (List.mem_map.mpr ⟨(⟨"FlexibleBoxesModel", "fixSome", "(III)I"⟩, 16), (show _ ∈ lw_privs from List.mem_append_right _ (List.mem_append_right _ (List.mem_append_left _ (List.mem_of_getElem? (i := 8) rfl : (⟨"FlexibleBoxesModel", "fixSome", "(III)I"⟩, 16) ∈ lw_privs_3)))), rfl⟩), rfl⟩
theorem zs_X6_deviation : Cond.selects RX6 yX6_deviation yX6_deviation ∈ zU := List.mem_filter.mpr ⟨List.mem_append_left _ (List.mem_map.mpr ⟨(⟨"FlexibleBoxesModel", "deviation", "(II)I"⟩, 16), (show _ ∈ lw_privs from List.mem_append_right _ (List.mem_append_right _ (List.mem_append_left _ (List.mem_of_getElem? (i := 9) rfl : (⟨"FlexibleBoxesModel", "deviation", "(II)I"⟩, 16) ∈ lw_privs_3)))), rfl⟩), rfl⟩
theorem zs_X6_findNaturalHeights : Cond.selects RX6 yX6_findNaturalHeights yX6_findNaturalHeights ∈ zU := List.mem_filter.mpr ⟨List.mem_append_left _ (List.mem_map.mpr ⟨(⟨"FlexibleBoxesModel", "findNaturalHeights", "()V"⟩, 16), (show _ ∈ lw_privs from List.mem_append_right _ (List.mem_append_right _ (List.mem_append_left _ (List.mem_of_getElem? (i := 10) rfl : (⟨"FlexibleBoxesModel", "findNaturalHeights", "()V"⟩, 16) ∈ lw_privs_3)))), rfl⟩), rfl⟩
theorem zs_X6_rowContent : Cond.selects RX6 yX6_rowContent yX6_rowContent ∈ zU := List.mem_filter.mpr ⟨List.mem_append_left _ (List.mem_map.mpr ⟨(⟨"FlexibleBoxesModel", "rowContent", "(I)I"⟩, 16), (show _ ∈ lw_privs from List.mem_append_right _ (List.mem_append_right _ (List.mem_append_left _ (List.mem_of_getElem? (i := 11) rfl : (⟨"FlexibleBoxesModel", "rowContent", "(I)I"⟩, 16) ∈ lw_privs_3)))), rfl⟩), rfl⟩
theorem zs_X6_lineHeight : Cond.selects RX6 yX6_lineHeight yX6_lineHeight ∈ zU := List.mem_filter.mpr ⟨List.mem_append_left _ (List.mem_map.mpr ⟨(⟨"FlexibleBoxesModel", "lineHeight", "(I)I"⟩, 16), (show _ ∈ lw_privs from List.mem_append_right _ (List.mem_append_right _ (List.mem_append_left _ (List.mem_of_getElem? (i := 12) rfl : (⟨"FlexibleBoxesModel", "lineHeight", "(I)I"⟩, 16) ∈ lw_privs_3)))), rfl⟩), rfl⟩
theorem zs_X6_findPlaces : Cond.selects RX6 yX6_findPlaces yX6_findPlaces ∈ zU := List.mem_filter.mpr ⟨List.mem_append_left _ (List.mem_map.mpr ⟨(⟨"FlexibleBoxesModel", "findPlaces", "()V"⟩, 16), (show _ ∈ lw_privs from List.mem_append_right _ (List.mem_append_right _ (List.mem_append_left _ (List.mem_of_getElem? (i := 13) rfl : (⟨"FlexibleBoxesModel", "findPlaces", "()V"⟩, 16) ∈ lw_privs_3)))), rfl⟩), rfl⟩
theorem zs_X6_placeColumn : Cond.selects RX6 yX6_placeColumn yX6_placeColumn ∈ zU := List.mem_filter.mpr ⟨List.mem_append_left _ (List.mem_map.mpr ⟨(⟨"FlexibleBoxesModel", "placeColumn", "(I)V"⟩, 16), (show _ ∈ lw_privs from List.mem_append_right _ (List.mem_append_right _ (List.mem_append_left _ (List.mem_of_getElem? (i := 14) rfl : (⟨"FlexibleBoxesModel", "placeColumn", "(I)V"⟩, 16) ∈ lw_privs_3)))), rfl⟩), rfl⟩
theorem zs_X6_justify : Cond.selects RX6 yX6_justify yX6_justify ∈ zU := List.mem_filter.mpr ⟨List.mem_append_left _ (List.mem_map.mpr ⟨(⟨"FlexibleBoxesModel", "justify", "(IIII)V"⟩, 16), (show _ ∈ lw_privs from List.mem_append_right _ (List.mem_append_right _ (List.mem_append_left _ (List.mem_of_getElem? (i := 15) rfl : (⟨"FlexibleBoxesModel", "justify", "(IIII)V"⟩, 16) ∈ lw_privs_3)))), rfl⟩), rfl⟩
theorem zs_X6_align : Cond.selects RX6 yX6_align yX6_align ∈ zU := List.mem_filter.mpr ⟨List.mem_append_left _ (List.mem_map.mpr ⟨(⟨"FlexibleBoxesModel", "align", "(IIII)V"⟩, 16), (show _ ∈ lw_privs from List.mem_append_right _ (List.mem_append_right _ (List.mem_append_right _ ((List.mem_of_getElem? (i := 0) rfl : (⟨"FlexibleBoxesModel", "align", "(IIII)V"⟩, 16) ∈ lw_privs_4))))), rfl⟩), rfl⟩
theorem zs_X6_placeRow : Cond.selects RX6 yX6_placeRow yX6_placeRow ∈ zU := List.mem_filter.mpr ⟨List.mem_append_left _ (List.mem_map.mpr ⟨(⟨"FlexibleBoxesModel", "placeRow", "(I)V"⟩, 16), (show _ ∈ lw_privs from List.mem_append_right _ (List.mem_append_right _ (List.mem_append_right _ ((List.mem_of_getElem? (i := 1) rfl : (⟨"FlexibleBoxesModel", "placeRow", "(I)V"⟩, 16) ∈ lw_privs_4))))), rfl⟩), rfl⟩
theorem zs_X6_setRowHeight : Cond.selects RX6 yX6_setRowHeight yX6_setRowHeight ∈ zU := List.mem_filter.mpr ⟨List.mem_append_left _ (List.mem_map.mpr ⟨(⟨"FlexibleBoxesModel", "setRowHeight", "(II)V"⟩, 16), (show _ ∈ lw_privs from List.mem_append_right _ (List.mem_append_right _ (List.mem_append_right _ ((List.mem_of_getElem? (i := 2) rfl : (⟨"FlexibleBoxesModel", "setRowHeight", "(II)V"⟩, 16) ∈ lw_privs_4))))), rfl⟩), rfl⟩
theorem zs_X6_end : Cond.selects RX6 yX6_end yX6_end ∈ zU := List.mem_filter.mpr ⟨List.mem_append_left _ (List.mem_map.mpr ⟨(⟨"FlexibleBoxesModel", "end", "(II)I"⟩, 16), (show _ ∈ lw_privs from List.mem_append_right _ (List.mem_append_right _ (List.mem_append_right _ ((List.mem_of_getElem? (i := 3) rfl : (⟨"FlexibleBoxesModel", "end", "(II)I"⟩, 16) ∈ lw_privs_4))))), rfl⟩), rfl⟩
theorem zs_X6_covers : Cond.selects RX6 yX6_covers yX6_covers ∈ zU := List.mem_filter.mpr ⟨List.mem_append_left _ (List.mem_map.mpr ⟨(⟨"FlexibleBoxesModel", "covers", "(III)Z"⟩, 16), (show _ ∈ lw_privs from List.mem_append_right _ (List.mem_append_right _ (List.mem_append_right _ ((List.mem_of_getElem? (i := 4) rfl : (⟨"FlexibleBoxesModel", "covers", "(III)Z"⟩, 16) ∈ lw_privs_4))))), rfl⟩), rfl⟩
theorem zm_1_0 : (Jvm.Cond.initialized "FlexibleBoxesLaw") ∈ zU := zin1 (List.mem_of_getElem? (i := 0) rfl) rfl
theorem zm_1_1 : (Jvm.Cond.initialized "FlexibleBoxes") ∈ zU := zin1 (List.mem_of_getElem? (i := 1) rfl) rfl
theorem zm_1_2 : (Jvm.Cond.initialized "FlexibleBoxes$Tree") ∈ zU := zin1 (List.mem_of_getElem? (i := 2) rfl) rfl
theorem zm_1_3 : (Jvm.Cond.initialized "FlexibleBoxes$Box") ∈ zU := zin1 (List.mem_of_getElem? (i := 3) rfl) rfl
theorem zm_1_4 : (Jvm.Cond.initialized "FlexibleBoxes$Layout") ∈ zU := zin1 (List.mem_of_getElem? (i := 4) rfl) rfl
theorem zm_1_5 : (Jvm.Cond.initialized "FlexibleBoxes$Flex") ∈ zU := zin1 (List.mem_of_getElem? (i := 5) rfl) rfl
theorem zm_1_6 : (Jvm.Cond.initialized "FlexibleBoxesModel") ∈ zU := zin1 (List.mem_of_getElem? (i := 6) rfl) rfl
theorem zm_1_7 : (Jvm.Cond.initialized "java/lang/Throwable") ∈ zU := zin1 (List.mem_of_getElem? (i := 7) rfl) rfl
theorem zm_1_8 : (Jvm.Cond.initialized "java/lang/Exception") ∈ zU := zin1 (List.mem_of_getElem? (i := 8) rfl) rfl
theorem zm_1_9 : (Jvm.Cond.initialized "java/lang/RuntimeException") ∈ zU := zin1 (List.mem_of_getElem? (i := 9) rfl) rfl
theorem zm_1_10 : (Jvm.Cond.initialized "java/lang/IndexOutOfBoundsException") ∈ zU := zin1 (List.mem_of_getElem? (i := 10) rfl) rfl
theorem zm_1_11 : (Jvm.Cond.initialized "java/lang/IllegalStateException") ∈ zU := zin1 (List.mem_of_getElem? (i := 11) rfl) rfl
theorem zm_1_12 : (Jvm.Cond.initialized "java/lang/IllegalArgumentException") ∈ zU := zin1 (List.mem_of_getElem? (i := 12) rfl) rfl
theorem zm_1_13 : (Jvm.Cond.initialized "java/lang/Math") ∈ zU := zin1 (List.mem_of_getElem? (i := 13) rfl) rfl
theorem zm_1_14 : (Jvm.Cond.initialized "FlexibleBoxes$Snapshot") ∈ zU := zin1 (List.mem_of_getElem? (i := 14) rfl) rfl
theorem zm_1_15 : (Jvm.Cond.initialized "java/lang/System") ∈ zU := zin1 (List.mem_of_getElem? (i := 15) rfl) rfl
theorem zm_1_16 : (Jvm.Cond.classLink "FlexibleBoxesLaw" (8 : Nat) "FlexibleBoxes") ∈ zU := zin1 (List.mem_of_getElem? (i := 16) rfl) rfl
theorem zm_1_17 : (Jvm.Cond.instantiable "FlexibleBoxes" (3 : Nat)) ∈ zU := zin1 (List.mem_of_getElem? (i := 17) rfl) rfl
theorem zm_1_18 : (Jvm.Cond.methodLink "FlexibleBoxesLaw" (80 : Nat) ({ cls := "FlexibleBoxes", name := "<init>", desc := "()V" } : Jvm.MethodName)) ∈ zU := zin1 (List.mem_of_getElem? (i := 18) rfl) rfl
theorem zm_1_19 : (Jvm.Cond.instanceMethod ({ cls := "FlexibleBoxes", name := "<init>", desc := "()V" } : Jvm.MethodName)) ∈ zU := zin1 (List.mem_of_getElem? (i := 19) rfl) rfl
theorem zm_1_20 : (Jvm.Cond.code ({ cls := "FlexibleBoxes", name := "<init>", desc := "()V" } : Jvm.MethodName) prog_1_method_1_code (1 : Nat) (Option.none : Option Jvm.ClassFile.FieldType)) ∈ zU := zin1 (List.mem_of_getElem? (i := 20) rfl) rfl
theorem zm_1_21 : (Jvm.Cond.methodLink "FlexibleBoxes" (1 : Nat) ({ cls := "java/lang/Object", name := "<init>", desc := "()V" } : Jvm.MethodName)) ∈ zU := zin1 (List.mem_of_getElem? (i := 21) rfl) rfl
theorem zm_1_22 : (Jvm.Cond.instanceMethod ({ cls := "java/lang/Object", name := "<init>", desc := "()V" } : Jvm.MethodName)) ∈ zU := zin1 (List.mem_of_getElem? (i := 22) rfl) rfl
theorem zm_1_23 : (Jvm.Cond.code ({ cls := "java/lang/Object", name := "<init>", desc := "()V" } : Jvm.MethodName) object_method_1_code (1 : Nat) (Option.none : Option Jvm.ClassFile.FieldType)) ∈ zU := zin1 (List.mem_of_getElem? (i := 23) rfl) rfl
theorem zm_1_24 : (Jvm.Cond.classLink "FlexibleBoxes" (7 : Nat) "FlexibleBoxes$Tree") ∈ zU := zin1 (List.mem_of_getElem? (i := 24) rfl) rfl
theorem zm_1_25 : (Jvm.Cond.instantiable "FlexibleBoxes$Tree" (5 : Nat)) ∈ zU := zin1 (List.mem_of_getElem? (i := 25) rfl) rfl
theorem zm_1_26 : (Jvm.Cond.methodLink "FlexibleBoxes" (9 : Nat) ({ cls := "FlexibleBoxes$Tree", name := "<init>", desc := "()V" } : Jvm.MethodName)) ∈ zU := zin1 (List.mem_of_getElem? (i := 26) rfl) rfl
theorem zm_1_27 : (Jvm.Cond.instanceMethod ({ cls := "FlexibleBoxes$Tree", name := "<init>", desc := "()V" } : Jvm.MethodName)) ∈ zU := zin1 (List.mem_of_getElem? (i := 27) rfl) rfl
theorem zm_1_28 : (Jvm.Cond.code ({ cls := "FlexibleBoxes$Tree", name := "<init>", desc := "()V" } : Jvm.MethodName) prog_6_method_1_code (2 : Nat) (Option.none : Option Jvm.ClassFile.FieldType)) ∈ zU := zin1 (List.mem_of_getElem? (i := 28) rfl) rfl
theorem zm_1_29 : (Jvm.Cond.methodLink "FlexibleBoxes$Tree" (3 : Nat) ({ cls := "java/lang/Object", name := "<init>", desc := "()V" } : Jvm.MethodName)) ∈ zU := zin1 (List.mem_of_getElem? (i := 29) rfl) rfl
theorem zm_1_30 : (Jvm.Cond.classLink "FlexibleBoxes$Tree" (9 : Nat) "FlexibleBoxes$Box") ∈ zU := zin1 (List.mem_of_getElem? (i := 30) rfl) rfl
theorem zm_1_32 : (Jvm.Cond.instantiable "FlexibleBoxes$Box" (18 : Nat)) ∈ zU := zin1 (List.mem_of_getElem? (i := 32) rfl) rfl
theorem zm_1_33 : (Jvm.Cond.methodLink "FlexibleBoxes$Tree" (17 : Nat) ({ cls := "FlexibleBoxes$Box", name := "<init>", desc := "(I)V" } : Jvm.MethodName)) ∈ zU := zin1 (List.mem_of_getElem? (i := 33) rfl) rfl
theorem zm_1_34 : (Jvm.Cond.instanceMethod ({ cls := "FlexibleBoxes$Box", name := "<init>", desc := "(I)V" } : Jvm.MethodName)) ∈ zU := zin1 (List.mem_of_getElem? (i := 34) rfl) rfl
theorem zm_1_35 : (Jvm.Cond.code ({ cls := "FlexibleBoxes$Box", name := "<init>", desc := "(I)V" } : Jvm.MethodName) prog_2_method_1_code (2 : Nat) (Option.none : Option Jvm.ClassFile.FieldType)) ∈ zU := zin1 (List.mem_of_getElem? (i := 35) rfl) rfl
theorem zm_1_36 : (Jvm.Cond.methodLink "FlexibleBoxes$Box" (3 : Nat) ({ cls := "java/lang/Object", name := "<init>", desc := "()V" } : Jvm.MethodName)) ∈ zU := zin1 (List.mem_of_getElem? (i := 36) rfl) rfl
theorem zm_1_37 : (Jvm.Cond.fieldLink "FlexibleBoxes$Box" (15 : Nat) "FlexibleBoxes$Box" "number" "I") ∈ zU := zin1 (List.mem_of_getElem? (i := 37) rfl) rfl
theorem zm_1_38 : (Jvm.Cond.fieldLink "FlexibleBoxes$Tree" (49 : Nat) "FlexibleBoxes$Box" "number" "I") ∈ zU := zin1 (List.mem_of_getElem? (i := 38) rfl) rfl
theorem zm_1_39 : (Jvm.Cond.fieldLink "FlexibleBoxes" (85 : Nat) "FlexibleBoxes$Box" "number" "I") ∈ zU := zin1 (List.mem_of_getElem? (i := 39) rfl) rfl
theorem zm_1_40 : (Jvm.Cond.fieldLink "FlexibleBoxes$Layout" (210 : Nat) "FlexibleBoxes$Box" "number" "I") ∈ zU := zin1 (List.mem_of_getElem? (i := 40) rfl) rfl
theorem zm_1_41 : (Jvm.Cond.fieldLink "FlexibleBoxes$Box" (9 : Nat) "FlexibleBoxes$Box" "style" "[I") ∈ zU := zin1 (List.mem_of_getElem? (i := 41) rfl) rfl
theorem zm_1_42 : (Jvm.Cond.fieldLink "FlexibleBoxes$Tree" (84 : Nat) "FlexibleBoxes$Box" "style" "[I") ∈ zU := zin1 (List.mem_of_getElem? (i := 42) rfl) rfl
theorem zm_1_43 : (Jvm.Cond.fieldLink "FlexibleBoxes$Box" (23 : Nat) "FlexibleBoxes$Box" "exists" "Z") ∈ zU := zin1 (List.mem_of_getElem? (i := 43) rfl) rfl
theorem zm_1_44 : (Jvm.Cond.fieldLink "FlexibleBoxes$Tree" (42 : Nat) "FlexibleBoxes$Box" "exists" "Z") ∈ zU := zin1 (List.mem_of_getElem? (i := 44) rfl) rfl
theorem zm_1_45 : (Jvm.Cond.fieldLink "FlexibleBoxes" (186 : Nat) "FlexibleBoxes$Box" "exists" "Z") ∈ zU := zin1 (List.mem_of_getElem? (i := 45) rfl) rfl
theorem zm_1_46 : (Jvm.Cond.fieldLink "FlexibleBoxes$Box" (19 : Nat) "FlexibleBoxes$Box" "parent" "LFlexibleBoxes$Box;") ∈ zU := zin1 (List.mem_of_getElem? (i := 46) rfl) rfl
theorem zm_1_47 : (Jvm.Cond.fieldLink "FlexibleBoxes$Tree" (52 : Nat) "FlexibleBoxes$Box" "parent" "LFlexibleBoxes$Box;") ∈ zU := zin1 (List.mem_of_getElem? (i := 47) rfl) rfl
theorem zm_1_48 : (Jvm.Cond.fieldLink "FlexibleBoxes$Layout" (216 : Nat) "FlexibleBoxes$Box" "parent" "LFlexibleBoxes$Box;") ∈ zU := zin1 (List.mem_of_getElem? (i := 48) rfl) rfl
theorem zm_1_49 : (Jvm.Cond.fieldLink "FlexibleBoxes$Layout" (91 : Nat) "FlexibleBoxes$Box" "container" "Z") ∈ zU := zin1 (List.mem_of_getElem? (i := 49) rfl) rfl
theorem zm_1_50 : (Jvm.Cond.fieldLink "FlexibleBoxes$Tree" (58 : Nat) "FlexibleBoxes$Box" "container" "Z") ∈ zU := zin1 (List.mem_of_getElem? (i := 50) rfl) rfl
theorem zm_1_51 : (Jvm.Cond.fieldLink "FlexibleBoxes$Box" (38 : Nat) "FlexibleBoxes$Box" "container" "Z") ∈ zU := zin1 (List.mem_of_getElem? (i := 51) rfl) rfl
theorem zm_1_52 : (Jvm.Cond.fieldLink "FlexibleBoxes" (153 : Nat) "FlexibleBoxes$Box" "container" "Z") ∈ zU := zin1 (List.mem_of_getElem? (i := 52) rfl) rfl
theorem zm_1_53 : (Jvm.Cond.fieldLink "FlexibleBoxes$Tree" (46 : Nat) "FlexibleBoxes$Box" "shown" "Z") ∈ zU := zin1 (List.mem_of_getElem? (i := 53) rfl) rfl
theorem zm_1_54 : (Jvm.Cond.fieldLink "FlexibleBoxes$Box" (41 : Nat) "FlexibleBoxes$Box" "shown" "Z") ∈ zU := zin1 (List.mem_of_getElem? (i := 54) rfl) rfl
theorem zm_1_55 : (Jvm.Cond.fieldLink "FlexibleBoxes" (194 : Nat) "FlexibleBoxes$Box" "shown" "Z") ∈ zU := zin1 (List.mem_of_getElem? (i := 55) rfl) rfl
theorem zm_1_56 : (Jvm.Cond.fieldLink "FlexibleBoxes$Layout" (101 : Nat) "FlexibleBoxes$Box" "firstKid" "LFlexibleBoxes$Box;") ∈ zU := zin1 (List.mem_of_getElem? (i := 56) rfl) rfl
theorem zm_1_57 : (Jvm.Cond.fieldLink "FlexibleBoxes" (81 : Nat) "FlexibleBoxes$Box" "firstKid" "LFlexibleBoxes$Box;") ∈ zU := zin1 (List.mem_of_getElem? (i := 57) rfl) rfl
theorem zm_1_58 : (Jvm.Cond.fieldLink "FlexibleBoxes$Box" (44 : Nat) "FlexibleBoxes$Box" "firstKid" "LFlexibleBoxes$Box;") ∈ zU := zin1 (List.mem_of_getElem? (i := 58) rfl) rfl
theorem zm_1_59 : (Jvm.Cond.fieldLink "FlexibleBoxes$Layout" (113 : Nat) "FlexibleBoxes$Box" "nextKid" "LFlexibleBoxes$Box;") ∈ zU := zin1 (List.mem_of_getElem? (i := 59) rfl) rfl
theorem zm_1_60 : (Jvm.Cond.fieldLink "FlexibleBoxes" (88 : Nat) "FlexibleBoxes$Box" "nextKid" "LFlexibleBoxes$Box;") ∈ zU := zin1 (List.mem_of_getElem? (i := 60) rfl) rfl
theorem zm_1_61 : (Jvm.Cond.fieldLink "FlexibleBoxes$Box" (47 : Nat) "FlexibleBoxes$Box" "nextKid" "LFlexibleBoxes$Box;") ∈ zU := zin1 (List.mem_of_getElem? (i := 61) rfl) rfl
theorem zm_1_62 : (Jvm.Cond.fieldLink "FlexibleBoxes$Layout" (94 : Nat) "FlexibleBoxes$Box" "kids" "I") ∈ zU := zin1 (List.mem_of_getElem? (i := 62) rfl) rfl
theorem zm_1_63 : (Jvm.Cond.fieldLink "FlexibleBoxes" (77 : Nat) "FlexibleBoxes$Box" "kids" "I") ∈ zU := zin1 (List.mem_of_getElem? (i := 63) rfl) rfl
theorem zm_1_64 : (Jvm.Cond.fieldLink "FlexibleBoxes$Box" (50 : Nat) "FlexibleBoxes$Box" "kids" "I") ∈ zU := zin1 (List.mem_of_getElem? (i := 64) rfl) rfl
theorem zm_1_65 : (Jvm.Cond.fieldLink "FlexibleBoxes$Layout" (223 : Nat) "FlexibleBoxes$Box" "heir" "LFlexibleBoxes$Box;") ∈ zU := zin1 (List.mem_of_getElem? (i := 65) rfl) rfl
theorem zm_1_66 : (Jvm.Cond.fieldLink "FlexibleBoxes$Layout" (88 : Nat) "FlexibleBoxes$Box" "naturalWidth" "I") ∈ zU := zin1 (List.mem_of_getElem? (i := 66) rfl) rfl
theorem zm_1_67 : (Jvm.Cond.fieldLink "FlexibleBoxes$Flex" (60 : Nat) "FlexibleBoxes$Box" "naturalWidth" "I") ∈ zU := zin1 (List.mem_of_getElem? (i := 67) rfl) rfl
theorem zm_1_68 : (Jvm.Cond.fieldLink "FlexibleBoxes" (141 : Nat) "FlexibleBoxes$Box" "naturalWidth" "I") ∈ zU := zin1 (List.mem_of_getElem? (i := 68) rfl) rfl
theorem zm_1_69 : (Jvm.Cond.fieldLink "FlexibleBoxes$Flex" (63 : Nat) "FlexibleBoxes$Box" "naturalHeight" "I") ∈ zU := zin1 (List.mem_of_getElem? (i := 69) rfl) rfl
theorem zm_1_70 : (Jvm.Cond.fieldLink "FlexibleBoxes$Layout" (175 : Nat) "FlexibleBoxes$Box" "naturalHeight" "I") ∈ zU := zin1 (List.mem_of_getElem? (i := 70) rfl) rfl
theorem zm_1_71 : (Jvm.Cond.fieldLink "FlexibleBoxes" (144 : Nat) "FlexibleBoxes$Box" "naturalHeight" "I") ∈ zU := zin1 (List.mem_of_getElem? (i := 71) rfl) rfl
theorem zm_1_72 : (Jvm.Cond.fieldLink "FlexibleBoxes" (129 : Nat) "FlexibleBoxes$Box" "x" "I") ∈ zU := zin1 (List.mem_of_getElem? (i := 72) rfl) rfl
theorem zm_1_73 : (Jvm.Cond.fieldLink "FlexibleBoxes$Layout" (192 : Nat) "FlexibleBoxes$Box" "x" "I") ∈ zU := zin1 (List.mem_of_getElem? (i := 73) rfl) rfl
theorem zm_1_74 : (Jvm.Cond.fieldLink "FlexibleBoxes$Box" (77 : Nat) "FlexibleBoxes$Box" "x" "I") ∈ zU := zin1 (List.mem_of_getElem? (i := 74) rfl) rfl
theorem zm_1_75 : (Jvm.Cond.fieldLink "FlexibleBoxes" (132 : Nat) "FlexibleBoxes$Box" "y" "I") ∈ zU := zin1 (List.mem_of_getElem? (i := 75) rfl) rfl
theorem zm_1_76 : (Jvm.Cond.fieldLink "FlexibleBoxes$Layout" (182 : Nat) "FlexibleBoxes$Box" "y" "I") ∈ zU := zin1 (List.mem_of_getElem? (i := 76) rfl) rfl
theorem zm_1_77 : (Jvm.Cond.fieldLink "FlexibleBoxes$Box" (80 : Nat) "FlexibleBoxes$Box" "y" "I") ∈ zU := zin1 (List.mem_of_getElem? (i := 77) rfl) rfl
theorem zm_1_78 : (Jvm.Cond.fieldLink "FlexibleBoxes$Layout" (47 : Nat) "FlexibleBoxes$Box" "width" "I") ∈ zU := zin1 (List.mem_of_getElem? (i := 78) rfl) rfl
theorem zm_1_79 : (Jvm.Cond.fieldLink "FlexibleBoxes$Box" (53 : Nat) "FlexibleBoxes$Box" "width" "I") ∈ zU := zin1 (List.mem_of_getElem? (i := 79) rfl) rfl
theorem zm_1_80 : (Jvm.Cond.fieldLink "FlexibleBoxes" (135 : Nat) "FlexibleBoxes$Box" "width" "I") ∈ zU := zin1 (List.mem_of_getElem? (i := 80) rfl) rfl
theorem zm_1_81 : (Jvm.Cond.fieldLink "FlexibleBoxes$Layout" (61 : Nat) "FlexibleBoxes$Box" "height" "I") ∈ zU := zin1 (List.mem_of_getElem? (i := 81) rfl) rfl
theorem zm_1_82 : (Jvm.Cond.fieldLink "FlexibleBoxes$Box" (62 : Nat) "FlexibleBoxes$Box" "height" "I") ∈ zU := zin1 (List.mem_of_getElem? (i := 82) rfl) rfl
theorem zm_1_83 : (Jvm.Cond.fieldLink "FlexibleBoxes" (138 : Nat) "FlexibleBoxes$Box" "height" "I") ∈ zU := zin1 (List.mem_of_getElem? (i := 83) rfl) rfl
theorem zm_1_84 : (Jvm.Cond.fieldLink "FlexibleBoxes$Layout" (122 : Nat) "FlexibleBoxes$Box" "lineCount" "I") ∈ zU := zin1 (List.mem_of_getElem? (i := 84) rfl) rfl
theorem zm_1_85 : (Jvm.Cond.fieldLink "FlexibleBoxes" (147 : Nat) "FlexibleBoxes$Box" "lineCount" "I") ∈ zU := zin1 (List.mem_of_getElem? (i := 85) rfl) rfl
theorem zm_1_86 : (Jvm.Cond.fieldLink "FlexibleBoxes$Layout" (142 : Nat) "FlexibleBoxes$Box" "line" "I") ∈ zU := zin1 (List.mem_of_getElem? (i := 86) rfl) rfl
theorem zm_1_87 : (Jvm.Cond.fieldLink "FlexibleBoxes" (150 : Nat) "FlexibleBoxes$Box" "line" "I") ∈ zU := zin1 (List.mem_of_getElem? (i := 87) rfl) rfl
theorem zm_1_125 : (Jvm.Cond.arrayClass Jvm.ClassFile.FieldType.int) ∈ zU := zin1 (List.mem_of_getElem? (i := 125) rfl) rfl
theorem zm_1_126 : (Jvm.Cond.methodLink "FlexibleBoxes$Tree" (34 : Nat) ({ cls := "FlexibleBoxes$Box", name := "begin", desc := "(LFlexibleBoxes$Box;)V" } : Jvm.MethodName)) ∈ zU := zin1 (List.mem_of_getElem? (i := 126) rfl) rfl
theorem zm_1_127 : (Jvm.Cond.instanceMethod ({ cls := "FlexibleBoxes$Box", name := "begin", desc := "(LFlexibleBoxes$Box;)V" } : Jvm.MethodName)) ∈ zU := zin1 (List.mem_of_getElem? (i := 127) rfl) rfl
theorem zm_1_128 : (Jvm.Cond.selects "FlexibleBoxes$Box" ({ cls := "FlexibleBoxes$Box", name := "begin", desc := "(LFlexibleBoxes$Box;)V" } : Jvm.MethodName) ({ cls := "FlexibleBoxes$Box", name := "begin", desc := "(LFlexibleBoxes$Box;)V" } : Jvm.MethodName)) ∈ zU := zin1 (List.mem_of_getElem? (i := 128) rfl) rfl
theorem zm_1_129 : (Jvm.Cond.code ({ cls := "FlexibleBoxes$Box", name := "begin", desc := "(LFlexibleBoxes$Box;)V" } : Jvm.MethodName) prog_2_method_2_code (3 : Nat) (Option.none : Option Jvm.ClassFile.FieldType)) ∈ zU := zin1 (List.mem_of_getElem? (i := 129) rfl) rfl
theorem zm_1_132 : (Jvm.Cond.fieldLink "FlexibleBoxes$Tree" (11 : Nat) "FlexibleBoxes$Tree" "boxes" "[LFlexibleBoxes$Box;") ∈ zU := zin1 (List.mem_of_getElem? (i := 132) rfl) rfl
theorem zm_1_133 : (Jvm.Cond.fieldLink "FlexibleBoxes$Tree" (20 : Nat) "FlexibleBoxes$Tree" "root" "LFlexibleBoxes$Box;") ∈ zU := zin1 (List.mem_of_getElem? (i := 133) rfl) rfl
theorem zm_1_134 : (Jvm.Cond.fieldLink "FlexibleBoxes$Layout" (39 : Nat) "FlexibleBoxes$Tree" "root" "LFlexibleBoxes$Box;") ∈ zU := zin1 (List.mem_of_getElem? (i := 134) rfl) rfl
theorem zm_1_135 : (Jvm.Cond.fieldLink "FlexibleBoxes$Tree" (24 : Nat) "FlexibleBoxes$Tree" "given" "I") ∈ zU := zin1 (List.mem_of_getElem? (i := 135) rfl) rfl
theorem zm_1_136 : (Jvm.Cond.fieldLink "FlexibleBoxes$Tree" (28 : Nat) "FlexibleBoxes$Tree" "viewportWidth" "I") ∈ zU := zin1 (List.mem_of_getElem? (i := 136) rfl) rfl
theorem zm_1_137 : (Jvm.Cond.fieldLink "FlexibleBoxes$Layout" (43 : Nat) "FlexibleBoxes$Tree" "viewportWidth" "I") ∈ zU := zin1 (List.mem_of_getElem? (i := 137) rfl) rfl
theorem zm_1_138 : (Jvm.Cond.fieldLink "FlexibleBoxes" (119 : Nat) "FlexibleBoxes$Tree" "viewportWidth" "I") ∈ zU := zin1 (List.mem_of_getElem? (i := 138) rfl) rfl
theorem zm_1_139 : (Jvm.Cond.fieldLink "FlexibleBoxes$Tree" (31 : Nat) "FlexibleBoxes$Tree" "viewportHeight" "I") ∈ zU := zin1 (List.mem_of_getElem? (i := 139) rfl) rfl
theorem zm_1_140 : (Jvm.Cond.fieldLink "FlexibleBoxes$Layout" (58 : Nat) "FlexibleBoxes$Tree" "viewportHeight" "I") ∈ zU := zin1 (List.mem_of_getElem? (i := 140) rfl) rfl
theorem zm_1_141 : (Jvm.Cond.fieldLink "FlexibleBoxes" (122 : Nat) "FlexibleBoxes$Tree" "viewportHeight" "I") ∈ zU := zin1 (List.mem_of_getElem? (i := 141) rfl) rfl
theorem zm_1_153 : (Jvm.Cond.classLink "FlexibleBoxes" (16 : Nat) "FlexibleBoxes$Layout") ∈ zU := zin1 (List.mem_of_getElem? (i := 153) rfl) rfl
theorem zm_1_154 : (Jvm.Cond.instantiable "FlexibleBoxes$Layout" (3 : Nat)) ∈ zU := zin1 (List.mem_of_getElem? (i := 154) rfl) rfl
theorem zm_1_155 : (Jvm.Cond.methodLink "FlexibleBoxes" (18 : Nat) ({ cls := "FlexibleBoxes$Layout", name := "<init>", desc := "(LFlexibleBoxes$Tree;)V" } : Jvm.MethodName)) ∈ zU := zin1 (List.mem_of_getElem? (i := 155) rfl) rfl
theorem zm_1_156 : (Jvm.Cond.instanceMethod ({ cls := "FlexibleBoxes$Layout", name := "<init>", desc := "(LFlexibleBoxes$Tree;)V" } : Jvm.MethodName)) ∈ zU := zin1 (List.mem_of_getElem? (i := 156) rfl) rfl
theorem zm_1_157 : (Jvm.Cond.code ({ cls := "FlexibleBoxes$Layout", name := "<init>", desc := "(LFlexibleBoxes$Tree;)V" } : Jvm.MethodName) prog_4_method_1_code (2 : Nat) (Option.none : Option Jvm.ClassFile.FieldType)) ∈ zU := zin1 (List.mem_of_getElem? (i := 157) rfl) rfl
theorem zm_1_158 : (Jvm.Cond.methodLink "FlexibleBoxes$Layout" (3 : Nat) ({ cls := "java/lang/Object", name := "<init>", desc := "()V" } : Jvm.MethodName)) ∈ zU := zin1 (List.mem_of_getElem? (i := 158) rfl) rfl
theorem zm_1_159 : (Jvm.Cond.classLink "FlexibleBoxes$Layout" (9 : Nat) "FlexibleBoxes$Flex") ∈ zU := zin1 (List.mem_of_getElem? (i := 159) rfl) rfl
theorem zm_1_160 : (Jvm.Cond.instantiable "FlexibleBoxes$Flex" (11 : Nat)) ∈ zU := zin1 (List.mem_of_getElem? (i := 160) rfl) rfl
theorem zm_1_162 : (Jvm.Cond.instanceMethod ({ cls := "FlexibleBoxes$Flex", name := "<init>", desc := "()V" } : Jvm.MethodName)) ∈ zU := zin1 (List.mem_of_getElem? (i := 162) rfl) rfl
theorem zm_1_163 : (Jvm.Cond.code ({ cls := "FlexibleBoxes$Flex", name := "<init>", desc := "()V" } : Jvm.MethodName) prog_3_method_1_code (1 : Nat) (Option.none : Option Jvm.ClassFile.FieldType)) ∈ zU := zin1 (List.mem_of_getElem? (i := 163) rfl) rfl
theorem zm_1_164 : (Jvm.Cond.methodLink "FlexibleBoxes$Flex" (3 : Nat) ({ cls := "java/lang/Object", name := "<init>", desc := "()V" } : Jvm.MethodName)) ∈ zU := zin1 (List.mem_of_getElem? (i := 164) rfl) rfl
theorem zm_1_165 : (Jvm.Cond.fieldLink "FlexibleBoxes$Flex" (9 : Nat) "FlexibleBoxes$Flex" "bases" "[I") ∈ zU := zin1 (List.mem_of_getElem? (i := 165) rfl) rfl
theorem zm_1_166 : (Jvm.Cond.fieldLink "FlexibleBoxes$Flex" (15 : Nat) "FlexibleBoxes$Flex" "leasts" "[I") ∈ zU := zin1 (List.mem_of_getElem? (i := 166) rfl) rfl
theorem zm_1_167 : (Jvm.Cond.fieldLink "FlexibleBoxes$Flex" (18 : Nat) "FlexibleBoxes$Flex" "greatests" "[I") ∈ zU := zin1 (List.mem_of_getElem? (i := 167) rfl) rfl
theorem zm_1_168 : (Jvm.Cond.fieldLink "FlexibleBoxes$Flex" (21 : Nat) "FlexibleBoxes$Flex" "grows" "[I") ∈ zU := zin1 (List.mem_of_getElem? (i := 168) rfl) rfl
theorem zm_1_169 : (Jvm.Cond.fieldLink "FlexibleBoxes$Flex" (24 : Nat) "FlexibleBoxes$Flex" "shrinks" "[I") ∈ zU := zin1 (List.mem_of_getElem? (i := 169) rfl) rfl
theorem zm_1_170 : (Jvm.Cond.fieldLink "FlexibleBoxes$Flex" (27 : Nat) "FlexibleBoxes$Flex" "factors" "[I") ∈ zU := zin1 (List.mem_of_getElem? (i := 170) rfl) rfl
theorem zm_1_171 : (Jvm.Cond.fieldLink "FlexibleBoxes$Flex" (30 : Nat) "FlexibleBoxes$Flex" "sizes" "[I") ∈ zU := zin1 (List.mem_of_getElem? (i := 171) rfl) rfl
theorem zm_1_172 : (Jvm.Cond.fieldLink "FlexibleBoxes$Flex" (33 : Nat) "FlexibleBoxes$Flex" "deviations" "[I") ∈ zU := zin1 (List.mem_of_getElem? (i := 172) rfl) rfl
theorem zm_1_173 : (Jvm.Cond.fieldLink "FlexibleBoxes$Flex" (36 : Nat) "FlexibleBoxes$Flex" "settled" "[Z") ∈ zU := zin1 (List.mem_of_getElem? (i := 173) rfl) rfl
theorem zm_1_174 : (Jvm.Cond.fieldLink "FlexibleBoxes$Flex" (40 : Nat) "FlexibleBoxes$Flex" "count" "I") ∈ zU := zin1 (List.mem_of_getElem? (i := 174) rfl) rfl
theorem zm_1_175 : (Jvm.Cond.fieldLink "FlexibleBoxes$Flex" (44 : Nat) "FlexibleBoxes$Flex" "margins" "I") ∈ zU := zin1 (List.mem_of_getElem? (i := 175) rfl) rfl
theorem zm_1_199 : (Jvm.Cond.arrayClass Jvm.ClassFile.FieldType.boolean) ∈ zU := zin1 (List.mem_of_getElem? (i := 199) rfl) rfl
theorem zm_1_200 : (Jvm.Cond.fieldLink "FlexibleBoxes$Layout" (22 : Nat) "FlexibleBoxes$Layout" "tree" "LFlexibleBoxes$Tree;") ∈ zU := zin1 (List.mem_of_getElem? (i := 200) rfl) rfl
theorem zm_1_201 : (Jvm.Cond.fieldLink "FlexibleBoxes$Layout" (12 : Nat) "FlexibleBoxes$Layout" "flex" "LFlexibleBoxes$Flex;") ∈ zU := zin1 (List.mem_of_getElem? (i := 201) rfl) rfl
theorem zm_1_202 : (Jvm.Cond.fieldLink "FlexibleBoxes$Layout" (18 : Nat) "FlexibleBoxes$Layout" "stale" "Z") ∈ zU := zin1 (List.mem_of_getElem? (i := 202) rfl) rfl
theorem zm_1_203 : (Jvm.Cond.fieldLink "FlexibleBoxes" (46 : Nat) "FlexibleBoxes$Layout" "stale" "Z") ∈ zU := zin1 (List.mem_of_getElem? (i := 203) rfl) rfl
theorem zm_1_211 : (Jvm.Cond.classLink "FlexibleBoxes" (25 : Nat) "FlexibleBoxes$Snapshot") ∈ zU := zin1 (List.mem_of_getElem? (i := 211) rfl) rfl
theorem zm_1_213 : (Jvm.Cond.fieldLink "FlexibleBoxes" (10 : Nat) "FlexibleBoxes" "tree" "LFlexibleBoxes$Tree;") ∈ zU := zin1 (List.mem_of_getElem? (i := 213) rfl) rfl
theorem zm_1_214 : (Jvm.Cond.fieldLink "FlexibleBoxes" (21 : Nat) "FlexibleBoxes" "layout" "LFlexibleBoxes$Layout;") ∈ zU := zin1 (List.mem_of_getElem? (i := 214) rfl) rfl
theorem zm_1_215 : (Jvm.Cond.fieldLink "FlexibleBoxes" (27 : Nat) "FlexibleBoxes" "slots" "[LFlexibleBoxes$Snapshot;") ∈ zU := zin1 (List.mem_of_getElem? (i := 215) rfl) rfl
theorem zm_1_223 : (Jvm.Cond.methodLink "FlexibleBoxesLaw" (97 : Nat) ({ cls := "FlexibleBoxes", name := "boxes", desc := "()I" } : Jvm.MethodName)) ∈ zU := zin1 (List.mem_of_getElem? (i := 223) rfl) rfl
theorem zm_1_224 : (Jvm.Cond.instanceMethod ({ cls := "FlexibleBoxes", name := "boxes", desc := "()I" } : Jvm.MethodName)) ∈ zU := zin1 (List.mem_of_getElem? (i := 224) rfl) rfl
theorem zm_1_225 : (Jvm.Cond.selects "FlexibleBoxes" ({ cls := "FlexibleBoxes", name := "boxes", desc := "()I" } : Jvm.MethodName) ({ cls := "FlexibleBoxes", name := "boxes", desc := "()I" } : Jvm.MethodName)) ∈ zU := zin1 (List.mem_of_getElem? (i := 225) rfl) rfl
theorem zm_1_226 : (Jvm.Cond.code ({ cls := "FlexibleBoxes", name := "boxes", desc := "()I" } : Jvm.MethodName) prog_1_method_4_code (1 : Nat) (Option.some Jvm.ClassFile.FieldType.int)) ∈ zU := zin1 (List.mem_of_getElem? (i := 226) rfl) rfl
theorem zm_1_227 : (Jvm.Cond.methodLink "FlexibleBoxes" (67 : Nat) ({ cls := "FlexibleBoxes$Tree", name := "count", desc := "()I" } : Jvm.MethodName)) ∈ zU := zin1 (List.mem_of_getElem? (i := 227) rfl) rfl
theorem zm_1_228 : (Jvm.Cond.instanceMethod ({ cls := "FlexibleBoxes$Tree", name := "count", desc := "()I" } : Jvm.MethodName)) ∈ zU := zin1 (List.mem_of_getElem? (i := 228) rfl) rfl
theorem zm_1_229 : (Jvm.Cond.selects "FlexibleBoxes$Tree" ({ cls := "FlexibleBoxes$Tree", name := "count", desc := "()I" } : Jvm.MethodName) ({ cls := "FlexibleBoxes$Tree", name := "count", desc := "()I" } : Jvm.MethodName)) ∈ zU := zin1 (List.mem_of_getElem? (i := 229) rfl) rfl
theorem zm_1_230 : (Jvm.Cond.code ({ cls := "FlexibleBoxes$Tree", name := "count", desc := "()I" } : Jvm.MethodName) prog_6_method_7_code (4 : Nat) (Option.some Jvm.ClassFile.FieldType.int)) ∈ zU := zin1 (List.mem_of_getElem? (i := 230) rfl) rfl
theorem zm_1_231 : (Jvm.Cond.methodLink "FlexibleBoxes$Tree" (38 : Nat) ({ cls := "FlexibleBoxes$Tree", name := "at", desc := "(I)LFlexibleBoxes$Box;" } : Jvm.MethodName)) ∈ zU := zin1 (List.mem_of_getElem? (i := 231) rfl) rfl
theorem zm_1_232 : (Jvm.Cond.instanceMethod ({ cls := "FlexibleBoxes$Tree", name := "at", desc := "(I)LFlexibleBoxes$Box;" } : Jvm.MethodName)) ∈ zU := zin1 (List.mem_of_getElem? (i := 232) rfl) rfl
theorem zm_1_233 : (Jvm.Cond.selects "FlexibleBoxes$Tree" ({ cls := "FlexibleBoxes$Tree", name := "at", desc := "(I)LFlexibleBoxes$Box;" } : Jvm.MethodName) ({ cls := "FlexibleBoxes$Tree", name := "at", desc := "(I)LFlexibleBoxes$Box;" } : Jvm.MethodName)) ∈ zU := zin1 (List.mem_of_getElem? (i := 233) rfl) rfl
theorem zm_1_234 : (Jvm.Cond.code ({ cls := "FlexibleBoxes$Tree", name := "at", desc := "(I)LFlexibleBoxes$Box;" } : Jvm.MethodName) prog_6_method_2_code (2 : Nat) (Option.some (Jvm.ClassFile.FieldType.object "FlexibleBoxes$Box"))) ∈ zU := zin1 (List.mem_of_getElem? (i := 234) rfl) rfl
theorem zm_1_235 : (Jvm.Cond.methodLink "FlexibleBoxesLaw" (149 : Nat) ({ cls := "FlexibleBoxes", name := "hit", desc := "(II)I" } : Jvm.MethodName)) ∈ zU := zin1 (List.mem_of_getElem? (i := 235) rfl) rfl
theorem zm_1_236 : (Jvm.Cond.instanceMethod ({ cls := "FlexibleBoxes", name := "hit", desc := "(II)I" } : Jvm.MethodName)) ∈ zU := zin1 (List.mem_of_getElem? (i := 236) rfl) rfl
theorem zm_1_237 : (Jvm.Cond.selects "FlexibleBoxes" ({ cls := "FlexibleBoxes", name := "hit", desc := "(II)I" } : Jvm.MethodName) ({ cls := "FlexibleBoxes", name := "hit", desc := "(II)I" } : Jvm.MethodName)) ∈ zU := zin1 (List.mem_of_getElem? (i := 237) rfl) rfl
theorem zm_1_238 : (Jvm.Cond.code ({ cls := "FlexibleBoxes", name := "hit", desc := "(II)I" } : Jvm.MethodName) prog_1_method_20_code (3 : Nat) (Option.some Jvm.ClassFile.FieldType.int)) ∈ zU := zin1 (List.mem_of_getElem? (i := 238) rfl) rfl
theorem zm_1_239 : (Jvm.Cond.methodLink "FlexibleBoxes" (74 : Nat) ({ cls := "FlexibleBoxes$Layout", name := "arrange", desc := "()V" } : Jvm.MethodName)) ∈ zU := zin1 (List.mem_of_getElem? (i := 239) rfl) rfl
theorem zm_2_0 : (Jvm.Cond.instanceMethod ({ cls := "FlexibleBoxes$Layout", name := "arrange", desc := "()V" } : Jvm.MethodName)) ∈ zU := zin2 (List.mem_of_getElem? (i := 0) rfl) rfl
theorem zm_2_1 : (Jvm.Cond.selects "FlexibleBoxes$Layout" ({ cls := "FlexibleBoxes$Layout", name := "arrange", desc := "()V" } : Jvm.MethodName) ({ cls := "FlexibleBoxes$Layout", name := "arrange", desc := "()V" } : Jvm.MethodName)) ∈ zU := zin2 (List.mem_of_getElem? (i := 1) rfl) rfl
theorem zm_2_2 : (Jvm.Cond.code ({ cls := "FlexibleBoxes$Layout", name := "arrange", desc := "()V" } : Jvm.MethodName) prog_4_method_2_code (3 : Nat) (Option.none : Option Jvm.ClassFile.FieldType)) ∈ zU := zin2 (List.mem_of_getElem? (i := 2) rfl) rfl
theorem zm_2_3 : (Jvm.Cond.methodLink "FlexibleBoxes$Layout" (26 : Nat) ({ cls := "FlexibleBoxes$Tree", name := "link", desc := "()V" } : Jvm.MethodName)) ∈ zU := zin2 (List.mem_of_getElem? (i := 3) rfl) rfl
theorem zm_2_4 : (Jvm.Cond.instanceMethod ({ cls := "FlexibleBoxes$Tree", name := "link", desc := "()V" } : Jvm.MethodName)) ∈ zU := zin2 (List.mem_of_getElem? (i := 4) rfl) rfl
theorem zm_2_5 : (Jvm.Cond.selects "FlexibleBoxes$Tree" ({ cls := "FlexibleBoxes$Tree", name := "link", desc := "()V" } : Jvm.MethodName) ({ cls := "FlexibleBoxes$Tree", name := "link", desc := "()V" } : Jvm.MethodName)) ∈ zU := zin2 (List.mem_of_getElem? (i := 5) rfl) rfl
theorem zm_2_6 : (Jvm.Cond.code ({ cls := "FlexibleBoxes$Tree", name := "link", desc := "()V" } : Jvm.MethodName) prog_6_method_8_code (3 : Nat) (Option.none : Option Jvm.ClassFile.FieldType)) ∈ zU := zin2 (List.mem_of_getElem? (i := 6) rfl) rfl
theorem zm_2_7 : (Jvm.Cond.methodLink "FlexibleBoxes$Tree" (55 : Nat) ({ cls := "FlexibleBoxes$Box", name := "unlink", desc := "()V" } : Jvm.MethodName)) ∈ zU := zin2 (List.mem_of_getElem? (i := 7) rfl) rfl
theorem zm_2_8 : (Jvm.Cond.instanceMethod ({ cls := "FlexibleBoxes$Box", name := "unlink", desc := "()V" } : Jvm.MethodName)) ∈ zU := zin2 (List.mem_of_getElem? (i := 8) rfl) rfl
theorem zm_2_9 : (Jvm.Cond.selects "FlexibleBoxes$Box" ({ cls := "FlexibleBoxes$Box", name := "unlink", desc := "()V" } : Jvm.MethodName) ({ cls := "FlexibleBoxes$Box", name := "unlink", desc := "()V" } : Jvm.MethodName)) ∈ zU := zin2 (List.mem_of_getElem? (i := 9) rfl) rfl
theorem zm_2_10 : (Jvm.Cond.code ({ cls := "FlexibleBoxes$Box", name := "unlink", desc := "()V" } : Jvm.MethodName) prog_2_method_9_code (1 : Nat) (Option.none : Option Jvm.ClassFile.FieldType)) ∈ zU := zin2 (List.mem_of_getElem? (i := 10) rfl) rfl
theorem zm_2_11 : (Jvm.Cond.methodLink "FlexibleBoxes$Tree" (61 : Nat) ({ cls := "FlexibleBoxes$Box", name := "of", desc := "(I)I" } : Jvm.MethodName)) ∈ zU := zin2 (List.mem_of_getElem? (i := 11) rfl) rfl
theorem zm_2_12 : (Jvm.Cond.instanceMethod ({ cls := "FlexibleBoxes$Box", name := "of", desc := "(I)I" } : Jvm.MethodName)) ∈ zU := zin2 (List.mem_of_getElem? (i := 12) rfl) rfl
theorem zm_2_13 : (Jvm.Cond.selects "FlexibleBoxes$Box" ({ cls := "FlexibleBoxes$Box", name := "of", desc := "(I)I" } : Jvm.MethodName) ({ cls := "FlexibleBoxes$Box", name := "of", desc := "(I)I" } : Jvm.MethodName)) ∈ zU := zin2 (List.mem_of_getElem? (i := 13) rfl) rfl
theorem zm_2_14 : (Jvm.Cond.code ({ cls := "FlexibleBoxes$Box", name := "of", desc := "(I)I" } : Jvm.MethodName) prog_2_method_3_code (2 : Nat) (Option.some Jvm.ClassFile.FieldType.int)) ∈ zU := zin2 (List.mem_of_getElem? (i := 14) rfl) rfl
theorem zm_2_15 : (Jvm.Cond.methodLink "FlexibleBoxes$Tree" (65 : Nat) ({ cls := "FlexibleBoxes$Box", name := "adopt", desc := "(LFlexibleBoxes$Box;)V" } : Jvm.MethodName)) ∈ zU := zin2 (List.mem_of_getElem? (i := 15) rfl) rfl
theorem zm_2_16 : (Jvm.Cond.instanceMethod ({ cls := "FlexibleBoxes$Box", name := "adopt", desc := "(LFlexibleBoxes$Box;)V" } : Jvm.MethodName)) ∈ zU := zin2 (List.mem_of_getElem? (i := 16) rfl) rfl
theorem zm_2_17 : (Jvm.Cond.selects "FlexibleBoxes$Box" ({ cls := "FlexibleBoxes$Box", name := "adopt", desc := "(LFlexibleBoxes$Box;)V" } : Jvm.MethodName) ({ cls := "FlexibleBoxes$Box", name := "adopt", desc := "(LFlexibleBoxes$Box;)V" } : Jvm.MethodName)) ∈ zU := zin2 (List.mem_of_getElem? (i := 17) rfl) rfl
theorem zm_2_18 : (Jvm.Cond.code ({ cls := "FlexibleBoxes$Box", name := "adopt", desc := "(LFlexibleBoxes$Box;)V" } : Jvm.MethodName) prog_2_method_10_code (4 : Nat) (Option.none : Option Jvm.ClassFile.FieldType)) ∈ zU := zin2 (List.mem_of_getElem? (i := 18) rfl) rfl
theorem zm_2_19 : (Jvm.Cond.methodLink "FlexibleBoxes$Box" (30 : Nat) ({ cls := "FlexibleBoxes$Box", name := "of", desc := "(I)I" } : Jvm.MethodName)) ∈ zU := zin2 (List.mem_of_getElem? (i := 19) rfl) rfl
theorem zm_2_20 : (Jvm.Cond.methodLink "FlexibleBoxes$Layout" (31 : Nat) ({ cls := "FlexibleBoxes$Tree", name := "shownAt", desc := "(I)LFlexibleBoxes$Box;" } : Jvm.MethodName)) ∈ zU := zin2 (List.mem_of_getElem? (i := 20) rfl) rfl
theorem zm_2_21 : (Jvm.Cond.instanceMethod ({ cls := "FlexibleBoxes$Tree", name := "shownAt", desc := "(I)LFlexibleBoxes$Box;" } : Jvm.MethodName)) ∈ zU := zin2 (List.mem_of_getElem? (i := 21) rfl) rfl
theorem zm_2_22 : (Jvm.Cond.selects "FlexibleBoxes$Tree" ({ cls := "FlexibleBoxes$Tree", name := "shownAt", desc := "(I)LFlexibleBoxes$Box;" } : Jvm.MethodName) ({ cls := "FlexibleBoxes$Tree", name := "shownAt", desc := "(I)LFlexibleBoxes$Box;" } : Jvm.MethodName)) ∈ zU := zin2 (List.mem_of_getElem? (i := 22) rfl) rfl
theorem zm_2_23 : (Jvm.Cond.code ({ cls := "FlexibleBoxes$Tree", name := "shownAt", desc := "(I)LFlexibleBoxes$Box;" } : Jvm.MethodName) prog_6_method_3_code (3 : Nat) (Option.some (Jvm.ClassFile.FieldType.object "FlexibleBoxes$Box"))) ∈ zU := zin2 (List.mem_of_getElem? (i := 23) rfl) rfl
theorem zm_2_24 : (Jvm.Cond.methodLink "FlexibleBoxes$Layout" (35 : Nat) ({ cls := "FlexibleBoxes$Layout", name := "measureWidth", desc := "(LFlexibleBoxes$Box;)V" } : Jvm.MethodName)) ∈ zU := zin2 (List.mem_of_getElem? (i := 24) rfl) rfl
theorem zm_2_25 : (Jvm.Cond.static ({ cls := "FlexibleBoxes$Layout", name := "measureWidth", desc := "(LFlexibleBoxes$Box;)V" } : Jvm.MethodName)) ∈ zU := zin2 (List.mem_of_getElem? (i := 25) rfl) rfl
theorem zm_2_26 : (Jvm.Cond.code ({ cls := "FlexibleBoxes$Layout", name := "measureWidth", desc := "(LFlexibleBoxes$Box;)V" } : Jvm.MethodName) prog_4_method_3_code (2 : Nat) (Option.none : Option Jvm.ClassFile.FieldType)) ∈ zU := zin2 (List.mem_of_getElem? (i := 26) rfl) rfl
theorem zm_2_27 : (Jvm.Cond.methodLink "FlexibleBoxes$Layout" (74 : Nat) ({ cls := "FlexibleBoxes$Box", name := "fixedSize", desc := "(I)I" } : Jvm.MethodName)) ∈ zU := zin2 (List.mem_of_getElem? (i := 27) rfl) rfl
theorem zm_2_28 : (Jvm.Cond.instanceMethod ({ cls := "FlexibleBoxes$Box", name := "fixedSize", desc := "(I)I" } : Jvm.MethodName)) ∈ zU := zin2 (List.mem_of_getElem? (i := 28) rfl) rfl
theorem zm_2_29 : (Jvm.Cond.selects "FlexibleBoxes$Box" ({ cls := "FlexibleBoxes$Box", name := "fixedSize", desc := "(I)I" } : Jvm.MethodName) ({ cls := "FlexibleBoxes$Box", name := "fixedSize", desc := "(I)I" } : Jvm.MethodName)) ∈ zU := zin2 (List.mem_of_getElem? (i := 29) rfl) rfl
theorem zm_2_30 : (Jvm.Cond.code ({ cls := "FlexibleBoxes$Box", name := "fixedSize", desc := "(I)I" } : Jvm.MethodName) prog_2_method_16_code (2 : Nat) (Option.some Jvm.ClassFile.FieldType.int)) ∈ zU := zin2 (List.mem_of_getElem? (i := 30) rfl) rfl
theorem zm_2_31 : (Jvm.Cond.methodLink "FlexibleBoxes$Box" (65 : Nat) ({ cls := "FlexibleBoxes$Box", name := "isRoot", desc := "()Z" } : Jvm.MethodName)) ∈ zU := zin2 (List.mem_of_getElem? (i := 31) rfl) rfl
theorem zm_2_32 : (Jvm.Cond.instanceMethod ({ cls := "FlexibleBoxes$Box", name := "isRoot", desc := "()Z" } : Jvm.MethodName)) ∈ zU := zin2 (List.mem_of_getElem? (i := 32) rfl) rfl
theorem zm_2_33 : (Jvm.Cond.selects "FlexibleBoxes$Box" ({ cls := "FlexibleBoxes$Box", name := "isRoot", desc := "()Z" } : Jvm.MethodName) ({ cls := "FlexibleBoxes$Box", name := "isRoot", desc := "()Z" } : Jvm.MethodName)) ∈ zU := zin2 (List.mem_of_getElem? (i := 33) rfl) rfl
theorem zm_2_34 : (Jvm.Cond.code ({ cls := "FlexibleBoxes$Box", name := "isRoot", desc := "()Z" } : Jvm.MethodName) prog_2_method_5_code (1 : Nat) (Option.some Jvm.ClassFile.FieldType.boolean)) ∈ zU := zin2 (List.mem_of_getElem? (i := 34) rfl) rfl
theorem zm_2_35 : (Jvm.Cond.methodLink "FlexibleBoxes$Layout" (78 : Nat) ({ cls := "FlexibleBoxes$Layout", name := "contentWidth", desc := "(LFlexibleBoxes$Box;)I" } : Jvm.MethodName)) ∈ zU := zin2 (List.mem_of_getElem? (i := 35) rfl) rfl
theorem zm_2_36 : (Jvm.Cond.static ({ cls := "FlexibleBoxes$Layout", name := "contentWidth", desc := "(LFlexibleBoxes$Box;)I" } : Jvm.MethodName)) ∈ zU := zin2 (List.mem_of_getElem? (i := 36) rfl) rfl
theorem zm_2_37 : (Jvm.Cond.code ({ cls := "FlexibleBoxes$Layout", name := "contentWidth", desc := "(LFlexibleBoxes$Box;)I" } : Jvm.MethodName) prog_4_method_4_code (5 : Nat) (Option.some Jvm.ClassFile.FieldType.int)) ∈ zU := zin2 (List.mem_of_getElem? (i := 37) rfl) rfl
theorem zm_2_38 : (Jvm.Cond.methodLink "FlexibleBoxes$Layout" (82 : Nat) ({ cls := "FlexibleBoxes$Box", name := "of", desc := "(I)I" } : Jvm.MethodName)) ∈ zU := zin2 (List.mem_of_getElem? (i := 38) rfl) rfl
theorem zm_2_40 : (Jvm.Cond.static ({ cls := "FlexibleBoxes", name := "gaps", desc := "(II)I" } : Jvm.MethodName)) ∈ zU := zin2 (List.mem_of_getElem? (i := 40) rfl) rfl
theorem zm_2_41 : (Jvm.Cond.code ({ cls := "FlexibleBoxes", name := "gaps", desc := "(II)I" } : Jvm.MethodName) prog_1_method_29_code (2 : Nat) (Option.some Jvm.ClassFile.FieldType.int)) ∈ zU := zin2 (List.mem_of_getElem? (i := 41) rfl) rfl
theorem zm_2_42 : (Jvm.Cond.methodLink "FlexibleBoxes$Layout" (104 : Nat) ({ cls := "FlexibleBoxes$Box", name := "margins", desc := "()I" } : Jvm.MethodName)) ∈ zU := zin2 (List.mem_of_getElem? (i := 42) rfl) rfl
theorem zm_2_43 : (Jvm.Cond.instanceMethod ({ cls := "FlexibleBoxes$Box", name := "margins", desc := "()I" } : Jvm.MethodName)) ∈ zU := zin2 (List.mem_of_getElem? (i := 43) rfl) rfl
theorem zm_2_44 : (Jvm.Cond.selects "FlexibleBoxes$Box" ({ cls := "FlexibleBoxes$Box", name := "margins", desc := "()I" } : Jvm.MethodName) ({ cls := "FlexibleBoxes$Box", name := "margins", desc := "()I" } : Jvm.MethodName)) ∈ zU := zin2 (List.mem_of_getElem? (i := 44) rfl) rfl
theorem zm_2_45 : (Jvm.Cond.code ({ cls := "FlexibleBoxes$Box", name := "margins", desc := "()I" } : Jvm.MethodName) prog_2_method_13_code (1 : Nat) (Option.some Jvm.ClassFile.FieldType.int)) ∈ zU := zin2 (List.mem_of_getElem? (i := 45) rfl) rfl
theorem zm_2_46 : (Jvm.Cond.methodLink "FlexibleBoxes$Layout" (108 : Nat) ({ cls := "java/lang/Math", name := "max", desc := "(II)I" } : Jvm.MethodName)) ∈ zU := zin2 (List.mem_of_getElem? (i := 46) rfl) rfl
theorem zm_2_47 : (Jvm.Cond.static ({ cls := "java/lang/Math", name := "max", desc := "(II)I" } : Jvm.MethodName)) ∈ zU := zin2 (List.mem_of_getElem? (i := 47) rfl) rfl
theorem zm_2_48 : (Jvm.Cond.code ({ cls := "java/lang/Math", name := "max", desc := "(II)I" } : Jvm.MethodName) prog_13_method_65_code (2 : Nat) (Option.some Jvm.ClassFile.FieldType.int)) ∈ zU := zin2 (List.mem_of_getElem? (i := 48) rfl) rfl
theorem zm_2_49 : (Jvm.Cond.methodLink "FlexibleBoxes$Layout" (64 : Nat) ({ cls := "FlexibleBoxes$Box", name := "isColumn", desc := "()Z" } : Jvm.MethodName)) ∈ zU := zin2 (List.mem_of_getElem? (i := 49) rfl) rfl
theorem zm_2_50 : (Jvm.Cond.instanceMethod ({ cls := "FlexibleBoxes$Box", name := "isColumn", desc := "()Z" } : Jvm.MethodName)) ∈ zU := zin2 (List.mem_of_getElem? (i := 50) rfl) rfl
theorem zm_2_51 : (Jvm.Cond.selects "FlexibleBoxes$Box" ({ cls := "FlexibleBoxes$Box", name := "isColumn", desc := "()Z" } : Jvm.MethodName) ({ cls := "FlexibleBoxes$Box", name := "isColumn", desc := "()Z" } : Jvm.MethodName)) ∈ zU := zin2 (List.mem_of_getElem? (i := 51) rfl) rfl
theorem zm_2_52 : (Jvm.Cond.code ({ cls := "FlexibleBoxes$Box", name := "isColumn", desc := "()Z" } : Jvm.MethodName) prog_2_method_7_code (1 : Nat) (Option.some Jvm.ClassFile.FieldType.boolean)) ∈ zU := zin2 (List.mem_of_getElem? (i := 52) rfl) rfl
theorem zm_2_53 : (Jvm.Cond.methodLink "FlexibleBoxes$Layout" (85 : Nat) ({ cls := "FlexibleBoxes$Box", name := "limitWidth", desc := "(I)I" } : Jvm.MethodName)) ∈ zU := zin2 (List.mem_of_getElem? (i := 53) rfl) rfl
theorem zm_2_54 : (Jvm.Cond.instanceMethod ({ cls := "FlexibleBoxes$Box", name := "limitWidth", desc := "(I)I" } : Jvm.MethodName)) ∈ zU := zin2 (List.mem_of_getElem? (i := 54) rfl) rfl
theorem zm_2_55 : (Jvm.Cond.selects "FlexibleBoxes$Box" ({ cls := "FlexibleBoxes$Box", name := "limitWidth", desc := "(I)I" } : Jvm.MethodName) ({ cls := "FlexibleBoxes$Box", name := "limitWidth", desc := "(I)I" } : Jvm.MethodName)) ∈ zU := zin2 (List.mem_of_getElem? (i := 55) rfl) rfl
theorem zm_2_56 : (Jvm.Cond.code ({ cls := "FlexibleBoxes$Box", name := "limitWidth", desc := "(I)I" } : Jvm.MethodName) prog_2_method_14_code (2 : Nat) (Option.some Jvm.ClassFile.FieldType.int)) ∈ zU := zin2 (List.mem_of_getElem? (i := 56) rfl) rfl
theorem zm_2_58 : (Jvm.Cond.static ({ cls := "FlexibleBoxes", name := "limited", desc := "(III)I" } : Jvm.MethodName)) ∈ zU := zin2 (List.mem_of_getElem? (i := 58) rfl) rfl
theorem zm_2_59 : (Jvm.Cond.code ({ cls := "FlexibleBoxes", name := "limited", desc := "(III)I" } : Jvm.MethodName) prog_1_method_28_code (4 : Nat) (Option.some Jvm.ClassFile.FieldType.int)) ∈ zU := zin2 (List.mem_of_getElem? (i := 59) rfl) rfl
theorem zm_2_60 : (Jvm.Cond.methodLink "FlexibleBoxes$Layout" (52 : Nat) ({ cls := "FlexibleBoxes$Layout", name := "spreadWidths", desc := "(LFlexibleBoxes$Box;)V" } : Jvm.MethodName)) ∈ zU := zin2 (List.mem_of_getElem? (i := 60) rfl) rfl
theorem zm_2_62 : (Jvm.Cond.instanceMethod ({ cls := "FlexibleBoxes$Layout", name := "spreadWidths", desc := "(LFlexibleBoxes$Box;)V" } : Jvm.MethodName)) ∈ zU := zin2 (List.mem_of_getElem? (i := 62) rfl) rfl
theorem zm_2_63 : (Jvm.Cond.code ({ cls := "FlexibleBoxes$Layout", name := "spreadWidths", desc := "(LFlexibleBoxes$Box;)V" } : Jvm.MethodName) prog_4_method_5_code (5 : Nat) (Option.none : Option Jvm.ClassFile.FieldType)) ∈ zU := zin2 (List.mem_of_getElem? (i := 63) rfl) rfl
theorem zm_2_64 : (Jvm.Cond.methodLink "FlexibleBoxes$Layout" (116 : Nat) ({ cls := "FlexibleBoxes$Layout", name := "spreadColumn", desc := "(LFlexibleBoxes$Box;)V" } : Jvm.MethodName)) ∈ zU := zin2 (List.mem_of_getElem? (i := 64) rfl) rfl
theorem zm_2_65 : (Jvm.Cond.static ({ cls := "FlexibleBoxes$Layout", name := "spreadColumn", desc := "(LFlexibleBoxes$Box;)V" } : Jvm.MethodName)) ∈ zU := zin2 (List.mem_of_getElem? (i := 65) rfl) rfl
theorem zm_2_66 : (Jvm.Cond.code ({ cls := "FlexibleBoxes$Layout", name := "spreadColumn", desc := "(LFlexibleBoxes$Box;)V" } : Jvm.MethodName) prog_4_method_6_code (5 : Nat) (Option.none : Option Jvm.ClassFile.FieldType)) ∈ zU := zin2 (List.mem_of_getElem? (i := 66) rfl) rfl
theorem zm_2_67 : (Jvm.Cond.methodLink "FlexibleBoxes$Layout" (129 : Nat) ({ cls := "FlexibleBoxes$Box", name := "innerWidth", desc := "()I" } : Jvm.MethodName)) ∈ zU := zin2 (List.mem_of_getElem? (i := 67) rfl) rfl
theorem zm_2_68 : (Jvm.Cond.instanceMethod ({ cls := "FlexibleBoxes$Box", name := "innerWidth", desc := "()I" } : Jvm.MethodName)) ∈ zU := zin2 (List.mem_of_getElem? (i := 68) rfl) rfl
theorem zm_2_69 : (Jvm.Cond.selects "FlexibleBoxes$Box" ({ cls := "FlexibleBoxes$Box", name := "innerWidth", desc := "()I" } : Jvm.MethodName) ({ cls := "FlexibleBoxes$Box", name := "innerWidth", desc := "()I" } : Jvm.MethodName)) ∈ zU := zin2 (List.mem_of_getElem? (i := 69) rfl) rfl
theorem zm_2_70 : (Jvm.Cond.code ({ cls := "FlexibleBoxes$Box", name := "innerWidth", desc := "()I" } : Jvm.MethodName) prog_2_method_11_code (1 : Nat) (Option.some Jvm.ClassFile.FieldType.int)) ∈ zU := zin2 (List.mem_of_getElem? (i := 70) rfl) rfl
theorem zm_2_71 : (Jvm.Cond.methodLink "FlexibleBoxes$Box" (56 : Nat) ({ cls := "java/lang/Math", name := "max", desc := "(II)I" } : Jvm.MethodName)) ∈ zU := zin2 (List.mem_of_getElem? (i := 71) rfl) rfl
theorem zm_2_72 : (Jvm.Cond.methodLink "FlexibleBoxes$Layout" (136 : Nat) ({ cls := "FlexibleBoxes$Box", name := "alignment", desc := "()I" } : Jvm.MethodName)) ∈ zU := zin2 (List.mem_of_getElem? (i := 72) rfl) rfl
theorem zm_2_73 : (Jvm.Cond.instanceMethod ({ cls := "FlexibleBoxes$Box", name := "alignment", desc := "()I" } : Jvm.MethodName)) ∈ zU := zin2 (List.mem_of_getElem? (i := 73) rfl) rfl
theorem zm_2_74 : (Jvm.Cond.selects "FlexibleBoxes$Box" ({ cls := "FlexibleBoxes$Box", name := "alignment", desc := "()I" } : Jvm.MethodName) ({ cls := "FlexibleBoxes$Box", name := "alignment", desc := "()I" } : Jvm.MethodName)) ∈ zU := zin2 (List.mem_of_getElem? (i := 74) rfl) rfl
theorem zm_2_75 : (Jvm.Cond.code ({ cls := "FlexibleBoxes$Box", name := "alignment", desc := "()I" } : Jvm.MethodName) prog_2_method_17_code (1 : Nat) (Option.some Jvm.ClassFile.FieldType.int)) ∈ zU := zin2 (List.mem_of_getElem? (i := 75) rfl) rfl
theorem zm_2_76 : (Jvm.Cond.methodLink "FlexibleBoxes$Layout" (139 : Nat) ({ cls := "java/lang/Math", name := "min", desc := "(II)I" } : Jvm.MethodName)) ∈ zU := zin2 (List.mem_of_getElem? (i := 76) rfl) rfl
theorem zm_2_77 : (Jvm.Cond.static ({ cls := "java/lang/Math", name := "min", desc := "(II)I" } : Jvm.MethodName)) ∈ zU := zin2 (List.mem_of_getElem? (i := 77) rfl) rfl
theorem zm_2_78 : (Jvm.Cond.code ({ cls := "java/lang/Math", name := "min", desc := "(II)I" } : Jvm.MethodName) prog_13_method_69_code (2 : Nat) (Option.some Jvm.ClassFile.FieldType.int)) ∈ zU := zin2 (List.mem_of_getElem? (i := 78) rfl) rfl
theorem zm_2_79 : (Jvm.Cond.methodLink "FlexibleBoxes$Layout" (119 : Nat) ({ cls := "FlexibleBoxes$Layout", name := "breakLines", desc := "(LFlexibleBoxes$Box;)V" } : Jvm.MethodName)) ∈ zU := zin2 (List.mem_of_getElem? (i := 79) rfl) rfl
theorem zm_2_80 : (Jvm.Cond.static ({ cls := "FlexibleBoxes$Layout", name := "breakLines", desc := "(LFlexibleBoxes$Box;)V" } : Jvm.MethodName)) ∈ zU := zin2 (List.mem_of_getElem? (i := 80) rfl) rfl
theorem zm_2_81 : (Jvm.Cond.code ({ cls := "FlexibleBoxes$Layout", name := "breakLines", desc := "(LFlexibleBoxes$Box;)V" } : Jvm.MethodName) prog_4_method_7_code (5 : Nat) (Option.none : Option Jvm.ClassFile.FieldType)) ∈ zU := zin2 (List.mem_of_getElem? (i := 81) rfl) rfl
theorem zm_2_82 : (Jvm.Cond.methodLink "FlexibleBoxes$Layout" (145 : Nat) ({ cls := "FlexibleBoxes$Flex", name := "baseOf", desc := "(LFlexibleBoxes$Box;Z)I" } : Jvm.MethodName)) ∈ zU := zin2 (List.mem_of_getElem? (i := 82) rfl) rfl
theorem zm_2_83 : (Jvm.Cond.static ({ cls := "FlexibleBoxes$Flex", name := "baseOf", desc := "(LFlexibleBoxes$Box;Z)I" } : Jvm.MethodName)) ∈ zU := zin2 (List.mem_of_getElem? (i := 83) rfl) rfl
theorem zm_2_84 : (Jvm.Cond.code ({ cls := "FlexibleBoxes$Flex", name := "baseOf", desc := "(LFlexibleBoxes$Box;Z)I" } : Jvm.MethodName) prog_3_method_4_code (2 : Nat) (Option.some Jvm.ClassFile.FieldType.int)) ∈ zU := zin2 (List.mem_of_getElem? (i := 84) rfl) rfl
theorem zm_2_85 : (Jvm.Cond.methodLink "FlexibleBoxes$Flex" (51 : Nat) ({ cls := "FlexibleBoxes$Box", name := "of", desc := "(I)I" } : Jvm.MethodName)) ∈ zU := zin2 (List.mem_of_getElem? (i := 85) rfl) rfl
theorem zm_2_86 : (Jvm.Cond.methodLink "FlexibleBoxes$Layout" (149 : Nat) ({ cls := "FlexibleBoxes$Box", name := "wraps", desc := "()Z" } : Jvm.MethodName)) ∈ zU := zin2 (List.mem_of_getElem? (i := 86) rfl) rfl
theorem zm_2_87 : (Jvm.Cond.instanceMethod ({ cls := "FlexibleBoxes$Box", name := "wraps", desc := "()Z" } : Jvm.MethodName)) ∈ zU := zin2 (List.mem_of_getElem? (i := 87) rfl) rfl
theorem zm_2_88 : (Jvm.Cond.selects "FlexibleBoxes$Box" ({ cls := "FlexibleBoxes$Box", name := "wraps", desc := "()Z" } : Jvm.MethodName) ({ cls := "FlexibleBoxes$Box", name := "wraps", desc := "()Z" } : Jvm.MethodName)) ∈ zU := zin2 (List.mem_of_getElem? (i := 88) rfl) rfl
theorem zm_2_89 : (Jvm.Cond.code ({ cls := "FlexibleBoxes$Box", name := "wraps", desc := "()Z" } : Jvm.MethodName) prog_2_method_8_code (1 : Nat) (Option.some Jvm.ClassFile.FieldType.boolean)) ∈ zU := zin2 (List.mem_of_getElem? (i := 89) rfl) rfl
theorem zm_2_90 : (Jvm.Cond.methodLink "FlexibleBoxes$Layout" (125 : Nat) ({ cls := "FlexibleBoxes$Layout", name := "lineEnd", desc := "(LFlexibleBoxes$Box;)LFlexibleBoxes$Box;" } : Jvm.MethodName)) ∈ zU := zin2 (List.mem_of_getElem? (i := 90) rfl) rfl
theorem zm_2_91 : (Jvm.Cond.static ({ cls := "FlexibleBoxes$Layout", name := "lineEnd", desc := "(LFlexibleBoxes$Box;)LFlexibleBoxes$Box;" } : Jvm.MethodName)) ∈ zU := zin2 (List.mem_of_getElem? (i := 91) rfl) rfl
theorem zm_2_92 : (Jvm.Cond.code ({ cls := "FlexibleBoxes$Layout", name := "lineEnd", desc := "(LFlexibleBoxes$Box;)LFlexibleBoxes$Box;" } : Jvm.MethodName) prog_4_method_8_code (2 : Nat) (Option.some (Jvm.ClassFile.FieldType.object "FlexibleBoxes$Box"))) ∈ zU := zin2 (List.mem_of_getElem? (i := 92) rfl) rfl
theorem zm_2_93 : (Jvm.Cond.methodLink "FlexibleBoxes$Layout" (132 : Nat) ({ cls := "FlexibleBoxes$Layout", name := "flexKids", desc := "(LFlexibleBoxes$Box;LFlexibleBoxes$Box;ZII)V" } : Jvm.MethodName)) ∈ zU := zin2 (List.mem_of_getElem? (i := 93) rfl) rfl
theorem zm_2_95 : (Jvm.Cond.instanceMethod ({ cls := "FlexibleBoxes$Layout", name := "flexKids", desc := "(LFlexibleBoxes$Box;LFlexibleBoxes$Box;ZII)V" } : Jvm.MethodName)) ∈ zU := zin2 (List.mem_of_getElem? (i := 95) rfl) rfl
theorem zm_2_96 : (Jvm.Cond.code ({ cls := "FlexibleBoxes$Layout", name := "flexKids", desc := "(LFlexibleBoxes$Box;LFlexibleBoxes$Box;ZII)V" } : Jvm.MethodName) prog_4_method_9_code (8 : Nat) (Option.none : Option Jvm.ClassFile.FieldType)) ∈ zU := zin2 (List.mem_of_getElem? (i := 96) rfl) rfl
theorem zm_2_97 : (Jvm.Cond.methodLink "FlexibleBoxes$Layout" (152 : Nat) ({ cls := "FlexibleBoxes$Flex", name := "clear", desc := "()V" } : Jvm.MethodName)) ∈ zU := zin2 (List.mem_of_getElem? (i := 97) rfl) rfl
theorem zm_2_98 : (Jvm.Cond.instanceMethod ({ cls := "FlexibleBoxes$Flex", name := "clear", desc := "()V" } : Jvm.MethodName)) ∈ zU := zin2 (List.mem_of_getElem? (i := 98) rfl) rfl
theorem zm_2_99 : (Jvm.Cond.selects "FlexibleBoxes$Flex" ({ cls := "FlexibleBoxes$Flex", name := "clear", desc := "()V" } : Jvm.MethodName) ({ cls := "FlexibleBoxes$Flex", name := "clear", desc := "()V" } : Jvm.MethodName)) ∈ zU := zin2 (List.mem_of_getElem? (i := 99) rfl) rfl
theorem zm_2_100 : (Jvm.Cond.code ({ cls := "FlexibleBoxes$Flex", name := "clear", desc := "()V" } : Jvm.MethodName) prog_3_method_2_code (1 : Nat) (Option.none : Option Jvm.ClassFile.FieldType)) ∈ zU := zin2 (List.mem_of_getElem? (i := 100) rfl) rfl
theorem zm_2_101 : (Jvm.Cond.methodLink "FlexibleBoxes$Layout" (155 : Nat) ({ cls := "FlexibleBoxes$Flex", name := "put", desc := "(LFlexibleBoxes$Box;Z)V" } : Jvm.MethodName)) ∈ zU := zin2 (List.mem_of_getElem? (i := 101) rfl) rfl
theorem zm_2_102 : (Jvm.Cond.instanceMethod ({ cls := "FlexibleBoxes$Flex", name := "put", desc := "(LFlexibleBoxes$Box;Z)V" } : Jvm.MethodName)) ∈ zU := zin2 (List.mem_of_getElem? (i := 102) rfl) rfl
theorem zm_2_103 : (Jvm.Cond.selects "FlexibleBoxes$Flex" ({ cls := "FlexibleBoxes$Flex", name := "put", desc := "(LFlexibleBoxes$Box;Z)V" } : Jvm.MethodName) ({ cls := "FlexibleBoxes$Flex", name := "put", desc := "(LFlexibleBoxes$Box;Z)V" } : Jvm.MethodName)) ∈ zU := zin2 (List.mem_of_getElem? (i := 103) rfl) rfl
theorem zm_2_104 : (Jvm.Cond.code ({ cls := "FlexibleBoxes$Flex", name := "put", desc := "(LFlexibleBoxes$Box;Z)V" } : Jvm.MethodName) prog_3_method_3_code (3 : Nat) (Option.none : Option Jvm.ClassFile.FieldType)) ∈ zU := zin2 (List.mem_of_getElem? (i := 104) rfl) rfl
theorem zm_2_105 : (Jvm.Cond.methodLink "FlexibleBoxes$Flex" (47 : Nat) ({ cls := "FlexibleBoxes$Flex", name := "baseOf", desc := "(LFlexibleBoxes$Box;Z)I" } : Jvm.MethodName)) ∈ zU := zin2 (List.mem_of_getElem? (i := 105) rfl) rfl
theorem zm_2_106 : (Jvm.Cond.methodLink "FlexibleBoxes$Flex" (57 : Nat) ({ cls := "FlexibleBoxes$Box", name := "margins", desc := "()I" } : Jvm.MethodName)) ∈ zU := zin2 (List.mem_of_getElem? (i := 106) rfl) rfl
theorem zm_2_107 : (Jvm.Cond.methodLink "FlexibleBoxes$Layout" (159 : Nat) ({ cls := "FlexibleBoxes$Flex", name := "share", desc := "(II)V" } : Jvm.MethodName)) ∈ zU := zin2 (List.mem_of_getElem? (i := 107) rfl) rfl
theorem zm_2_108 : (Jvm.Cond.instanceMethod ({ cls := "FlexibleBoxes$Flex", name := "share", desc := "(II)V" } : Jvm.MethodName)) ∈ zU := zin2 (List.mem_of_getElem? (i := 108) rfl) rfl
theorem zm_2_109 : (Jvm.Cond.selects "FlexibleBoxes$Flex" ({ cls := "FlexibleBoxes$Flex", name := "share", desc := "(II)V" } : Jvm.MethodName) ({ cls := "FlexibleBoxes$Flex", name := "share", desc := "(II)V" } : Jvm.MethodName)) ∈ zU := zin2 (List.mem_of_getElem? (i := 109) rfl) rfl
theorem zm_2_110 : (Jvm.Cond.code ({ cls := "FlexibleBoxes$Flex", name := "share", desc := "(II)V" } : Jvm.MethodName) prog_3_method_6_code (9 : Nat) (Option.none : Option Jvm.ClassFile.FieldType)) ∈ zU := zin2 (List.mem_of_getElem? (i := 110) rfl) rfl
theorem zm_2_112 : (Jvm.Cond.methodLink "FlexibleBoxes$Flex" (70 : Nat) ({ cls := "FlexibleBoxes$Flex", name := "begin", desc := "()I" } : Jvm.MethodName)) ∈ zU := zin2 (List.mem_of_getElem? (i := 112) rfl) rfl
theorem zm_2_114 : (Jvm.Cond.instanceMethod ({ cls := "FlexibleBoxes$Flex", name := "begin", desc := "()I" } : Jvm.MethodName)) ∈ zU := zin2 (List.mem_of_getElem? (i := 114) rfl) rfl
theorem zm_2_115 : (Jvm.Cond.code ({ cls := "FlexibleBoxes$Flex", name := "begin", desc := "()I" } : Jvm.MethodName) prog_3_method_7_code (3 : Nat) (Option.some Jvm.ClassFile.FieldType.int)) ∈ zU := zin2 (List.mem_of_getElem? (i := 115) rfl) rfl
theorem zm_2_117 : (Jvm.Cond.methodLink "FlexibleBoxes$Flex" (73 : Nat) ({ cls := "FlexibleBoxes$Flex", name := "openFactors", desc := "()J" } : Jvm.MethodName)) ∈ zU := zin2 (List.mem_of_getElem? (i := 117) rfl) rfl
theorem zm_2_119 : (Jvm.Cond.instanceMethod ({ cls := "FlexibleBoxes$Flex", name := "openFactors", desc := "()J" } : Jvm.MethodName)) ∈ zU := zin2 (List.mem_of_getElem? (i := 119) rfl) rfl
theorem zm_2_120 : (Jvm.Cond.code ({ cls := "FlexibleBoxes$Flex", name := "openFactors", desc := "()J" } : Jvm.MethodName) prog_3_method_9_code (4 : Nat) (Option.some Jvm.ClassFile.FieldType.long)) ∈ zU := zin2 (List.mem_of_getElem? (i := 120) rfl) rfl
theorem zm_2_121 : (Jvm.Cond.methodLink "FlexibleBoxes$Flex" (77 : Nat) ({ cls := "FlexibleBoxes$Flex", name := "restOf", desc := "(I)I" } : Jvm.MethodName)) ∈ zU := zin2 (List.mem_of_getElem? (i := 121) rfl) rfl
theorem zm_2_123 : (Jvm.Cond.instanceMethod ({ cls := "FlexibleBoxes$Flex", name := "restOf", desc := "(I)I" } : Jvm.MethodName)) ∈ zU := zin2 (List.mem_of_getElem? (i := 123) rfl) rfl
theorem zm_2_124 : (Jvm.Cond.code ({ cls := "FlexibleBoxes$Flex", name := "restOf", desc := "(I)I" } : Jvm.MethodName) prog_3_method_8_code (4 : Nat) (Option.some Jvm.ClassFile.FieldType.int)) ∈ zU := zin2 (List.mem_of_getElem? (i := 124) rfl) rfl
theorem zm_2_125 : (Jvm.Cond.methodLink "FlexibleBoxes$Flex" (80 : Nat) ({ cls := "java/lang/Math", name := "max", desc := "(II)I" } : Jvm.MethodName)) ∈ zU := zin2 (List.mem_of_getElem? (i := 125) rfl) rfl
theorem zm_2_126 : (Jvm.Cond.methodLink "FlexibleBoxes$Flex" (85 : Nat) ({ cls := "FlexibleBoxes$Flex", name := "propose", desc := "(JJZ)J" } : Jvm.MethodName)) ∈ zU := zin2 (List.mem_of_getElem? (i := 126) rfl) rfl
theorem zm_2_128 : (Jvm.Cond.instanceMethod ({ cls := "FlexibleBoxes$Flex", name := "propose", desc := "(JJZ)J" } : Jvm.MethodName)) ∈ zU := zin2 (List.mem_of_getElem? (i := 128) rfl) rfl
theorem zm_2_129 : (Jvm.Cond.code ({ cls := "FlexibleBoxes$Flex", name := "propose", desc := "(JJZ)J" } : Jvm.MethodName) prog_3_method_10_code (17 : Nat) (Option.some Jvm.ClassFile.FieldType.long)) ∈ zU := zin2 (List.mem_of_getElem? (i := 129) rfl) rfl
theorem zm_2_130 : (Jvm.Cond.methodLink "FlexibleBoxes$Flex" (89 : Nat) ({ cls := "FlexibleBoxes$Flex", name := "settle", desc := "(J)V" } : Jvm.MethodName)) ∈ zU := zin2 (List.mem_of_getElem? (i := 130) rfl) rfl
theorem zm_2_132 : (Jvm.Cond.instanceMethod ({ cls := "FlexibleBoxes$Flex", name := "settle", desc := "(J)V" } : Jvm.MethodName)) ∈ zU := zin2 (List.mem_of_getElem? (i := 132) rfl) rfl
theorem zm_2_133 : (Jvm.Cond.code ({ cls := "FlexibleBoxes$Flex", name := "settle", desc := "(J)V" } : Jvm.MethodName) prog_3_method_11_code (5 : Nat) (Option.none : Option Jvm.ClassFile.FieldType)) ∈ zU := zin2 (List.mem_of_getElem? (i := 133) rfl) rfl
theorem zm_2_134 : (Jvm.Cond.methodLink "FlexibleBoxes$Layout" (163 : Nat) ({ cls := "FlexibleBoxes$Flex", name := "sizeAt", desc := "(I)I" } : Jvm.MethodName)) ∈ zU := zin2 (List.mem_of_getElem? (i := 134) rfl) rfl
theorem zm_2_135 : (Jvm.Cond.instanceMethod ({ cls := "FlexibleBoxes$Flex", name := "sizeAt", desc := "(I)I" } : Jvm.MethodName)) ∈ zU := zin2 (List.mem_of_getElem? (i := 135) rfl) rfl
theorem zm_2_136 : (Jvm.Cond.selects "FlexibleBoxes$Flex" ({ cls := "FlexibleBoxes$Flex", name := "sizeAt", desc := "(I)I" } : Jvm.MethodName) ({ cls := "FlexibleBoxes$Flex", name := "sizeAt", desc := "(I)I" } : Jvm.MethodName)) ∈ zU := zin2 (List.mem_of_getElem? (i := 136) rfl) rfl
theorem zm_2_137 : (Jvm.Cond.code ({ cls := "FlexibleBoxes$Flex", name := "sizeAt", desc := "(I)I" } : Jvm.MethodName) prog_3_method_5_code (2 : Nat) (Option.some Jvm.ClassFile.FieldType.int)) ∈ zU := zin2 (List.mem_of_getElem? (i := 137) rfl) rfl
theorem zm_2_138 : (Jvm.Cond.methodLink "FlexibleBoxes$Layout" (55 : Nat) ({ cls := "FlexibleBoxes$Layout", name := "measureHeight", desc := "(LFlexibleBoxes$Box;)V" } : Jvm.MethodName)) ∈ zU := zin2 (List.mem_of_getElem? (i := 138) rfl) rfl
theorem zm_2_139 : (Jvm.Cond.static ({ cls := "FlexibleBoxes$Layout", name := "measureHeight", desc := "(LFlexibleBoxes$Box;)V" } : Jvm.MethodName)) ∈ zU := zin2 (List.mem_of_getElem? (i := 139) rfl) rfl
theorem zm_2_140 : (Jvm.Cond.code ({ cls := "FlexibleBoxes$Layout", name := "measureHeight", desc := "(LFlexibleBoxes$Box;)V" } : Jvm.MethodName) prog_4_method_10_code (2 : Nat) (Option.none : Option Jvm.ClassFile.FieldType)) ∈ zU := zin2 (List.mem_of_getElem? (i := 140) rfl) rfl
theorem zm_2_141 : (Jvm.Cond.methodLink "FlexibleBoxes$Layout" (166 : Nat) ({ cls := "FlexibleBoxes$Box", name := "textLines", desc := "()I" } : Jvm.MethodName)) ∈ zU := zin2 (List.mem_of_getElem? (i := 141) rfl) rfl
theorem zm_2_142 : (Jvm.Cond.instanceMethod ({ cls := "FlexibleBoxes$Box", name := "textLines", desc := "()I" } : Jvm.MethodName)) ∈ zU := zin2 (List.mem_of_getElem? (i := 142) rfl) rfl
theorem zm_2_143 : (Jvm.Cond.selects "FlexibleBoxes$Box" ({ cls := "FlexibleBoxes$Box", name := "textLines", desc := "()I" } : Jvm.MethodName) ({ cls := "FlexibleBoxes$Box", name := "textLines", desc := "()I" } : Jvm.MethodName)) ∈ zU := zin2 (List.mem_of_getElem? (i := 143) rfl) rfl
theorem zm_2_144 : (Jvm.Cond.code ({ cls := "FlexibleBoxes$Box", name := "textLines", desc := "()I" } : Jvm.MethodName) prog_2_method_18_code (2 : Nat) (Option.some Jvm.ClassFile.FieldType.int)) ∈ zU := zin2 (List.mem_of_getElem? (i := 144) rfl) rfl
theorem zm_2_145 : (Jvm.Cond.methodLink "FlexibleBoxes$Box" (73 : Nat) ({ cls := "FlexibleBoxes$Box", name := "innerWidth", desc := "()I" } : Jvm.MethodName)) ∈ zU := zin2 (List.mem_of_getElem? (i := 145) rfl) rfl
theorem zm_2_146 : (Jvm.Cond.methodLink "FlexibleBoxes$Layout" (169 : Nat) ({ cls := "FlexibleBoxes$Layout", name := "contentHeight", desc := "(LFlexibleBoxes$Box;)I" } : Jvm.MethodName)) ∈ zU := zin2 (List.mem_of_getElem? (i := 146) rfl) rfl
theorem zm_2_147 : (Jvm.Cond.static ({ cls := "FlexibleBoxes$Layout", name := "contentHeight", desc := "(LFlexibleBoxes$Box;)I" } : Jvm.MethodName)) ∈ zU := zin2 (List.mem_of_getElem? (i := 147) rfl) rfl
theorem zm_2_148 : (Jvm.Cond.code ({ cls := "FlexibleBoxes$Layout", name := "contentHeight", desc := "(LFlexibleBoxes$Box;)I" } : Jvm.MethodName) prog_4_method_11_code (5 : Nat) (Option.some Jvm.ClassFile.FieldType.int)) ∈ zU := zin2 (List.mem_of_getElem? (i := 148) rfl) rfl
theorem zm_2_149 : (Jvm.Cond.methodLink "FlexibleBoxes$Layout" (178 : Nat) ({ cls := "FlexibleBoxes$Layout", name := "lineHeight", desc := "(LFlexibleBoxes$Box;LFlexibleBoxes$Box;)I" } : Jvm.MethodName)) ∈ zU := zin2 (List.mem_of_getElem? (i := 149) rfl) rfl
theorem zm_2_150 : (Jvm.Cond.static ({ cls := "FlexibleBoxes$Layout", name := "lineHeight", desc := "(LFlexibleBoxes$Box;LFlexibleBoxes$Box;)I" } : Jvm.MethodName)) ∈ zU := zin2 (List.mem_of_getElem? (i := 150) rfl) rfl
theorem zm_2_151 : (Jvm.Cond.code ({ cls := "FlexibleBoxes$Layout", name := "lineHeight", desc := "(LFlexibleBoxes$Box;LFlexibleBoxes$Box;)I" } : Jvm.MethodName) prog_4_method_12_code (4 : Nat) (Option.some Jvm.ClassFile.FieldType.int)) ∈ zU := zin2 (List.mem_of_getElem? (i := 151) rfl) rfl
theorem zm_2_152 : (Jvm.Cond.methodLink "FlexibleBoxes$Layout" (172 : Nat) ({ cls := "FlexibleBoxes$Box", name := "limitHeight", desc := "(I)I" } : Jvm.MethodName)) ∈ zU := zin2 (List.mem_of_getElem? (i := 152) rfl) rfl
theorem zm_2_153 : (Jvm.Cond.instanceMethod ({ cls := "FlexibleBoxes$Box", name := "limitHeight", desc := "(I)I" } : Jvm.MethodName)) ∈ zU := zin2 (List.mem_of_getElem? (i := 153) rfl) rfl
theorem zm_2_154 : (Jvm.Cond.selects "FlexibleBoxes$Box" ({ cls := "FlexibleBoxes$Box", name := "limitHeight", desc := "(I)I" } : Jvm.MethodName) ({ cls := "FlexibleBoxes$Box", name := "limitHeight", desc := "(I)I" } : Jvm.MethodName)) ∈ zU := zin2 (List.mem_of_getElem? (i := 154) rfl) rfl
theorem zm_2_155 : (Jvm.Cond.code ({ cls := "FlexibleBoxes$Box", name := "limitHeight", desc := "(I)I" } : Jvm.MethodName) prog_2_method_15_code (2 : Nat) (Option.some Jvm.ClassFile.FieldType.int)) ∈ zU := zin2 (List.mem_of_getElem? (i := 155) rfl) rfl
theorem zm_2_156 : (Jvm.Cond.methodLink "FlexibleBoxes$Layout" (68 : Nat) ({ cls := "FlexibleBoxes$Layout", name := "placeColumn", desc := "(LFlexibleBoxes$Box;)V" } : Jvm.MethodName)) ∈ zU := zin2 (List.mem_of_getElem? (i := 156) rfl) rfl
theorem zm_2_158 : (Jvm.Cond.instanceMethod ({ cls := "FlexibleBoxes$Layout", name := "placeColumn", desc := "(LFlexibleBoxes$Box;)V" } : Jvm.MethodName)) ∈ zU := zin2 (List.mem_of_getElem? (i := 158) rfl) rfl
theorem zm_2_159 : (Jvm.Cond.code ({ cls := "FlexibleBoxes$Layout", name := "placeColumn", desc := "(LFlexibleBoxes$Box;)V" } : Jvm.MethodName) prog_4_method_14_code (8 : Nat) (Option.none : Option Jvm.ClassFile.FieldType)) ∈ zU := zin2 (List.mem_of_getElem? (i := 159) rfl) rfl
theorem zm_2_160 : (Jvm.Cond.methodLink "FlexibleBoxes$Layout" (185 : Nat) ({ cls := "FlexibleBoxes$Box", name := "innerHeight", desc := "()I" } : Jvm.MethodName)) ∈ zU := zin2 (List.mem_of_getElem? (i := 160) rfl) rfl
theorem zm_2_161 : (Jvm.Cond.instanceMethod ({ cls := "FlexibleBoxes$Box", name := "innerHeight", desc := "()I" } : Jvm.MethodName)) ∈ zU := zin2 (List.mem_of_getElem? (i := 161) rfl) rfl
theorem zm_2_162 : (Jvm.Cond.selects "FlexibleBoxes$Box" ({ cls := "FlexibleBoxes$Box", name := "innerHeight", desc := "()I" } : Jvm.MethodName) ({ cls := "FlexibleBoxes$Box", name := "innerHeight", desc := "()I" } : Jvm.MethodName)) ∈ zU := zin2 (List.mem_of_getElem? (i := 162) rfl) rfl
theorem zm_2_163 : (Jvm.Cond.code ({ cls := "FlexibleBoxes$Box", name := "innerHeight", desc := "()I" } : Jvm.MethodName) prog_2_method_12_code (1 : Nat) (Option.some Jvm.ClassFile.FieldType.int)) ∈ zU := zin2 (List.mem_of_getElem? (i := 163) rfl) rfl
theorem zm_2_164 : (Jvm.Cond.methodLink "FlexibleBoxes$Layout" (195 : Nat) ({ cls := "FlexibleBoxes$Layout", name := "alignShift", desc := "(II)I" } : Jvm.MethodName)) ∈ zU := zin2 (List.mem_of_getElem? (i := 164) rfl) rfl
theorem zm_2_165 : (Jvm.Cond.static ({ cls := "FlexibleBoxes$Layout", name := "alignShift", desc := "(II)I" } : Jvm.MethodName)) ∈ zU := zin2 (List.mem_of_getElem? (i := 165) rfl) rfl
theorem zm_2_166 : (Jvm.Cond.code ({ cls := "FlexibleBoxes$Layout", name := "alignShift", desc := "(II)I" } : Jvm.MethodName) prog_4_method_18_code (2 : Nat) (Option.some Jvm.ClassFile.FieldType.int)) ∈ zU := zin2 (List.mem_of_getElem? (i := 166) rfl) rfl
theorem zm_2_167 : (Jvm.Cond.methodLink "FlexibleBoxes$Layout" (198 : Nat) ({ cls := "FlexibleBoxes$Layout", name := "justifyShift", desc := "(IIII)I" } : Jvm.MethodName)) ∈ zU := zin2 (List.mem_of_getElem? (i := 167) rfl) rfl
theorem zm_2_168 : (Jvm.Cond.static ({ cls := "FlexibleBoxes$Layout", name := "justifyShift", desc := "(IIII)I" } : Jvm.MethodName)) ∈ zU := zin2 (List.mem_of_getElem? (i := 168) rfl) rfl
theorem zm_2_169 : (Jvm.Cond.code ({ cls := "FlexibleBoxes$Layout", name := "justifyShift", desc := "(IIII)I" } : Jvm.MethodName) prog_4_method_17_code (4 : Nat) (Option.some Jvm.ClassFile.FieldType.int)) ∈ zU := zin2 (List.mem_of_getElem? (i := 169) rfl) rfl
theorem zm_2_170 : (Jvm.Cond.methodLink "FlexibleBoxes$Layout" (71 : Nat) ({ cls := "FlexibleBoxes$Layout", name := "placeRow", desc := "(LFlexibleBoxes$Box;)V" } : Jvm.MethodName)) ∈ zU := zin2 (List.mem_of_getElem? (i := 170) rfl) rfl
theorem zm_2_171 : (Jvm.Cond.static ({ cls := "FlexibleBoxes$Layout", name := "placeRow", desc := "(LFlexibleBoxes$Box;)V" } : Jvm.MethodName)) ∈ zU := zin2 (List.mem_of_getElem? (i := 171) rfl) rfl
theorem zm_2_172 : (Jvm.Cond.code ({ cls := "FlexibleBoxes$Layout", name := "placeRow", desc := "(LFlexibleBoxes$Box;)V" } : Jvm.MethodName) prog_4_method_13_code (6 : Nat) (Option.none : Option Jvm.ClassFile.FieldType)) ∈ zU := zin2 (List.mem_of_getElem? (i := 172) rfl) rfl
theorem zm_2_173 : (Jvm.Cond.methodLink "FlexibleBoxes$Layout" (188 : Nat) ({ cls := "FlexibleBoxes$Layout", name := "placeLine", desc := "(LFlexibleBoxes$Box;LFlexibleBoxes$Box;LFlexibleBoxes$Box;II)V" } : Jvm.MethodName)) ∈ zU := zin2 (List.mem_of_getElem? (i := 173) rfl) rfl
theorem zm_2_174 : (Jvm.Cond.static ({ cls := "FlexibleBoxes$Layout", name := "placeLine", desc := "(LFlexibleBoxes$Box;LFlexibleBoxes$Box;LFlexibleBoxes$Box;II)V" } : Jvm.MethodName)) ∈ zU := zin2 (List.mem_of_getElem? (i := 174) rfl) rfl
theorem zm_2_175 : (Jvm.Cond.code ({ cls := "FlexibleBoxes$Layout", name := "placeLine", desc := "(LFlexibleBoxes$Box;LFlexibleBoxes$Box;LFlexibleBoxes$Box;II)V" } : Jvm.MethodName) prog_4_method_15_code (11 : Nat) (Option.none : Option Jvm.ClassFile.FieldType)) ∈ zU := zin2 (List.mem_of_getElem? (i := 175) rfl) rfl
theorem zm_2_176 : (Jvm.Cond.methodLink "FlexibleBoxes$Layout" (202 : Nat) ({ cls := "FlexibleBoxes$Layout", name := "heightInLine", desc := "(LFlexibleBoxes$Box;I)I" } : Jvm.MethodName)) ∈ zU := zin2 (List.mem_of_getElem? (i := 176) rfl) rfl
theorem zm_2_177 : (Jvm.Cond.static ({ cls := "FlexibleBoxes$Layout", name := "heightInLine", desc := "(LFlexibleBoxes$Box;I)I" } : Jvm.MethodName)) ∈ zU := zin2 (List.mem_of_getElem? (i := 177) rfl) rfl
theorem zm_2_178 : (Jvm.Cond.code ({ cls := "FlexibleBoxes$Layout", name := "heightInLine", desc := "(LFlexibleBoxes$Box;I)I" } : Jvm.MethodName) prog_4_method_16_code (3 : Nat) (Option.some Jvm.ClassFile.FieldType.int)) ∈ zU := zin2 (List.mem_of_getElem? (i := 178) rfl) rfl
theorem zm_2_179 : (Jvm.Cond.methodLink "FlexibleBoxes" (162 : Nat) ({ cls := "FlexibleBoxes$Layout", name := "topmostAt", desc := "(II)I" } : Jvm.MethodName)) ∈ zU := zin2 (List.mem_of_getElem? (i := 179) rfl) rfl
theorem zm_2_180 : (Jvm.Cond.instanceMethod ({ cls := "FlexibleBoxes$Layout", name := "topmostAt", desc := "(II)I" } : Jvm.MethodName)) ∈ zU := zin2 (List.mem_of_getElem? (i := 180) rfl) rfl
theorem zm_2_181 : (Jvm.Cond.selects "FlexibleBoxes$Layout" ({ cls := "FlexibleBoxes$Layout", name := "topmostAt", desc := "(II)I" } : Jvm.MethodName) ({ cls := "FlexibleBoxes$Layout", name := "topmostAt", desc := "(II)I" } : Jvm.MethodName)) ∈ zU := zin2 (List.mem_of_getElem? (i := 181) rfl) rfl
theorem zm_2_182 : (Jvm.Cond.code ({ cls := "FlexibleBoxes$Layout", name := "topmostAt", desc := "(II)I" } : Jvm.MethodName) prog_4_method_21_code (6 : Nat) (Option.some Jvm.ClassFile.FieldType.int)) ∈ zU := zin2 (List.mem_of_getElem? (i := 182) rfl) rfl
theorem zm_2_183 : (Jvm.Cond.methodLink "FlexibleBoxes$Layout" (206 : Nat) ({ cls := "FlexibleBoxes$Box", name := "covers", desc := "(II)Z" } : Jvm.MethodName)) ∈ zU := zin2 (List.mem_of_getElem? (i := 183) rfl) rfl
theorem zm_2_184 : (Jvm.Cond.instanceMethod ({ cls := "FlexibleBoxes$Box", name := "covers", desc := "(II)Z" } : Jvm.MethodName)) ∈ zU := zin2 (List.mem_of_getElem? (i := 184) rfl) rfl
theorem zm_2_185 : (Jvm.Cond.selects "FlexibleBoxes$Box" ({ cls := "FlexibleBoxes$Box", name := "covers", desc := "(II)Z" } : Jvm.MethodName) ({ cls := "FlexibleBoxes$Box", name := "covers", desc := "(II)Z" } : Jvm.MethodName)) ∈ zU := zin2 (List.mem_of_getElem? (i := 185) rfl) rfl
theorem zm_2_186 : (Jvm.Cond.code ({ cls := "FlexibleBoxes$Box", name := "covers", desc := "(II)Z" } : Jvm.MethodName) prog_2_method_19_code (3 : Nat) (Option.some Jvm.ClassFile.FieldType.boolean)) ∈ zU := zin2 (List.mem_of_getElem? (i := 186) rfl) rfl
theorem zm_2_187 : (Jvm.Cond.methodLink "FlexibleBoxes$Layout" (213 : Nat) ({ cls := "FlexibleBoxes$Layout", name := "paintedAfter", desc := "(LFlexibleBoxes$Box;)LFlexibleBoxes$Box;" } : Jvm.MethodName)) ∈ zU := zin2 (List.mem_of_getElem? (i := 187) rfl) rfl
theorem zm_2_188 : (Jvm.Cond.static ({ cls := "FlexibleBoxes$Layout", name := "paintedAfter", desc := "(LFlexibleBoxes$Box;)LFlexibleBoxes$Box;" } : Jvm.MethodName)) ∈ zU := zin2 (List.mem_of_getElem? (i := 188) rfl) rfl
theorem zm_2_189 : (Jvm.Cond.code ({ cls := "FlexibleBoxes$Layout", name := "paintedAfter", desc := "(LFlexibleBoxes$Box;)LFlexibleBoxes$Box;" } : Jvm.MethodName) prog_4_method_22_code (2 : Nat) (Option.some (Jvm.ClassFile.FieldType.object "FlexibleBoxes$Box"))) ∈ zU := zin2 (List.mem_of_getElem? (i := 189) rfl) rfl
theorem zm_2_190 : (Jvm.Cond.methodLink "FlexibleBoxesLaw" (84 : Nat) ({ cls := "FlexibleBoxesLaw", name := "add", desc := "(LFlexibleBoxes;I[J)I" } : Jvm.MethodName)) ∈ zU := zin2 (List.mem_of_getElem? (i := 190) rfl) rfl
theorem zm_2_191 : (Jvm.Cond.static ({ cls := "FlexibleBoxesLaw", name := "add", desc := "(LFlexibleBoxes;I[J)I" } : Jvm.MethodName)) ∈ zU := zin2 (List.mem_of_getElem? (i := 191) rfl) rfl
theorem zm_2_192 : (Jvm.Cond.codeWith ({ cls := "FlexibleBoxesLaw", name := "add", desc := "(LFlexibleBoxes;I[J)I" } : Jvm.MethodName) method_3_code (4 : Nat) (Option.some Jvm.ClassFile.FieldType.int) [((0 : Nat), (9 : Nat), (12 : Nat), (13 : Nat)), ((0 : Nat), (9 : Nat), (15 : Nat), (15 : Nat))]) ∈ zU := zin2 (List.mem_of_getElem? (i := 192) rfl) rfl
theorem zm_2_193 : (Jvm.Cond.classLink "FlexibleBoxesLaw" (13 : Nat) "java/lang/IndexOutOfBoundsException") ∈ zU := zin2 (List.mem_of_getElem? (i := 193) rfl) rfl
theorem zm_2_194 : (Jvm.Cond.classLink "FlexibleBoxesLaw" (15 : Nat) "java/lang/IllegalStateException") ∈ zU := zin2 (List.mem_of_getElem? (i := 194) rfl) rfl
theorem zm_2_195 : (Jvm.Cond.methodLink "FlexibleBoxesLaw" (7 : Nat) ({ cls := "FlexibleBoxes", name := "add", desc := "(I)I" } : Jvm.MethodName)) ∈ zU := zin2 (List.mem_of_getElem? (i := 195) rfl) rfl
theorem zm_2_196 : (Jvm.Cond.instanceMethod ({ cls := "FlexibleBoxes", name := "add", desc := "(I)I" } : Jvm.MethodName)) ∈ zU := zin2 (List.mem_of_getElem? (i := 196) rfl) rfl
theorem zm_2_197 : (Jvm.Cond.selects "FlexibleBoxes" ({ cls := "FlexibleBoxes", name := "add", desc := "(I)I" } : Jvm.MethodName) ({ cls := "FlexibleBoxes", name := "add", desc := "(I)I" } : Jvm.MethodName)) ∈ zU := zin2 (List.mem_of_getElem? (i := 197) rfl) rfl
theorem zm_2_198 : (Jvm.Cond.code ({ cls := "FlexibleBoxes", name := "add", desc := "(I)I" } : Jvm.MethodName) prog_1_method_2_code (3 : Nat) (Option.some Jvm.ClassFile.FieldType.int)) ∈ zU := zin2 (List.mem_of_getElem? (i := 198) rfl) rfl
theorem zm_2_199 : (Jvm.Cond.methodLink "FlexibleBoxes" (31 : Nat) ({ cls := "FlexibleBoxes", name := "existing", desc := "(I)LFlexibleBoxes$Box;" } : Jvm.MethodName)) ∈ zU := zin2 (List.mem_of_getElem? (i := 199) rfl) rfl
theorem zm_2_201 : (Jvm.Cond.instanceMethod ({ cls := "FlexibleBoxes", name := "existing", desc := "(I)LFlexibleBoxes$Box;" } : Jvm.MethodName)) ∈ zU := zin2 (List.mem_of_getElem? (i := 201) rfl) rfl
theorem zm_2_202 : (Jvm.Cond.code ({ cls := "FlexibleBoxes", name := "existing", desc := "(I)LFlexibleBoxes$Box;" } : Jvm.MethodName) prog_1_method_24_code (3 : Nat) (Option.some (Jvm.ClassFile.FieldType.object "FlexibleBoxes$Box"))) ∈ zU := zin2 (List.mem_of_getElem? (i := 202) rfl) rfl
theorem zm_2_203 : (Jvm.Cond.methodLink "FlexibleBoxes" (183 : Nat) ({ cls := "FlexibleBoxes$Tree", name := "at", desc := "(I)LFlexibleBoxes$Box;" } : Jvm.MethodName)) ∈ zU := zin2 (List.mem_of_getElem? (i := 203) rfl) rfl
theorem zm_2_204 : (Jvm.Cond.classLink "FlexibleBoxes" (189 : Nat) "java/lang/IndexOutOfBoundsException") ∈ zU := zin2 (List.mem_of_getElem? (i := 204) rfl) rfl
theorem zm_2_205 : (Jvm.Cond.instantiable "java/lang/IndexOutOfBoundsException" (6 : Nat)) ∈ zU := zin2 (List.mem_of_getElem? (i := 205) rfl) rfl
theorem zm_2_213 : (Jvm.Cond.selects "java/lang/IndexOutOfBoundsException" ({ cls := "java/lang/Throwable", name := "fillInStackTrace", desc := "(I)Ljava/lang/Throwable;" } : Jvm.MethodName) ({ cls := "java/lang/Throwable", name := "fillInStackTrace", desc := "(I)Ljava/lang/Throwable;" } : Jvm.MethodName)) ∈ zU := zin2 (List.mem_of_getElem? (i := 213) rfl) rfl
theorem zm_2_214 : (Jvm.Cond.selects "java/lang/IndexOutOfBoundsException" ({ cls := "java/lang/Throwable", name := "fillInStackTrace", desc := "()Ljava/lang/Throwable;" } : Jvm.MethodName) ({ cls := "java/lang/Throwable", name := "fillInStackTrace", desc := "()Ljava/lang/Throwable;" } : Jvm.MethodName)) ∈ zU := zin2 (List.mem_of_getElem? (i := 214) rfl) rfl
theorem zm_2_225 : (Jvm.Cond.fieldLink "java/lang/Throwable" (198 : Nat) "java/lang/Throwable" "backtrace" "Ljava/lang/Object;") ∈ zU := zin2 (List.mem_of_getElem? (i := 225) rfl) rfl
theorem zm_2_227 : (Jvm.Cond.instanceMethod ({ cls := "java/lang/Throwable", name := "<init>", desc := "()V" } : Jvm.MethodName)) ∈ zU := zin2 (List.mem_of_getElem? (i := 227) rfl) rfl
theorem zm_2_228 : (Jvm.Cond.code ({ cls := "java/lang/Throwable", name := "<init>", desc := "()V" } : Jvm.MethodName) prog_17_method_1_code (1 : Nat) (Option.none : Option Jvm.ClassFile.FieldType)) ∈ zU := zin2 (List.mem_of_getElem? (i := 228) rfl) rfl
theorem zm_2_229 : (Jvm.Cond.methodLink "java/lang/Throwable" (1 : Nat) ({ cls := "java/lang/Object", name := "<init>", desc := "()V" } : Jvm.MethodName)) ∈ zU := zin2 (List.mem_of_getElem? (i := 229) rfl) rfl
theorem zm_2_230 : (Jvm.Cond.fieldLink "java/lang/Throwable" (13 : Nat) "java/lang/Throwable" "UNASSIGNED_STACK" "[Ljava/lang/StackTraceElement;") ∈ zU := zin2 (List.mem_of_getElem? (i := 230) rfl) rfl
theorem zm_2_232 : (Jvm.Cond.fieldLink "java/lang/Throwable" (20 : Nat) "java/lang/Throwable" "SUPPRESSED_SENTINEL" "Ljava/util/List;") ∈ zU := zin2 (List.mem_of_getElem? (i := 232) rfl) rfl
theorem zm_2_234 : (Jvm.Cond.methodLink "java/lang/Throwable" (27 : Nat) ({ cls := "java/lang/Throwable", name := "fillInStackTrace", desc := "()Ljava/lang/Throwable;" } : Jvm.MethodName)) ∈ zU := zin2 (List.mem_of_getElem? (i := 234) rfl) rfl
theorem zm_2_235 : (Jvm.Cond.instanceMethod ({ cls := "java/lang/Throwable", name := "fillInStackTrace", desc := "()Ljava/lang/Throwable;" } : Jvm.MethodName)) ∈ zU := zin2 (List.mem_of_getElem? (i := 235) rfl) rfl
theorem zm_2_237 : (Jvm.Cond.selects "java/lang/IllegalArgumentException" ({ cls := "java/lang/Throwable", name := "fillInStackTrace", desc := "()Ljava/lang/Throwable;" } : Jvm.MethodName) ({ cls := "java/lang/Throwable", name := "fillInStackTrace", desc := "()Ljava/lang/Throwable;" } : Jvm.MethodName)) ∈ zU := zin2 (List.mem_of_getElem? (i := 237) rfl) rfl
theorem zm_2_238 : (Jvm.Cond.selects "java/lang/IllegalStateException" ({ cls := "java/lang/Throwable", name := "fillInStackTrace", desc := "()Ljava/lang/Throwable;" } : Jvm.MethodName) ({ cls := "java/lang/Throwable", name := "fillInStackTrace", desc := "()Ljava/lang/Throwable;" } : Jvm.MethodName)) ∈ zU := zin2 (List.mem_of_getElem? (i := 238) rfl) rfl
theorem zm_3_0 : (Jvm.Cond.methodLink "java/lang/Throwable" (202 : Nat) ({ cls := "java/lang/Throwable", name := "fillInStackTrace", desc := "(I)Ljava/lang/Throwable;" } : Jvm.MethodName)) ∈ zU := zin3 (List.mem_of_getElem? (i := 0) rfl) rfl
theorem zm_3_2 : (Jvm.Cond.instanceMethod ({ cls := "java/lang/Throwable", name := "fillInStackTrace", desc := "(I)Ljava/lang/Throwable;" } : Jvm.MethodName)) ∈ zU := zin3 (List.mem_of_getElem? (i := 2) rfl) rfl
theorem zm_3_3 : (Jvm.Cond.instantiable "java/lang/Throwable" (6 : Nat)) ∈ zU := zin3 (List.mem_of_getElem? (i := 3) rfl) rfl
theorem zm_3_6 : (Jvm.Cond.methodLink "FlexibleBoxes" (193 : Nat) ({ cls := "java/lang/IndexOutOfBoundsException", name := "<init>", desc := "(Ljava/lang/String;)V" } : Jvm.MethodName)) ∈ zU := zin3 (List.mem_of_getElem? (i := 6) rfl) rfl
theorem zm_3_7 : (Jvm.Cond.instanceMethod ({ cls := "java/lang/IndexOutOfBoundsException", name := "<init>", desc := "(Ljava/lang/String;)V" } : Jvm.MethodName)) ∈ zU := zin3 (List.mem_of_getElem? (i := 7) rfl) rfl
theorem zm_3_8 : (Jvm.Cond.code ({ cls := "java/lang/IndexOutOfBoundsException", name := "<init>", desc := "(Ljava/lang/String;)V" } : Jvm.MethodName) prog_12_method_2_code (2 : Nat) (Option.none : Option Jvm.ClassFile.FieldType)) ∈ zU := zin3 (List.mem_of_getElem? (i := 8) rfl) rfl
theorem zm_3_9 : (Jvm.Cond.methodLink "java/lang/IndexOutOfBoundsException" (7 : Nat) ({ cls := "java/lang/RuntimeException", name := "<init>", desc := "(Ljava/lang/String;)V" } : Jvm.MethodName)) ∈ zU := zin3 (List.mem_of_getElem? (i := 9) rfl) rfl
theorem zm_3_10 : (Jvm.Cond.instanceMethod ({ cls := "java/lang/RuntimeException", name := "<init>", desc := "(Ljava/lang/String;)V" } : Jvm.MethodName)) ∈ zU := zin3 (List.mem_of_getElem? (i := 10) rfl) rfl
theorem zm_3_11 : (Jvm.Cond.code ({ cls := "java/lang/RuntimeException", name := "<init>", desc := "(Ljava/lang/String;)V" } : Jvm.MethodName) prog_14_method_2_code (2 : Nat) (Option.none : Option Jvm.ClassFile.FieldType)) ∈ zU := zin3 (List.mem_of_getElem? (i := 11) rfl) rfl
theorem zm_3_12 : (Jvm.Cond.methodLink "java/lang/RuntimeException" (7 : Nat) ({ cls := "java/lang/Exception", name := "<init>", desc := "(Ljava/lang/String;)V" } : Jvm.MethodName)) ∈ zU := zin3 (List.mem_of_getElem? (i := 12) rfl) rfl
theorem zm_3_13 : (Jvm.Cond.instanceMethod ({ cls := "java/lang/Exception", name := "<init>", desc := "(Ljava/lang/String;)V" } : Jvm.MethodName)) ∈ zU := zin3 (List.mem_of_getElem? (i := 13) rfl) rfl
theorem zm_3_14 : (Jvm.Cond.code ({ cls := "java/lang/Exception", name := "<init>", desc := "(Ljava/lang/String;)V" } : Jvm.MethodName) prog_9_method_2_code (2 : Nat) (Option.none : Option Jvm.ClassFile.FieldType)) ∈ zU := zin3 (List.mem_of_getElem? (i := 14) rfl) rfl
theorem zm_3_15 : (Jvm.Cond.methodLink "java/lang/Exception" (7 : Nat) ({ cls := "java/lang/Throwable", name := "<init>", desc := "(Ljava/lang/String;)V" } : Jvm.MethodName)) ∈ zU := zin3 (List.mem_of_getElem? (i := 15) rfl) rfl
theorem zm_3_16 : (Jvm.Cond.instanceMethod ({ cls := "java/lang/Throwable", name := "<init>", desc := "(Ljava/lang/String;)V" } : Jvm.MethodName)) ∈ zU := zin3 (List.mem_of_getElem? (i := 16) rfl) rfl
theorem zm_3_17 : (Jvm.Cond.code ({ cls := "java/lang/Throwable", name := "<init>", desc := "(Ljava/lang/String;)V" } : Jvm.MethodName) prog_17_method_2_code (2 : Nat) (Option.none : Option Jvm.ClassFile.FieldType)) ∈ zU := zin3 (List.mem_of_getElem? (i := 17) rfl) rfl
theorem zm_3_18 : (Jvm.Cond.fieldLink "java/lang/Throwable" (198 : Nat) "java/lang/Throwable" "backtrace" "Ljava/lang/Object;") ∈ zU := zin3 (List.mem_of_getElem? (i := 18) rfl) rfl
theorem zm_3_19 : (Jvm.Cond.fieldLink "java/lang/Throwable" (31 : Nat) "java/lang/Throwable" "detailMessage" "Ljava/lang/String;") ∈ zU := zin3 (List.mem_of_getElem? (i := 19) rfl) rfl
theorem zm_3_20 : (Jvm.Cond.fieldLink "java/lang/Throwable" (7 : Nat) "java/lang/Throwable" "cause" "Ljava/lang/Throwable;") ∈ zU := zin3 (List.mem_of_getElem? (i := 20) rfl) rfl
theorem zm_3_21 : (Jvm.Cond.fieldLink "java/lang/Throwable" (17 : Nat) "java/lang/Throwable" "stackTrace" "[Ljava/lang/StackTraceElement;") ∈ zU := zin3 (List.mem_of_getElem? (i := 21) rfl) rfl
theorem zm_3_22 : (Jvm.Cond.fieldLink "java/lang/Throwable" (24 : Nat) "java/lang/Throwable" "suppressedExceptions" "Ljava/util/List;") ∈ zU := zin3 (List.mem_of_getElem? (i := 22) rfl) rfl
theorem zm_3_31 : (Jvm.Cond.arrayClass Jvm.ClassFile.FieldType.byte) ∈ zU := zin3 (List.mem_of_getElem? (i := 31) rfl) rfl
theorem zm_3_32 : (Jvm.Cond.methodLink "FlexibleBoxes" (35 : Nat) ({ cls := "FlexibleBoxes$Tree", name := "isFull", desc := "()Z" } : Jvm.MethodName)) ∈ zU := zin3 (List.mem_of_getElem? (i := 32) rfl) rfl
theorem zm_3_33 : (Jvm.Cond.instanceMethod ({ cls := "FlexibleBoxes$Tree", name := "isFull", desc := "()Z" } : Jvm.MethodName)) ∈ zU := zin3 (List.mem_of_getElem? (i := 33) rfl) rfl
theorem zm_3_34 : (Jvm.Cond.selects "FlexibleBoxes$Tree" ({ cls := "FlexibleBoxes$Tree", name := "isFull", desc := "()Z" } : Jvm.MethodName) ({ cls := "FlexibleBoxes$Tree", name := "isFull", desc := "()Z" } : Jvm.MethodName)) ∈ zU := zin3 (List.mem_of_getElem? (i := 34) rfl) rfl
theorem zm_3_35 : (Jvm.Cond.code ({ cls := "FlexibleBoxes$Tree", name := "isFull", desc := "()Z" } : Jvm.MethodName) prog_6_method_4_code (1 : Nat) (Option.some Jvm.ClassFile.FieldType.boolean)) ∈ zU := zin3 (List.mem_of_getElem? (i := 35) rfl) rfl
theorem zm_3_36 : (Jvm.Cond.classLink "FlexibleBoxes" (39 : Nat) "java/lang/IllegalStateException") ∈ zU := zin3 (List.mem_of_getElem? (i := 36) rfl) rfl
theorem zm_3_37 : (Jvm.Cond.instantiable "java/lang/IllegalStateException" (6 : Nat)) ∈ zU := zin3 (List.mem_of_getElem? (i := 37) rfl) rfl
theorem zm_3_39 : (Jvm.Cond.selects "java/lang/IllegalStateException" ({ cls := "java/lang/Throwable", name := "fillInStackTrace", desc := "(I)Ljava/lang/Throwable;" } : Jvm.MethodName) ({ cls := "java/lang/Throwable", name := "fillInStackTrace", desc := "(I)Ljava/lang/Throwable;" } : Jvm.MethodName)) ∈ zU := zin3 (List.mem_of_getElem? (i := 39) rfl) rfl
theorem zm_3_46 : (Jvm.Cond.methodLink "FlexibleBoxes" (43 : Nat) ({ cls := "java/lang/IllegalStateException", name := "<init>", desc := "(Ljava/lang/String;)V" } : Jvm.MethodName)) ∈ zU := zin3 (List.mem_of_getElem? (i := 46) rfl) rfl
theorem zm_3_47 : (Jvm.Cond.instanceMethod ({ cls := "java/lang/IllegalStateException", name := "<init>", desc := "(Ljava/lang/String;)V" } : Jvm.MethodName)) ∈ zU := zin3 (List.mem_of_getElem? (i := 47) rfl) rfl
theorem zm_3_48 : (Jvm.Cond.code ({ cls := "java/lang/IllegalStateException", name := "<init>", desc := "(Ljava/lang/String;)V" } : Jvm.MethodName) prog_11_method_2_code (2 : Nat) (Option.none : Option Jvm.ClassFile.FieldType)) ∈ zU := zin3 (List.mem_of_getElem? (i := 48) rfl) rfl
theorem zm_3_49 : (Jvm.Cond.methodLink "java/lang/IllegalStateException" (7 : Nat) ({ cls := "java/lang/RuntimeException", name := "<init>", desc := "(Ljava/lang/String;)V" } : Jvm.MethodName)) ∈ zU := zin3 (List.mem_of_getElem? (i := 49) rfl) rfl
theorem zm_3_52 : (Jvm.Cond.methodLink "FlexibleBoxes" (50 : Nat) ({ cls := "FlexibleBoxes$Tree", name := "append", desc := "(LFlexibleBoxes$Box;)I" } : Jvm.MethodName)) ∈ zU := zin3 (List.mem_of_getElem? (i := 52) rfl) rfl
theorem zm_3_53 : (Jvm.Cond.instanceMethod ({ cls := "FlexibleBoxes$Tree", name := "append", desc := "(LFlexibleBoxes$Box;)I" } : Jvm.MethodName)) ∈ zU := zin3 (List.mem_of_getElem? (i := 53) rfl) rfl
theorem zm_3_54 : (Jvm.Cond.selects "FlexibleBoxes$Tree" ({ cls := "FlexibleBoxes$Tree", name := "append", desc := "(LFlexibleBoxes$Box;)I" } : Jvm.MethodName) ({ cls := "FlexibleBoxes$Tree", name := "append", desc := "(LFlexibleBoxes$Box;)I" } : Jvm.MethodName)) ∈ zU := zin3 (List.mem_of_getElem? (i := 54) rfl) rfl
theorem zm_3_55 : (Jvm.Cond.code ({ cls := "FlexibleBoxes$Tree", name := "append", desc := "(LFlexibleBoxes$Box;)I" } : Jvm.MethodName) prog_6_method_5_code (3 : Nat) (Option.some Jvm.ClassFile.FieldType.int)) ∈ zU := zin3 (List.mem_of_getElem? (i := 55) rfl) rfl
theorem zm_3_56 : (Jvm.Cond.methodLink "FlexibleBoxesLaw" (94 : Nat) ({ cls := "FlexibleBoxesLaw", name := "remove", desc := "(LFlexibleBoxes;I[J)I" } : Jvm.MethodName)) ∈ zU := zin3 (List.mem_of_getElem? (i := 56) rfl) rfl
theorem zm_3_57 : (Jvm.Cond.static ({ cls := "FlexibleBoxesLaw", name := "remove", desc := "(LFlexibleBoxes;I[J)I" } : Jvm.MethodName)) ∈ zU := zin3 (List.mem_of_getElem? (i := 57) rfl) rfl
theorem zm_3_58 : (Jvm.Cond.codeWith ({ cls := "FlexibleBoxesLaw", name := "remove", desc := "(LFlexibleBoxes;I[J)I" } : Jvm.MethodName) method_4_code (4 : Nat) (Option.some Jvm.ClassFile.FieldType.int) [((0 : Nat), (9 : Nat), (12 : Nat), (13 : Nat)), ((0 : Nat), (9 : Nat), (15 : Nat), (20 : Nat))]) ∈ zU := zin3 (List.mem_of_getElem? (i := 58) rfl) rfl
theorem zm_3_59 : (Jvm.Cond.classLink "FlexibleBoxesLaw" (20 : Nat) "java/lang/IllegalArgumentException") ∈ zU := zin3 (List.mem_of_getElem? (i := 59) rfl) rfl
theorem zm_3_60 : (Jvm.Cond.methodLink "FlexibleBoxesLaw" (17 : Nat) ({ cls := "FlexibleBoxes", name := "remove", desc := "(I)I" } : Jvm.MethodName)) ∈ zU := zin3 (List.mem_of_getElem? (i := 60) rfl) rfl
theorem zm_3_61 : (Jvm.Cond.instanceMethod ({ cls := "FlexibleBoxes", name := "remove", desc := "(I)I" } : Jvm.MethodName)) ∈ zU := zin3 (List.mem_of_getElem? (i := 61) rfl) rfl
theorem zm_3_62 : (Jvm.Cond.selects "FlexibleBoxes" ({ cls := "FlexibleBoxes", name := "remove", desc := "(I)I" } : Jvm.MethodName) ({ cls := "FlexibleBoxes", name := "remove", desc := "(I)I" } : Jvm.MethodName)) ∈ zU := zin3 (List.mem_of_getElem? (i := 62) rfl) rfl
theorem zm_3_63 : (Jvm.Cond.code ({ cls := "FlexibleBoxes", name := "remove", desc := "(I)I" } : Jvm.MethodName) prog_1_method_3_code (3 : Nat) (Option.some Jvm.ClassFile.FieldType.int)) ∈ zU := zin3 (List.mem_of_getElem? (i := 63) rfl) rfl
theorem zm_3_64 : (Jvm.Cond.methodLink "FlexibleBoxes" (54 : Nat) ({ cls := "FlexibleBoxes$Box", name := "isRoot", desc := "()Z" } : Jvm.MethodName)) ∈ zU := zin3 (List.mem_of_getElem? (i := 64) rfl) rfl
theorem zm_3_65 : (Jvm.Cond.classLink "FlexibleBoxes" (59 : Nat) "java/lang/IllegalArgumentException") ∈ zU := zin3 (List.mem_of_getElem? (i := 65) rfl) rfl
theorem zm_3_66 : (Jvm.Cond.instantiable "java/lang/IllegalArgumentException" (6 : Nat)) ∈ zU := zin3 (List.mem_of_getElem? (i := 66) rfl) rfl
theorem zm_3_68 : (Jvm.Cond.selects "java/lang/IllegalArgumentException" ({ cls := "java/lang/Throwable", name := "fillInStackTrace", desc := "(I)Ljava/lang/Throwable;" } : Jvm.MethodName) ({ cls := "java/lang/Throwable", name := "fillInStackTrace", desc := "(I)Ljava/lang/Throwable;" } : Jvm.MethodName)) ∈ zU := zin3 (List.mem_of_getElem? (i := 68) rfl) rfl
theorem zm_3_75 : (Jvm.Cond.methodLink "FlexibleBoxes" (63 : Nat) ({ cls := "java/lang/IllegalArgumentException", name := "<init>", desc := "(Ljava/lang/String;)V" } : Jvm.MethodName)) ∈ zU := zin3 (List.mem_of_getElem? (i := 75) rfl) rfl
theorem zm_3_76 : (Jvm.Cond.instanceMethod ({ cls := "java/lang/IllegalArgumentException", name := "<init>", desc := "(Ljava/lang/String;)V" } : Jvm.MethodName)) ∈ zU := zin3 (List.mem_of_getElem? (i := 76) rfl) rfl
theorem zm_3_77 : (Jvm.Cond.code ({ cls := "java/lang/IllegalArgumentException", name := "<init>", desc := "(Ljava/lang/String;)V" } : Jvm.MethodName) prog_10_method_2_code (2 : Nat) (Option.none : Option Jvm.ClassFile.FieldType)) ∈ zU := zin3 (List.mem_of_getElem? (i := 77) rfl) rfl
theorem zm_3_78 : (Jvm.Cond.methodLink "java/lang/IllegalArgumentException" (7 : Nat) ({ cls := "java/lang/RuntimeException", name := "<init>", desc := "(Ljava/lang/String;)V" } : Jvm.MethodName)) ∈ zU := zin3 (List.mem_of_getElem? (i := 78) rfl) rfl
theorem zm_3_81 : (Jvm.Cond.methodLink "FlexibleBoxes" (64 : Nat) ({ cls := "FlexibleBoxes$Tree", name := "cut", desc := "(LFlexibleBoxes$Box;)I" } : Jvm.MethodName)) ∈ zU := zin3 (List.mem_of_getElem? (i := 81) rfl) rfl
theorem zm_3_82 : (Jvm.Cond.instanceMethod ({ cls := "FlexibleBoxes$Tree", name := "cut", desc := "(LFlexibleBoxes$Box;)I" } : Jvm.MethodName)) ∈ zU := zin3 (List.mem_of_getElem? (i := 82) rfl) rfl
theorem zm_3_83 : (Jvm.Cond.selects "FlexibleBoxes$Tree" ({ cls := "FlexibleBoxes$Tree", name := "cut", desc := "(LFlexibleBoxes$Box;)I" } : Jvm.MethodName) ({ cls := "FlexibleBoxes$Tree", name := "cut", desc := "(LFlexibleBoxes$Box;)I" } : Jvm.MethodName)) ∈ zU := zin3 (List.mem_of_getElem? (i := 83) rfl) rfl
theorem zm_3_84 : (Jvm.Cond.code ({ cls := "FlexibleBoxes$Tree", name := "cut", desc := "(LFlexibleBoxes$Box;)I" } : Jvm.MethodName) prog_6_method_6_code (5 : Nat) (Option.some Jvm.ClassFile.FieldType.int)) ∈ zU := zin3 (List.mem_of_getElem? (i := 84) rfl) rfl
theorem zm_3_85 : (Jvm.Cond.methodLink "FlexibleBoxesLaw" (101 : Nat) ({ cls := "FlexibleBoxesLaw", name := "parent", desc := "(LFlexibleBoxes;I[J)I" } : Jvm.MethodName)) ∈ zU := zin3 (List.mem_of_getElem? (i := 85) rfl) rfl
theorem zm_3_86 : (Jvm.Cond.static ({ cls := "FlexibleBoxesLaw", name := "parent", desc := "(LFlexibleBoxes;I[J)I" } : Jvm.MethodName)) ∈ zU := zin3 (List.mem_of_getElem? (i := 86) rfl) rfl
theorem zm_3_87 : (Jvm.Cond.codeWith ({ cls := "FlexibleBoxesLaw", name := "parent", desc := "(LFlexibleBoxes;I[J)I" } : Jvm.MethodName) method_5_code (4 : Nat) (Option.some Jvm.ClassFile.FieldType.int) [((0 : Nat), (9 : Nat), (12 : Nat), (13 : Nat))]) ∈ zU := zin3 (List.mem_of_getElem? (i := 87) rfl) rfl
theorem zm_3_88 : (Jvm.Cond.methodLink "FlexibleBoxesLaw" (22 : Nat) ({ cls := "FlexibleBoxes", name := "parent", desc := "(I)I" } : Jvm.MethodName)) ∈ zU := zin3 (List.mem_of_getElem? (i := 88) rfl) rfl
theorem zm_3_89 : (Jvm.Cond.instanceMethod ({ cls := "FlexibleBoxes", name := "parent", desc := "(I)I" } : Jvm.MethodName)) ∈ zU := zin3 (List.mem_of_getElem? (i := 89) rfl) rfl
theorem zm_3_90 : (Jvm.Cond.selects "FlexibleBoxes" ({ cls := "FlexibleBoxes", name := "parent", desc := "(I)I" } : Jvm.MethodName) ({ cls := "FlexibleBoxes", name := "parent", desc := "(I)I" } : Jvm.MethodName)) ∈ zU := zin3 (List.mem_of_getElem? (i := 90) rfl) rfl
theorem zm_3_91 : (Jvm.Cond.code ({ cls := "FlexibleBoxes", name := "parent", desc := "(I)I" } : Jvm.MethodName) prog_1_method_5_code (2 : Nat) (Option.some Jvm.ClassFile.FieldType.int)) ∈ zU := zin3 (List.mem_of_getElem? (i := 91) rfl) rfl
theorem zm_3_92 : (Jvm.Cond.methodLink "FlexibleBoxes" (71 : Nat) ({ cls := "FlexibleBoxes$Box", name := "parentNumber", desc := "()I" } : Jvm.MethodName)) ∈ zU := zin3 (List.mem_of_getElem? (i := 92) rfl) rfl
theorem zm_3_93 : (Jvm.Cond.instanceMethod ({ cls := "FlexibleBoxes$Box", name := "parentNumber", desc := "()I" } : Jvm.MethodName)) ∈ zU := zin3 (List.mem_of_getElem? (i := 93) rfl) rfl
theorem zm_3_94 : (Jvm.Cond.selects "FlexibleBoxes$Box" ({ cls := "FlexibleBoxes$Box", name := "parentNumber", desc := "()I" } : Jvm.MethodName) ({ cls := "FlexibleBoxes$Box", name := "parentNumber", desc := "()I" } : Jvm.MethodName)) ∈ zU := zin3 (List.mem_of_getElem? (i := 94) rfl) rfl
theorem zm_3_95 : (Jvm.Cond.code ({ cls := "FlexibleBoxes$Box", name := "parentNumber", desc := "()I" } : Jvm.MethodName) prog_2_method_6_code (1 : Nat) (Option.some Jvm.ClassFile.FieldType.int)) ∈ zU := zin3 (List.mem_of_getElem? (i := 95) rfl) rfl
theorem zm_3_96 : (Jvm.Cond.methodLink "FlexibleBoxesLaw" (104 : Nat) ({ cls := "FlexibleBoxesLaw", name := "child", desc := "(LFlexibleBoxes;II[J)I" } : Jvm.MethodName)) ∈ zU := zin3 (List.mem_of_getElem? (i := 96) rfl) rfl
theorem zm_3_97 : (Jvm.Cond.static ({ cls := "FlexibleBoxesLaw", name := "child", desc := "(LFlexibleBoxes;II[J)I" } : Jvm.MethodName)) ∈ zU := zin3 (List.mem_of_getElem? (i := 97) rfl) rfl
theorem zm_3_98 : (Jvm.Cond.codeWith ({ cls := "FlexibleBoxesLaw", name := "child", desc := "(LFlexibleBoxes;II[J)I" } : Jvm.MethodName) method_6_code (5 : Nat) (Option.some Jvm.ClassFile.FieldType.int) [((0 : Nat), (10 : Nat), (13 : Nat), (13 : Nat))]) ∈ zU := zin3 (List.mem_of_getElem? (i := 98) rfl) rfl
theorem zm_3_99 : (Jvm.Cond.methodLink "FlexibleBoxesLaw" (25 : Nat) ({ cls := "FlexibleBoxes", name := "child", desc := "(II)I" } : Jvm.MethodName)) ∈ zU := zin3 (List.mem_of_getElem? (i := 99) rfl) rfl
theorem zm_3_100 : (Jvm.Cond.instanceMethod ({ cls := "FlexibleBoxes", name := "child", desc := "(II)I" } : Jvm.MethodName)) ∈ zU := zin3 (List.mem_of_getElem? (i := 100) rfl) rfl
theorem zm_3_101 : (Jvm.Cond.selects "FlexibleBoxes" ({ cls := "FlexibleBoxes", name := "child", desc := "(II)I" } : Jvm.MethodName) ({ cls := "FlexibleBoxes", name := "child", desc := "(II)I" } : Jvm.MethodName)) ∈ zU := zin3 (List.mem_of_getElem? (i := 101) rfl) rfl
theorem zm_3_102 : (Jvm.Cond.code ({ cls := "FlexibleBoxes", name := "child", desc := "(II)I" } : Jvm.MethodName) prog_1_method_6_code (6 : Nat) (Option.some Jvm.ClassFile.FieldType.int)) ∈ zU := zin3 (List.mem_of_getElem? (i := 102) rfl) rfl
theorem zm_3_103 : (Jvm.Cond.methodLink "FlexibleBoxesLaw" (108 : Nat) ({ cls := "FlexibleBoxesLaw", name := "set", desc := "(LFlexibleBoxes;III[J)I" } : Jvm.MethodName)) ∈ zU := zin3 (List.mem_of_getElem? (i := 103) rfl) rfl
theorem zm_3_104 : (Jvm.Cond.static ({ cls := "FlexibleBoxesLaw", name := "set", desc := "(LFlexibleBoxes;III[J)I" } : Jvm.MethodName)) ∈ zU := zin3 (List.mem_of_getElem? (i := 104) rfl) rfl
theorem zm_3_105 : (Jvm.Cond.codeWith ({ cls := "FlexibleBoxesLaw", name := "set", desc := "(LFlexibleBoxes;III[J)I" } : Jvm.MethodName) method_7_code (6 : Nat) (Option.some Jvm.ClassFile.FieldType.int) [((0 : Nat), (12 : Nat), (15 : Nat), (13 : Nat)), ((0 : Nat), (12 : Nat), (19 : Nat), (20 : Nat))]) ∈ zU := zin3 (List.mem_of_getElem? (i := 105) rfl) rfl
theorem zm_3_106 : (Jvm.Cond.methodLink "FlexibleBoxesLaw" (29 : Nat) ({ cls := "FlexibleBoxes", name := "set", desc := "(III)I" } : Jvm.MethodName)) ∈ zU := zin3 (List.mem_of_getElem? (i := 106) rfl) rfl
theorem zm_3_107 : (Jvm.Cond.instanceMethod ({ cls := "FlexibleBoxes", name := "set", desc := "(III)I" } : Jvm.MethodName)) ∈ zU := zin3 (List.mem_of_getElem? (i := 107) rfl) rfl
theorem zm_3_108 : (Jvm.Cond.selects "FlexibleBoxes" ({ cls := "FlexibleBoxes", name := "set", desc := "(III)I" } : Jvm.MethodName) ({ cls := "FlexibleBoxes", name := "set", desc := "(III)I" } : Jvm.MethodName)) ∈ zU := zin3 (List.mem_of_getElem? (i := 108) rfl) rfl
theorem zm_3_109 : (Jvm.Cond.code ({ cls := "FlexibleBoxes", name := "set", desc := "(III)I" } : Jvm.MethodName) prog_1_method_7_code (5 : Nat) (Option.some Jvm.ClassFile.FieldType.int)) ∈ zU := zin3 (List.mem_of_getElem? (i := 109) rfl) rfl
theorem zm_3_110 : (Jvm.Cond.methodLink "FlexibleBoxes" (91 : Nat) ({ cls := "FlexibleBoxes", name := "isProperty", desc := "(I)Z" } : Jvm.MethodName)) ∈ zU := zin3 (List.mem_of_getElem? (i := 110) rfl) rfl
theorem zm_3_111 : (Jvm.Cond.static ({ cls := "FlexibleBoxes", name := "isProperty", desc := "(I)Z" } : Jvm.MethodName)) ∈ zU := zin3 (List.mem_of_getElem? (i := 111) rfl) rfl
theorem zm_3_112 : (Jvm.Cond.code ({ cls := "FlexibleBoxes", name := "isProperty", desc := "(I)Z" } : Jvm.MethodName) prog_1_method_26_code (1 : Nat) (Option.some Jvm.ClassFile.FieldType.boolean)) ∈ zU := zin3 (List.mem_of_getElem? (i := 112) rfl) rfl
theorem zm_3_114 : (Jvm.Cond.fieldLink "FlexibleBoxes" (97 : Nat) "FlexibleBoxes" "LEAST" "[I") ∈ zU := zin3 (List.mem_of_getElem? (i := 114) rfl) rfl
theorem zm_3_116 : (Jvm.Cond.fieldLink "FlexibleBoxes" (101 : Nat) "FlexibleBoxes" "GREATEST" "[I") ∈ zU := zin3 (List.mem_of_getElem? (i := 116) rfl) rfl
theorem zm_3_119 : (Jvm.Cond.methodLink "FlexibleBoxes" (106 : Nat) ({ cls := "FlexibleBoxes$Box", name := "change", desc := "(II)I" } : Jvm.MethodName)) ∈ zU := zin3 (List.mem_of_getElem? (i := 119) rfl) rfl
theorem zm_3_120 : (Jvm.Cond.instanceMethod ({ cls := "FlexibleBoxes$Box", name := "change", desc := "(II)I" } : Jvm.MethodName)) ∈ zU := zin3 (List.mem_of_getElem? (i := 120) rfl) rfl
theorem zm_3_121 : (Jvm.Cond.selects "FlexibleBoxes$Box" ({ cls := "FlexibleBoxes$Box", name := "change", desc := "(II)I" } : Jvm.MethodName) ({ cls := "FlexibleBoxes$Box", name := "change", desc := "(II)I" } : Jvm.MethodName)) ∈ zU := zin3 (List.mem_of_getElem? (i := 121) rfl) rfl
theorem zm_3_122 : (Jvm.Cond.code ({ cls := "FlexibleBoxes$Box", name := "change", desc := "(II)I" } : Jvm.MethodName) prog_2_method_4_code (4 : Nat) (Option.some Jvm.ClassFile.FieldType.int)) ∈ zU := zin3 (List.mem_of_getElem? (i := 122) rfl) rfl
theorem zm_3_124 : (Jvm.Cond.methodLink "FlexibleBoxesLaw" (112 : Nat) ({ cls := "FlexibleBoxesLaw", name := "get", desc := "(LFlexibleBoxes;II[J)I" } : Jvm.MethodName)) ∈ zU := zin3 (List.mem_of_getElem? (i := 124) rfl) rfl
theorem zm_3_125 : (Jvm.Cond.static ({ cls := "FlexibleBoxesLaw", name := "get", desc := "(LFlexibleBoxes;II[J)I" } : Jvm.MethodName)) ∈ zU := zin3 (List.mem_of_getElem? (i := 125) rfl) rfl
theorem zm_3_126 : (Jvm.Cond.codeWith ({ cls := "FlexibleBoxesLaw", name := "get", desc := "(LFlexibleBoxes;II[J)I" } : Jvm.MethodName) method_8_code (5 : Nat) (Option.some Jvm.ClassFile.FieldType.int) [((0 : Nat), (10 : Nat), (13 : Nat), (13 : Nat)), ((0 : Nat), (10 : Nat), (17 : Nat), (20 : Nat))]) ∈ zU := zin3 (List.mem_of_getElem? (i := 126) rfl) rfl
theorem zm_3_127 : (Jvm.Cond.methodLink "FlexibleBoxesLaw" (33 : Nat) ({ cls := "FlexibleBoxes", name := "get", desc := "(II)I" } : Jvm.MethodName)) ∈ zU := zin3 (List.mem_of_getElem? (i := 127) rfl) rfl
theorem zm_3_128 : (Jvm.Cond.instanceMethod ({ cls := "FlexibleBoxes", name := "get", desc := "(II)I" } : Jvm.MethodName)) ∈ zU := zin3 (List.mem_of_getElem? (i := 128) rfl) rfl
theorem zm_3_129 : (Jvm.Cond.selects "FlexibleBoxes" ({ cls := "FlexibleBoxes", name := "get", desc := "(II)I" } : Jvm.MethodName) ({ cls := "FlexibleBoxes", name := "get", desc := "(II)I" } : Jvm.MethodName)) ∈ zU := zin3 (List.mem_of_getElem? (i := 129) rfl) rfl
theorem zm_3_130 : (Jvm.Cond.code ({ cls := "FlexibleBoxes", name := "get", desc := "(II)I" } : Jvm.MethodName) prog_1_method_8_code (4 : Nat) (Option.some Jvm.ClassFile.FieldType.int)) ∈ zU := zin3 (List.mem_of_getElem? (i := 130) rfl) rfl
theorem zm_3_131 : (Jvm.Cond.methodLink "FlexibleBoxes" (110 : Nat) ({ cls := "FlexibleBoxes$Box", name := "of", desc := "(I)I" } : Jvm.MethodName)) ∈ zU := zin3 (List.mem_of_getElem? (i := 131) rfl) rfl
theorem zm_3_132 : (Jvm.Cond.methodLink "FlexibleBoxesLaw" (115 : Nat) ({ cls := "FlexibleBoxesLaw", name := "copyStyle", desc := "(LFlexibleBoxes;II[J)I" } : Jvm.MethodName)) ∈ zU := zin3 (List.mem_of_getElem? (i := 132) rfl) rfl
theorem zm_3_133 : (Jvm.Cond.static ({ cls := "FlexibleBoxesLaw", name := "copyStyle", desc := "(LFlexibleBoxes;II[J)I" } : Jvm.MethodName)) ∈ zU := zin3 (List.mem_of_getElem? (i := 133) rfl) rfl
theorem zm_3_134 : (Jvm.Cond.codeWith ({ cls := "FlexibleBoxesLaw", name := "copyStyle", desc := "(LFlexibleBoxes;II[J)I" } : Jvm.MethodName) method_9_code (5 : Nat) (Option.some Jvm.ClassFile.FieldType.int) [((0 : Nat), (10 : Nat), (13 : Nat), (13 : Nat))]) ∈ zU := zin3 (List.mem_of_getElem? (i := 134) rfl) rfl
theorem zm_3_135 : (Jvm.Cond.methodLink "FlexibleBoxesLaw" (36 : Nat) ({ cls := "FlexibleBoxes", name := "copyStyle", desc := "(II)I" } : Jvm.MethodName)) ∈ zU := zin3 (List.mem_of_getElem? (i := 135) rfl) rfl
theorem zm_3_136 : (Jvm.Cond.instanceMethod ({ cls := "FlexibleBoxes", name := "copyStyle", desc := "(II)I" } : Jvm.MethodName)) ∈ zU := zin3 (List.mem_of_getElem? (i := 136) rfl) rfl
theorem zm_3_137 : (Jvm.Cond.selects "FlexibleBoxes" ({ cls := "FlexibleBoxes", name := "copyStyle", desc := "(II)I" } : Jvm.MethodName) ({ cls := "FlexibleBoxes", name := "copyStyle", desc := "(II)I" } : Jvm.MethodName)) ∈ zU := zin3 (List.mem_of_getElem? (i := 137) rfl) rfl
theorem zm_3_138 : (Jvm.Cond.code ({ cls := "FlexibleBoxes", name := "copyStyle", desc := "(II)I" } : Jvm.MethodName) prog_1_method_9_code (8 : Nat) (Option.some Jvm.ClassFile.FieldType.int)) ∈ zU := zin3 (List.mem_of_getElem? (i := 138) rfl) rfl
theorem zm_3_139 : (Jvm.Cond.methodLink "FlexibleBoxesLaw" (118 : Nat) ({ cls := "FlexibleBoxesLaw", name := "viewport", desc := "(LFlexibleBoxes;II)I" } : Jvm.MethodName)) ∈ zU := zin3 (List.mem_of_getElem? (i := 139) rfl) rfl
theorem zm_3_140 : (Jvm.Cond.static ({ cls := "FlexibleBoxesLaw", name := "viewport", desc := "(LFlexibleBoxes;II)I" } : Jvm.MethodName)) ∈ zU := zin3 (List.mem_of_getElem? (i := 140) rfl) rfl
theorem zm_3_141 : (Jvm.Cond.codeWith ({ cls := "FlexibleBoxesLaw", name := "viewport", desc := "(LFlexibleBoxes;II)I" } : Jvm.MethodName) method_10_code (4 : Nat) (Option.some Jvm.ClassFile.FieldType.int) [((0 : Nat), (6 : Nat), (9 : Nat), (20 : Nat))]) ∈ zU := zin3 (List.mem_of_getElem? (i := 141) rfl) rfl
theorem zm_3_142 : (Jvm.Cond.methodLink "FlexibleBoxesLaw" (39 : Nat) ({ cls := "FlexibleBoxes", name := "viewport", desc := "(II)V" } : Jvm.MethodName)) ∈ zU := zin3 (List.mem_of_getElem? (i := 142) rfl) rfl
theorem zm_3_143 : (Jvm.Cond.instanceMethod ({ cls := "FlexibleBoxes", name := "viewport", desc := "(II)V" } : Jvm.MethodName)) ∈ zU := zin3 (List.mem_of_getElem? (i := 143) rfl) rfl
theorem zm_3_144 : (Jvm.Cond.selects "FlexibleBoxes" ({ cls := "FlexibleBoxes", name := "viewport", desc := "(II)V" } : Jvm.MethodName) ({ cls := "FlexibleBoxes", name := "viewport", desc := "(II)V" } : Jvm.MethodName)) ∈ zU := zin3 (List.mem_of_getElem? (i := 144) rfl) rfl
theorem zm_3_145 : (Jvm.Cond.code ({ cls := "FlexibleBoxes", name := "viewport", desc := "(II)V" } : Jvm.MethodName) prog_1_method_10_code (3 : Nat) (Option.none : Option Jvm.ClassFile.FieldType)) ∈ zU := zin3 (List.mem_of_getElem? (i := 145) rfl) rfl
theorem zm_3_146 : (Jvm.Cond.methodLink "FlexibleBoxes" (114 : Nat) ({ cls := "FlexibleBoxes", name := "isViewportLength", desc := "(I)Z" } : Jvm.MethodName)) ∈ zU := zin3 (List.mem_of_getElem? (i := 146) rfl) rfl
theorem zm_3_147 : (Jvm.Cond.static ({ cls := "FlexibleBoxes", name := "isViewportLength", desc := "(I)Z" } : Jvm.MethodName)) ∈ zU := zin3 (List.mem_of_getElem? (i := 147) rfl) rfl
theorem zm_3_148 : (Jvm.Cond.code ({ cls := "FlexibleBoxes", name := "isViewportLength", desc := "(I)Z" } : Jvm.MethodName) prog_1_method_27_code (1 : Nat) (Option.some Jvm.ClassFile.FieldType.boolean)) ∈ zU := zin3 (List.mem_of_getElem? (i := 148) rfl) rfl
theorem zm_3_150 : (Jvm.Cond.methodLink "FlexibleBoxesLaw" (122 : Nat) ({ cls := "FlexibleBoxesLaw", name := "x", desc := "(LFlexibleBoxes;I[J)I" } : Jvm.MethodName)) ∈ zU := zin3 (List.mem_of_getElem? (i := 150) rfl) rfl
theorem zm_3_151 : (Jvm.Cond.static ({ cls := "FlexibleBoxesLaw", name := "x", desc := "(LFlexibleBoxes;I[J)I" } : Jvm.MethodName)) ∈ zU := zin3 (List.mem_of_getElem? (i := 151) rfl) rfl
theorem zm_3_152 : (Jvm.Cond.codeWith ({ cls := "FlexibleBoxesLaw", name := "x", desc := "(LFlexibleBoxes;I[J)I" } : Jvm.MethodName) method_11_code (4 : Nat) (Option.some Jvm.ClassFile.FieldType.int) [((0 : Nat), (9 : Nat), (12 : Nat), (13 : Nat)), ((0 : Nat), (9 : Nat), (15 : Nat), (15 : Nat))]) ∈ zU := zin3 (List.mem_of_getElem? (i := 152) rfl) rfl
theorem zm_3_153 : (Jvm.Cond.methodLink "FlexibleBoxesLaw" (43 : Nat) ({ cls := "FlexibleBoxes", name := "x", desc := "(I)I" } : Jvm.MethodName)) ∈ zU := zin3 (List.mem_of_getElem? (i := 153) rfl) rfl
theorem zm_3_154 : (Jvm.Cond.instanceMethod ({ cls := "FlexibleBoxes", name := "x", desc := "(I)I" } : Jvm.MethodName)) ∈ zU := zin3 (List.mem_of_getElem? (i := 154) rfl) rfl
theorem zm_3_155 : (Jvm.Cond.selects "FlexibleBoxes" ({ cls := "FlexibleBoxes", name := "x", desc := "(I)I" } : Jvm.MethodName) ({ cls := "FlexibleBoxes", name := "x", desc := "(I)I" } : Jvm.MethodName)) ∈ zU := zin3 (List.mem_of_getElem? (i := 155) rfl) rfl
theorem zm_3_156 : (Jvm.Cond.code ({ cls := "FlexibleBoxes", name := "x", desc := "(I)I" } : Jvm.MethodName) prog_1_method_11_code (2 : Nat) (Option.some Jvm.ClassFile.FieldType.int)) ∈ zU := zin3 (List.mem_of_getElem? (i := 156) rfl) rfl
theorem zm_3_157 : (Jvm.Cond.methodLink "FlexibleBoxes" (125 : Nat) ({ cls := "FlexibleBoxes", name := "laidOut", desc := "(LFlexibleBoxes$Box;)LFlexibleBoxes$Box;" } : Jvm.MethodName)) ∈ zU := zin3 (List.mem_of_getElem? (i := 157) rfl) rfl
theorem zm_3_159 : (Jvm.Cond.instanceMethod ({ cls := "FlexibleBoxes", name := "laidOut", desc := "(LFlexibleBoxes$Box;)LFlexibleBoxes$Box;" } : Jvm.MethodName)) ∈ zU := zin3 (List.mem_of_getElem? (i := 159) rfl) rfl
theorem zm_3_160 : (Jvm.Cond.code ({ cls := "FlexibleBoxes", name := "laidOut", desc := "(LFlexibleBoxes$Box;)LFlexibleBoxes$Box;" } : Jvm.MethodName) prog_1_method_25_code (2 : Nat) (Option.some (Jvm.ClassFile.FieldType.object "FlexibleBoxes$Box"))) ∈ zU := zin3 (List.mem_of_getElem? (i := 160) rfl) rfl
theorem zm_3_162 : (Jvm.Cond.methodLink "FlexibleBoxesLaw" (125 : Nat) ({ cls := "FlexibleBoxesLaw", name := "y", desc := "(LFlexibleBoxes;I[J)I" } : Jvm.MethodName)) ∈ zU := zin3 (List.mem_of_getElem? (i := 162) rfl) rfl
theorem zm_3_163 : (Jvm.Cond.static ({ cls := "FlexibleBoxesLaw", name := "y", desc := "(LFlexibleBoxes;I[J)I" } : Jvm.MethodName)) ∈ zU := zin3 (List.mem_of_getElem? (i := 163) rfl) rfl
theorem zm_3_164 : (Jvm.Cond.codeWith ({ cls := "FlexibleBoxesLaw", name := "y", desc := "(LFlexibleBoxes;I[J)I" } : Jvm.MethodName) method_12_code (4 : Nat) (Option.some Jvm.ClassFile.FieldType.int) [((0 : Nat), (9 : Nat), (12 : Nat), (13 : Nat)), ((0 : Nat), (9 : Nat), (15 : Nat), (15 : Nat))]) ∈ zU := zin3 (List.mem_of_getElem? (i := 164) rfl) rfl
theorem zm_3_165 : (Jvm.Cond.methodLink "FlexibleBoxesLaw" (46 : Nat) ({ cls := "FlexibleBoxes", name := "y", desc := "(I)I" } : Jvm.MethodName)) ∈ zU := zin3 (List.mem_of_getElem? (i := 165) rfl) rfl
theorem zm_3_166 : (Jvm.Cond.instanceMethod ({ cls := "FlexibleBoxes", name := "y", desc := "(I)I" } : Jvm.MethodName)) ∈ zU := zin3 (List.mem_of_getElem? (i := 166) rfl) rfl
theorem zm_3_167 : (Jvm.Cond.selects "FlexibleBoxes" ({ cls := "FlexibleBoxes", name := "y", desc := "(I)I" } : Jvm.MethodName) ({ cls := "FlexibleBoxes", name := "y", desc := "(I)I" } : Jvm.MethodName)) ∈ zU := zin3 (List.mem_of_getElem? (i := 167) rfl) rfl
theorem zm_3_168 : (Jvm.Cond.code ({ cls := "FlexibleBoxes", name := "y", desc := "(I)I" } : Jvm.MethodName) prog_1_method_12_code (2 : Nat) (Option.some Jvm.ClassFile.FieldType.int)) ∈ zU := zin3 (List.mem_of_getElem? (i := 168) rfl) rfl
theorem zm_3_169 : (Jvm.Cond.methodLink "FlexibleBoxesLaw" (128 : Nat) ({ cls := "FlexibleBoxesLaw", name := "width", desc := "(LFlexibleBoxes;I[J)I" } : Jvm.MethodName)) ∈ zU := zin3 (List.mem_of_getElem? (i := 169) rfl) rfl
theorem zm_3_170 : (Jvm.Cond.static ({ cls := "FlexibleBoxesLaw", name := "width", desc := "(LFlexibleBoxes;I[J)I" } : Jvm.MethodName)) ∈ zU := zin3 (List.mem_of_getElem? (i := 170) rfl) rfl
theorem zm_3_171 : (Jvm.Cond.codeWith ({ cls := "FlexibleBoxesLaw", name := "width", desc := "(LFlexibleBoxes;I[J)I" } : Jvm.MethodName) method_13_code (4 : Nat) (Option.some Jvm.ClassFile.FieldType.int) [((0 : Nat), (9 : Nat), (12 : Nat), (13 : Nat)), ((0 : Nat), (9 : Nat), (15 : Nat), (15 : Nat))]) ∈ zU := zin3 (List.mem_of_getElem? (i := 171) rfl) rfl
theorem zm_3_172 : (Jvm.Cond.methodLink "FlexibleBoxesLaw" (49 : Nat) ({ cls := "FlexibleBoxes", name := "width", desc := "(I)I" } : Jvm.MethodName)) ∈ zU := zin3 (List.mem_of_getElem? (i := 172) rfl) rfl
theorem zm_3_173 : (Jvm.Cond.instanceMethod ({ cls := "FlexibleBoxes", name := "width", desc := "(I)I" } : Jvm.MethodName)) ∈ zU := zin3 (List.mem_of_getElem? (i := 173) rfl) rfl
theorem zm_3_174 : (Jvm.Cond.selects "FlexibleBoxes" ({ cls := "FlexibleBoxes", name := "width", desc := "(I)I" } : Jvm.MethodName) ({ cls := "FlexibleBoxes", name := "width", desc := "(I)I" } : Jvm.MethodName)) ∈ zU := zin3 (List.mem_of_getElem? (i := 174) rfl) rfl
theorem zm_3_175 : (Jvm.Cond.code ({ cls := "FlexibleBoxes", name := "width", desc := "(I)I" } : Jvm.MethodName) prog_1_method_13_code (2 : Nat) (Option.some Jvm.ClassFile.FieldType.int)) ∈ zU := zin3 (List.mem_of_getElem? (i := 175) rfl) rfl
theorem zm_3_176 : (Jvm.Cond.methodLink "FlexibleBoxesLaw" (131 : Nat) ({ cls := "FlexibleBoxesLaw", name := "height", desc := "(LFlexibleBoxes;I[J)I" } : Jvm.MethodName)) ∈ zU := zin3 (List.mem_of_getElem? (i := 176) rfl) rfl
theorem zm_3_177 : (Jvm.Cond.static ({ cls := "FlexibleBoxesLaw", name := "height", desc := "(LFlexibleBoxes;I[J)I" } : Jvm.MethodName)) ∈ zU := zin3 (List.mem_of_getElem? (i := 177) rfl) rfl
theorem zm_3_178 : (Jvm.Cond.codeWith ({ cls := "FlexibleBoxesLaw", name := "height", desc := "(LFlexibleBoxes;I[J)I" } : Jvm.MethodName) method_14_code (4 : Nat) (Option.some Jvm.ClassFile.FieldType.int) [((0 : Nat), (9 : Nat), (12 : Nat), (13 : Nat)), ((0 : Nat), (9 : Nat), (15 : Nat), (15 : Nat))]) ∈ zU := zin3 (List.mem_of_getElem? (i := 178) rfl) rfl
theorem zm_3_179 : (Jvm.Cond.methodLink "FlexibleBoxesLaw" (52 : Nat) ({ cls := "FlexibleBoxes", name := "height", desc := "(I)I" } : Jvm.MethodName)) ∈ zU := zin3 (List.mem_of_getElem? (i := 179) rfl) rfl
theorem zm_3_180 : (Jvm.Cond.instanceMethod ({ cls := "FlexibleBoxes", name := "height", desc := "(I)I" } : Jvm.MethodName)) ∈ zU := zin3 (List.mem_of_getElem? (i := 180) rfl) rfl
theorem zm_3_181 : (Jvm.Cond.selects "FlexibleBoxes" ({ cls := "FlexibleBoxes", name := "height", desc := "(I)I" } : Jvm.MethodName) ({ cls := "FlexibleBoxes", name := "height", desc := "(I)I" } : Jvm.MethodName)) ∈ zU := zin3 (List.mem_of_getElem? (i := 181) rfl) rfl
theorem zm_3_182 : (Jvm.Cond.code ({ cls := "FlexibleBoxes", name := "height", desc := "(I)I" } : Jvm.MethodName) prog_1_method_14_code (2 : Nat) (Option.some Jvm.ClassFile.FieldType.int)) ∈ zU := zin3 (List.mem_of_getElem? (i := 182) rfl) rfl
theorem zm_3_183 : (Jvm.Cond.methodLink "FlexibleBoxesLaw" (134 : Nat) ({ cls := "FlexibleBoxesLaw", name := "naturalWidth", desc := "(LFlexibleBoxes;I[J)I" } : Jvm.MethodName)) ∈ zU := zin3 (List.mem_of_getElem? (i := 183) rfl) rfl
theorem zm_3_184 : (Jvm.Cond.static ({ cls := "FlexibleBoxesLaw", name := "naturalWidth", desc := "(LFlexibleBoxes;I[J)I" } : Jvm.MethodName)) ∈ zU := zin3 (List.mem_of_getElem? (i := 184) rfl) rfl
theorem zm_3_185 : (Jvm.Cond.codeWith ({ cls := "FlexibleBoxesLaw", name := "naturalWidth", desc := "(LFlexibleBoxes;I[J)I" } : Jvm.MethodName) method_15_code (4 : Nat) (Option.some Jvm.ClassFile.FieldType.int) [((0 : Nat), (9 : Nat), (12 : Nat), (13 : Nat)), ((0 : Nat), (9 : Nat), (15 : Nat), (15 : Nat))]) ∈ zU := zin3 (List.mem_of_getElem? (i := 185) rfl) rfl
theorem zm_3_186 : (Jvm.Cond.methodLink "FlexibleBoxesLaw" (55 : Nat) ({ cls := "FlexibleBoxes", name := "naturalWidth", desc := "(I)I" } : Jvm.MethodName)) ∈ zU := zin3 (List.mem_of_getElem? (i := 186) rfl) rfl
theorem zm_3_187 : (Jvm.Cond.instanceMethod ({ cls := "FlexibleBoxes", name := "naturalWidth", desc := "(I)I" } : Jvm.MethodName)) ∈ zU := zin3 (List.mem_of_getElem? (i := 187) rfl) rfl
theorem zm_3_188 : (Jvm.Cond.selects "FlexibleBoxes" ({ cls := "FlexibleBoxes", name := "naturalWidth", desc := "(I)I" } : Jvm.MethodName) ({ cls := "FlexibleBoxes", name := "naturalWidth", desc := "(I)I" } : Jvm.MethodName)) ∈ zU := zin3 (List.mem_of_getElem? (i := 188) rfl) rfl
theorem zm_3_189 : (Jvm.Cond.code ({ cls := "FlexibleBoxes", name := "naturalWidth", desc := "(I)I" } : Jvm.MethodName) prog_1_method_15_code (2 : Nat) (Option.some Jvm.ClassFile.FieldType.int)) ∈ zU := zin3 (List.mem_of_getElem? (i := 189) rfl) rfl
theorem zm_3_190 : (Jvm.Cond.methodLink "FlexibleBoxesLaw" (137 : Nat) ({ cls := "FlexibleBoxesLaw", name := "naturalHeight", desc := "(LFlexibleBoxes;I[J)I" } : Jvm.MethodName)) ∈ zU := zin3 (List.mem_of_getElem? (i := 190) rfl) rfl
theorem zm_3_191 : (Jvm.Cond.static ({ cls := "FlexibleBoxesLaw", name := "naturalHeight", desc := "(LFlexibleBoxes;I[J)I" } : Jvm.MethodName)) ∈ zU := zin3 (List.mem_of_getElem? (i := 191) rfl) rfl
theorem zm_3_192 : (Jvm.Cond.codeWith ({ cls := "FlexibleBoxesLaw", name := "naturalHeight", desc := "(LFlexibleBoxes;I[J)I" } : Jvm.MethodName) method_16_code (4 : Nat) (Option.some Jvm.ClassFile.FieldType.int) [((0 : Nat), (9 : Nat), (12 : Nat), (13 : Nat)), ((0 : Nat), (9 : Nat), (15 : Nat), (15 : Nat))]) ∈ zU := zin3 (List.mem_of_getElem? (i := 192) rfl) rfl
theorem zm_3_193 : (Jvm.Cond.methodLink "FlexibleBoxesLaw" (58 : Nat) ({ cls := "FlexibleBoxes", name := "naturalHeight", desc := "(I)I" } : Jvm.MethodName)) ∈ zU := zin3 (List.mem_of_getElem? (i := 193) rfl) rfl
theorem zm_3_194 : (Jvm.Cond.instanceMethod ({ cls := "FlexibleBoxes", name := "naturalHeight", desc := "(I)I" } : Jvm.MethodName)) ∈ zU := zin3 (List.mem_of_getElem? (i := 194) rfl) rfl
theorem zm_3_195 : (Jvm.Cond.selects "FlexibleBoxes" ({ cls := "FlexibleBoxes", name := "naturalHeight", desc := "(I)I" } : Jvm.MethodName) ({ cls := "FlexibleBoxes", name := "naturalHeight", desc := "(I)I" } : Jvm.MethodName)) ∈ zU := zin3 (List.mem_of_getElem? (i := 195) rfl) rfl
theorem zm_3_196 : (Jvm.Cond.code ({ cls := "FlexibleBoxes", name := "naturalHeight", desc := "(I)I" } : Jvm.MethodName) prog_1_method_16_code (2 : Nat) (Option.some Jvm.ClassFile.FieldType.int)) ∈ zU := zin3 (List.mem_of_getElem? (i := 196) rfl) rfl
theorem zm_3_197 : (Jvm.Cond.methodLink "FlexibleBoxesLaw" (140 : Nat) ({ cls := "FlexibleBoxesLaw", name := "lines", desc := "(LFlexibleBoxes;I[J)I" } : Jvm.MethodName)) ∈ zU := zin3 (List.mem_of_getElem? (i := 197) rfl) rfl
theorem zm_3_198 : (Jvm.Cond.static ({ cls := "FlexibleBoxesLaw", name := "lines", desc := "(LFlexibleBoxes;I[J)I" } : Jvm.MethodName)) ∈ zU := zin3 (List.mem_of_getElem? (i := 198) rfl) rfl
theorem zm_3_199 : (Jvm.Cond.codeWith ({ cls := "FlexibleBoxesLaw", name := "lines", desc := "(LFlexibleBoxes;I[J)I" } : Jvm.MethodName) method_17_code (4 : Nat) (Option.some Jvm.ClassFile.FieldType.int) [((0 : Nat), (9 : Nat), (12 : Nat), (13 : Nat)), ((0 : Nat), (9 : Nat), (15 : Nat), (15 : Nat))]) ∈ zU := zin3 (List.mem_of_getElem? (i := 199) rfl) rfl
theorem zm_3_200 : (Jvm.Cond.methodLink "FlexibleBoxesLaw" (61 : Nat) ({ cls := "FlexibleBoxes", name := "lines", desc := "(I)I" } : Jvm.MethodName)) ∈ zU := zin3 (List.mem_of_getElem? (i := 200) rfl) rfl
theorem zm_3_201 : (Jvm.Cond.instanceMethod ({ cls := "FlexibleBoxes", name := "lines", desc := "(I)I" } : Jvm.MethodName)) ∈ zU := zin3 (List.mem_of_getElem? (i := 201) rfl) rfl
theorem zm_3_202 : (Jvm.Cond.selects "FlexibleBoxes" ({ cls := "FlexibleBoxes", name := "lines", desc := "(I)I" } : Jvm.MethodName) ({ cls := "FlexibleBoxes", name := "lines", desc := "(I)I" } : Jvm.MethodName)) ∈ zU := zin3 (List.mem_of_getElem? (i := 202) rfl) rfl
theorem zm_3_203 : (Jvm.Cond.code ({ cls := "FlexibleBoxes", name := "lines", desc := "(I)I" } : Jvm.MethodName) prog_1_method_17_code (2 : Nat) (Option.some Jvm.ClassFile.FieldType.int)) ∈ zU := zin3 (List.mem_of_getElem? (i := 203) rfl) rfl
theorem zm_3_204 : (Jvm.Cond.methodLink "FlexibleBoxesLaw" (143 : Nat) ({ cls := "FlexibleBoxesLaw", name := "lineOf", desc := "(LFlexibleBoxes;I[J)I" } : Jvm.MethodName)) ∈ zU := zin3 (List.mem_of_getElem? (i := 204) rfl) rfl
theorem zm_3_205 : (Jvm.Cond.static ({ cls := "FlexibleBoxesLaw", name := "lineOf", desc := "(LFlexibleBoxes;I[J)I" } : Jvm.MethodName)) ∈ zU := zin3 (List.mem_of_getElem? (i := 205) rfl) rfl
theorem zm_3_206 : (Jvm.Cond.codeWith ({ cls := "FlexibleBoxesLaw", name := "lineOf", desc := "(LFlexibleBoxes;I[J)I" } : Jvm.MethodName) method_18_code (4 : Nat) (Option.some Jvm.ClassFile.FieldType.int) [((0 : Nat), (9 : Nat), (12 : Nat), (13 : Nat)), ((0 : Nat), (9 : Nat), (15 : Nat), (15 : Nat))]) ∈ zU := zin3 (List.mem_of_getElem? (i := 206) rfl) rfl
theorem zm_3_207 : (Jvm.Cond.methodLink "FlexibleBoxesLaw" (64 : Nat) ({ cls := "FlexibleBoxes", name := "lineOf", desc := "(I)I" } : Jvm.MethodName)) ∈ zU := zin3 (List.mem_of_getElem? (i := 207) rfl) rfl
theorem zm_3_208 : (Jvm.Cond.instanceMethod ({ cls := "FlexibleBoxes", name := "lineOf", desc := "(I)I" } : Jvm.MethodName)) ∈ zU := zin3 (List.mem_of_getElem? (i := 208) rfl) rfl
theorem zm_3_209 : (Jvm.Cond.selects "FlexibleBoxes" ({ cls := "FlexibleBoxes", name := "lineOf", desc := "(I)I" } : Jvm.MethodName) ({ cls := "FlexibleBoxes", name := "lineOf", desc := "(I)I" } : Jvm.MethodName)) ∈ zU := zin3 (List.mem_of_getElem? (i := 209) rfl) rfl
theorem zm_3_210 : (Jvm.Cond.code ({ cls := "FlexibleBoxes", name := "lineOf", desc := "(I)I" } : Jvm.MethodName) prog_1_method_18_code (2 : Nat) (Option.some Jvm.ClassFile.FieldType.int)) ∈ zU := zin3 (List.mem_of_getElem? (i := 210) rfl) rfl
theorem zm_3_211 : (Jvm.Cond.methodLink "FlexibleBoxesLaw" (146 : Nat) ({ cls := "FlexibleBoxesLaw", name := "overflow", desc := "(LFlexibleBoxes;I[J)I" } : Jvm.MethodName)) ∈ zU := zin3 (List.mem_of_getElem? (i := 211) rfl) rfl
theorem zm_3_212 : (Jvm.Cond.static ({ cls := "FlexibleBoxesLaw", name := "overflow", desc := "(LFlexibleBoxes;I[J)I" } : Jvm.MethodName)) ∈ zU := zin3 (List.mem_of_getElem? (i := 212) rfl) rfl
theorem zm_3_213 : (Jvm.Cond.codeWith ({ cls := "FlexibleBoxesLaw", name := "overflow", desc := "(LFlexibleBoxes;I[J)I" } : Jvm.MethodName) method_19_code (4 : Nat) (Option.some Jvm.ClassFile.FieldType.int) [((0 : Nat), (9 : Nat), (12 : Nat), (13 : Nat)), ((0 : Nat), (9 : Nat), (15 : Nat), (15 : Nat))]) ∈ zU := zin3 (List.mem_of_getElem? (i := 213) rfl) rfl
theorem zm_3_214 : (Jvm.Cond.methodLink "FlexibleBoxesLaw" (67 : Nat) ({ cls := "FlexibleBoxes", name := "overflow", desc := "(I)I" } : Jvm.MethodName)) ∈ zU := zin3 (List.mem_of_getElem? (i := 214) rfl) rfl
theorem zm_3_215 : (Jvm.Cond.instanceMethod ({ cls := "FlexibleBoxes", name := "overflow", desc := "(I)I" } : Jvm.MethodName)) ∈ zU := zin3 (List.mem_of_getElem? (i := 215) rfl) rfl
theorem zm_3_216 : (Jvm.Cond.selects "FlexibleBoxes" ({ cls := "FlexibleBoxes", name := "overflow", desc := "(I)I" } : Jvm.MethodName) ({ cls := "FlexibleBoxes", name := "overflow", desc := "(I)I" } : Jvm.MethodName)) ∈ zU := zin3 (List.mem_of_getElem? (i := 216) rfl) rfl
theorem zm_3_217 : (Jvm.Cond.code ({ cls := "FlexibleBoxes", name := "overflow", desc := "(I)I" } : Jvm.MethodName) prog_1_method_19_code (3 : Nat) (Option.some Jvm.ClassFile.FieldType.int)) ∈ zU := zin3 (List.mem_of_getElem? (i := 217) rfl) rfl
theorem zm_3_218 : (Jvm.Cond.methodLink "FlexibleBoxes" (156 : Nat) ({ cls := "FlexibleBoxes$Layout", name := "kidsOverflow", desc := "(LFlexibleBoxes$Box;)I" } : Jvm.MethodName)) ∈ zU := zin3 (List.mem_of_getElem? (i := 218) rfl) rfl
theorem zm_3_219 : (Jvm.Cond.static ({ cls := "FlexibleBoxes$Layout", name := "kidsOverflow", desc := "(LFlexibleBoxes$Box;)I" } : Jvm.MethodName)) ∈ zU := zin3 (List.mem_of_getElem? (i := 219) rfl) rfl
theorem zm_3_220 : (Jvm.Cond.code ({ cls := "FlexibleBoxes$Layout", name := "kidsOverflow", desc := "(LFlexibleBoxes$Box;)I" } : Jvm.MethodName) prog_4_method_19_code (4 : Nat) (Option.some Jvm.ClassFile.FieldType.int)) ∈ zU := zin3 (List.mem_of_getElem? (i := 220) rfl) rfl
theorem zm_3_221 : (Jvm.Cond.methodLink "FlexibleBoxes" (159 : Nat) ({ cls := "FlexibleBoxes$Layout", name := "textOverflow", desc := "(LFlexibleBoxes$Box;)I" } : Jvm.MethodName)) ∈ zU := zin3 (List.mem_of_getElem? (i := 221) rfl) rfl
theorem zm_3_222 : (Jvm.Cond.static ({ cls := "FlexibleBoxes$Layout", name := "textOverflow", desc := "(LFlexibleBoxes$Box;)I" } : Jvm.MethodName)) ∈ zU := zin3 (List.mem_of_getElem? (i := 222) rfl) rfl
theorem zm_3_223 : (Jvm.Cond.code ({ cls := "FlexibleBoxes$Layout", name := "textOverflow", desc := "(LFlexibleBoxes$Box;)I" } : Jvm.MethodName) prog_4_method_20_code (3 : Nat) (Option.some Jvm.ClassFile.FieldType.int)) ∈ zU := zin3 (List.mem_of_getElem? (i := 223) rfl) rfl
theorem zm_3_224 : (Jvm.Cond.methodLink "FlexibleBoxesLaw" (153 : Nat) ({ cls := "FlexibleBoxesLaw", name := "widthFor", desc := "(LFlexibleBoxes;II[J)I" } : Jvm.MethodName)) ∈ zU := zin3 (List.mem_of_getElem? (i := 224) rfl) rfl
theorem zm_3_225 : (Jvm.Cond.static ({ cls := "FlexibleBoxesLaw", name := "widthFor", desc := "(LFlexibleBoxes;II[J)I" } : Jvm.MethodName)) ∈ zU := zin3 (List.mem_of_getElem? (i := 225) rfl) rfl
theorem zm_3_226 : (Jvm.Cond.codeWith ({ cls := "FlexibleBoxesLaw", name := "widthFor", desc := "(LFlexibleBoxes;II[J)I" } : Jvm.MethodName) method_20_code (5 : Nat) (Option.some Jvm.ClassFile.FieldType.int) [((0 : Nat), (10 : Nat), (13 : Nat), (13 : Nat)), ((0 : Nat), (10 : Nat), (17 : Nat), (20 : Nat)), ((0 : Nat), (10 : Nat), (21 : Nat), (15 : Nat))]) ∈ zU := zin3 (List.mem_of_getElem? (i := 226) rfl) rfl
theorem zm_3_227 : (Jvm.Cond.methodLink "FlexibleBoxesLaw" (70 : Nat) ({ cls := "FlexibleBoxes", name := "widthFor", desc := "(II)I" } : Jvm.MethodName)) ∈ zU := zin3 (List.mem_of_getElem? (i := 227) rfl) rfl
theorem zm_3_228 : (Jvm.Cond.instanceMethod ({ cls := "FlexibleBoxes", name := "widthFor", desc := "(II)I" } : Jvm.MethodName)) ∈ zU := zin3 (List.mem_of_getElem? (i := 228) rfl) rfl
theorem zm_3_229 : (Jvm.Cond.selects "FlexibleBoxes" ({ cls := "FlexibleBoxes", name := "widthFor", desc := "(II)I" } : Jvm.MethodName) ({ cls := "FlexibleBoxes", name := "widthFor", desc := "(II)I" } : Jvm.MethodName)) ∈ zU := zin3 (List.mem_of_getElem? (i := 229) rfl) rfl
theorem zm_3_230 : (Jvm.Cond.code ({ cls := "FlexibleBoxes", name := "widthFor", desc := "(II)I" } : Jvm.MethodName) prog_1_method_21_code (4 : Nat) (Option.some Jvm.ClassFile.FieldType.int)) ∈ zU := zin3 (List.mem_of_getElem? (i := 230) rfl) rfl
theorem zm_3_232 : (Jvm.Cond.methodLink "FlexibleBoxes" (167 : Nat) ({ cls := "FlexibleBoxes$Layout", name := "narrowestFor", desc := "(LFlexibleBoxes$Box;I)I" } : Jvm.MethodName)) ∈ zU := zin3 (List.mem_of_getElem? (i := 232) rfl) rfl
theorem zm_3_233 : (Jvm.Cond.instanceMethod ({ cls := "FlexibleBoxes$Layout", name := "narrowestFor", desc := "(LFlexibleBoxes$Box;I)I" } : Jvm.MethodName)) ∈ zU := zin3 (List.mem_of_getElem? (i := 233) rfl) rfl
theorem zm_3_234 : (Jvm.Cond.selects "FlexibleBoxes$Layout" ({ cls := "FlexibleBoxes$Layout", name := "narrowestFor", desc := "(LFlexibleBoxes$Box;I)I" } : Jvm.MethodName) ({ cls := "FlexibleBoxes$Layout", name := "narrowestFor", desc := "(LFlexibleBoxes$Box;I)I" } : Jvm.MethodName)) ∈ zU := zin3 (List.mem_of_getElem? (i := 234) rfl) rfl
theorem zm_3_235 : (Jvm.Cond.code ({ cls := "FlexibleBoxes$Layout", name := "narrowestFor", desc := "(LFlexibleBoxes$Box;I)I" } : Jvm.MethodName) prog_4_method_23_code (4 : Nat) (Option.some Jvm.ClassFile.FieldType.int)) ∈ zU := zin3 (List.mem_of_getElem? (i := 235) rfl) rfl
theorem zm_3_236 : (Jvm.Cond.methodLink "FlexibleBoxes$Layout" (219 : Nat) ({ cls := "FlexibleBoxes$Layout", name := "linesVary", desc := "(LFlexibleBoxes$Box;)Z" } : Jvm.MethodName)) ∈ zU := zin3 (List.mem_of_getElem? (i := 236) rfl) rfl
theorem zm_3_237 : (Jvm.Cond.static ({ cls := "FlexibleBoxes$Layout", name := "linesVary", desc := "(LFlexibleBoxes$Box;)Z" } : Jvm.MethodName)) ∈ zU := zin3 (List.mem_of_getElem? (i := 237) rfl) rfl
theorem zm_3_238 : (Jvm.Cond.code ({ cls := "FlexibleBoxes$Layout", name := "linesVary", desc := "(LFlexibleBoxes$Box;)Z" } : Jvm.MethodName) prog_4_method_24_code (1 : Nat) (Option.some Jvm.ClassFile.FieldType.boolean)) ∈ zU := zin3 (List.mem_of_getElem? (i := 238) rfl) rfl
theorem zm_3_239 : (Jvm.Cond.methodLink "FlexibleBoxes$Layout" (226 : Nat) ({ cls := "FlexibleBoxes$Layout", name := "linesAt", desc := "(LFlexibleBoxes$Box;I)I" } : Jvm.MethodName)) ∈ zU := zin3 (List.mem_of_getElem? (i := 239) rfl) rfl
theorem zm_4_1 : (Jvm.Cond.instanceMethod ({ cls := "FlexibleBoxes$Layout", name := "linesAt", desc := "(LFlexibleBoxes$Box;I)I" } : Jvm.MethodName)) ∈ zU := zin4 (List.mem_of_getElem? (i := 1) rfl) rfl
theorem zm_4_2 : (Jvm.Cond.code ({ cls := "FlexibleBoxes$Layout", name := "linesAt", desc := "(LFlexibleBoxes$Box;I)I" } : Jvm.MethodName) prog_4_method_25_code (4 : Nat) (Option.some Jvm.ClassFile.FieldType.int)) ∈ zU := zin4 (List.mem_of_getElem? (i := 2) rfl) rfl
theorem zm_4_3 : (Jvm.Cond.methodLink "FlexibleBoxesLaw" (156 : Nat) ({ cls := "FlexibleBoxesLaw", name := "save", desc := "(LFlexibleBoxes;I)I" } : Jvm.MethodName)) ∈ zU := zin4 (List.mem_of_getElem? (i := 3) rfl) rfl
theorem zm_4_4 : (Jvm.Cond.static ({ cls := "FlexibleBoxesLaw", name := "save", desc := "(LFlexibleBoxes;I)I" } : Jvm.MethodName)) ∈ zU := zin4 (List.mem_of_getElem? (i := 4) rfl) rfl
theorem zm_4_5 : (Jvm.Cond.codeWith ({ cls := "FlexibleBoxesLaw", name := "save", desc := "(LFlexibleBoxes;I)I" } : Jvm.MethodName) method_21_code (3 : Nat) (Option.some Jvm.ClassFile.FieldType.int) [((0 : Nat), (5 : Nat), (8 : Nat), (20 : Nat))]) ∈ zU := zin4 (List.mem_of_getElem? (i := 5) rfl) rfl
theorem zm_4_6 : (Jvm.Cond.methodLink "FlexibleBoxesLaw" (73 : Nat) ({ cls := "FlexibleBoxes", name := "save", desc := "(I)V" } : Jvm.MethodName)) ∈ zU := zin4 (List.mem_of_getElem? (i := 6) rfl) rfl
theorem zm_4_7 : (Jvm.Cond.instanceMethod ({ cls := "FlexibleBoxes", name := "save", desc := "(I)V" } : Jvm.MethodName)) ∈ zU := zin4 (List.mem_of_getElem? (i := 7) rfl) rfl
theorem zm_4_8 : (Jvm.Cond.selects "FlexibleBoxes" ({ cls := "FlexibleBoxes", name := "save", desc := "(I)V" } : Jvm.MethodName) ({ cls := "FlexibleBoxes", name := "save", desc := "(I)V" } : Jvm.MethodName)) ∈ zU := zin4 (List.mem_of_getElem? (i := 8) rfl) rfl
theorem zm_4_9 : (Jvm.Cond.code ({ cls := "FlexibleBoxes", name := "save", desc := "(I)V" } : Jvm.MethodName) prog_1_method_22_code (3 : Nat) (Option.none : Option Jvm.ClassFile.FieldType)) ∈ zU := zin4 (List.mem_of_getElem? (i := 9) rfl) rfl
theorem zm_4_11 : (Jvm.Cond.instantiable "FlexibleBoxes$Snapshot" (6 : Nat)) ∈ zU := zin4 (List.mem_of_getElem? (i := 11) rfl) rfl
theorem zm_4_13 : (Jvm.Cond.instanceMethod ({ cls := "FlexibleBoxes$Snapshot", name := "<init>", desc := "()V" } : Jvm.MethodName)) ∈ zU := zin4 (List.mem_of_getElem? (i := 13) rfl) rfl
theorem zm_4_14 : (Jvm.Cond.code ({ cls := "FlexibleBoxes$Snapshot", name := "<init>", desc := "()V" } : Jvm.MethodName) prog_5_method_1_code (1 : Nat) (Option.none : Option Jvm.ClassFile.FieldType)) ∈ zU := zin4 (List.mem_of_getElem? (i := 14) rfl) rfl
theorem zm_4_15 : (Jvm.Cond.methodLink "FlexibleBoxes$Snapshot" (3 : Nat) ({ cls := "java/lang/Object", name := "<init>", desc := "()V" } : Jvm.MethodName)) ∈ zU := zin4 (List.mem_of_getElem? (i := 15) rfl) rfl
theorem zm_4_16 : (Jvm.Cond.classLink "FlexibleBoxes$Snapshot" (19 : Nat) "[[I") ∈ zU := zin4 (List.mem_of_getElem? (i := 16) rfl) rfl
theorem zm_4_18 : (Jvm.Cond.fieldLink "FlexibleBoxes$Snapshot" (9 : Nat) "FlexibleBoxes$Snapshot" "exists" "[Z") ∈ zU := zin4 (List.mem_of_getElem? (i := 18) rfl) rfl
theorem zm_4_19 : (Jvm.Cond.fieldLink "FlexibleBoxes$Tree" (73 : Nat) "FlexibleBoxes$Snapshot" "exists" "[Z") ∈ zU := zin4 (List.mem_of_getElem? (i := 19) rfl) rfl
theorem zm_4_20 : (Jvm.Cond.fieldLink "FlexibleBoxes$Snapshot" (15 : Nat) "FlexibleBoxes$Snapshot" "parents" "[I") ∈ zU := zin4 (List.mem_of_getElem? (i := 20) rfl) rfl
theorem zm_4_21 : (Jvm.Cond.fieldLink "FlexibleBoxes$Tree" (76 : Nat) "FlexibleBoxes$Snapshot" "parents" "[I") ∈ zU := zin4 (List.mem_of_getElem? (i := 21) rfl) rfl
theorem zm_4_22 : (Jvm.Cond.fieldLink "FlexibleBoxes$Snapshot" (21 : Nat) "FlexibleBoxes$Snapshot" "styles" "[[I") ∈ zU := zin4 (List.mem_of_getElem? (i := 22) rfl) rfl
theorem zm_4_23 : (Jvm.Cond.fieldLink "FlexibleBoxes$Tree" (87 : Nat) "FlexibleBoxes$Snapshot" "styles" "[[I") ∈ zU := zin4 (List.mem_of_getElem? (i := 23) rfl) rfl
theorem zm_4_24 : (Jvm.Cond.fieldLink "FlexibleBoxes$Tree" (68 : Nat) "FlexibleBoxes$Snapshot" "given" "I") ∈ zU := zin4 (List.mem_of_getElem? (i := 24) rfl) rfl
theorem zm_4_25 : (Jvm.Cond.fieldLink "FlexibleBoxes$Tree" (71 : Nat) "FlexibleBoxes$Snapshot" "viewportWidth" "I") ∈ zU := zin4 (List.mem_of_getElem? (i := 25) rfl) rfl
theorem zm_4_26 : (Jvm.Cond.fieldLink "FlexibleBoxes$Tree" (72 : Nat) "FlexibleBoxes$Snapshot" "viewportHeight" "I") ∈ zU := zin4 (List.mem_of_getElem? (i := 26) rfl) rfl
theorem zm_4_40 : (Jvm.Cond.methodLink "FlexibleBoxes" (174 : Nat) ({ cls := "FlexibleBoxes$Tree", name := "copyTo", desc := "(LFlexibleBoxes$Snapshot;)V" } : Jvm.MethodName)) ∈ zU := zin4 (List.mem_of_getElem? (i := 40) rfl) rfl
theorem zm_4_41 : (Jvm.Cond.instanceMethod ({ cls := "FlexibleBoxes$Tree", name := "copyTo", desc := "(LFlexibleBoxes$Snapshot;)V" } : Jvm.MethodName)) ∈ zU := zin4 (List.mem_of_getElem? (i := 41) rfl) rfl
theorem zm_4_42 : (Jvm.Cond.selects "FlexibleBoxes$Tree" ({ cls := "FlexibleBoxes$Tree", name := "copyTo", desc := "(LFlexibleBoxes$Snapshot;)V" } : Jvm.MethodName) ({ cls := "FlexibleBoxes$Tree", name := "copyTo", desc := "(LFlexibleBoxes$Snapshot;)V" } : Jvm.MethodName)) ∈ zU := zin4 (List.mem_of_getElem? (i := 42) rfl) rfl
theorem zm_4_43 : (Jvm.Cond.code ({ cls := "FlexibleBoxes$Tree", name := "copyTo", desc := "(LFlexibleBoxes$Snapshot;)V" } : Jvm.MethodName) prog_6_method_9_code (4 : Nat) (Option.none : Option Jvm.ClassFile.FieldType)) ∈ zU := zin4 (List.mem_of_getElem? (i := 43) rfl) rfl
theorem zm_4_44 : (Jvm.Cond.methodLink "FlexibleBoxes$Tree" (80 : Nat) ({ cls := "FlexibleBoxes$Box", name := "parentNumber", desc := "()I" } : Jvm.MethodName)) ∈ zU := zin4 (List.mem_of_getElem? (i := 44) rfl) rfl
theorem zm_4_45 : (Jvm.Cond.methodLink "FlexibleBoxes$Tree" (91 : Nat) ({ cls := "java/lang/System", name := "arraycopy", desc := "(Ljava/lang/Object;ILjava/lang/Object;II)V" } : Jvm.MethodName)) ∈ zU := zin4 (List.mem_of_getElem? (i := 45) rfl) rfl
theorem zm_4_46 : (Jvm.Cond.static ({ cls := "java/lang/System", name := "arraycopy", desc := "(Ljava/lang/Object;ILjava/lang/Object;II)V" } : Jvm.MethodName)) ∈ zU := zin4 (List.mem_of_getElem? (i := 46) rfl) rfl
theorem zm_4_48 : (Jvm.Cond.methodLink "FlexibleBoxesLaw" (160 : Nat) ({ cls := "FlexibleBoxesLaw", name := "restore", desc := "(LFlexibleBoxes;I)I" } : Jvm.MethodName)) ∈ zU := zin4 (List.mem_of_getElem? (i := 48) rfl) rfl
theorem zm_4_49 : (Jvm.Cond.static ({ cls := "FlexibleBoxesLaw", name := "restore", desc := "(LFlexibleBoxes;I)I" } : Jvm.MethodName)) ∈ zU := zin4 (List.mem_of_getElem? (i := 49) rfl) rfl
theorem zm_4_50 : (Jvm.Cond.codeWith ({ cls := "FlexibleBoxesLaw", name := "restore", desc := "(LFlexibleBoxes;I)I" } : Jvm.MethodName) method_22_code (3 : Nat) (Option.some Jvm.ClassFile.FieldType.int) [((0 : Nat), (5 : Nat), (8 : Nat), (20 : Nat)), ((0 : Nat), (5 : Nat), (11 : Nat), (15 : Nat))]) ∈ zU := zin4 (List.mem_of_getElem? (i := 50) rfl) rfl
theorem zm_4_51 : (Jvm.Cond.methodLink "FlexibleBoxesLaw" (77 : Nat) ({ cls := "FlexibleBoxes", name := "restore", desc := "(I)V" } : Jvm.MethodName)) ∈ zU := zin4 (List.mem_of_getElem? (i := 51) rfl) rfl
theorem zm_4_52 : (Jvm.Cond.instanceMethod ({ cls := "FlexibleBoxes", name := "restore", desc := "(I)V" } : Jvm.MethodName)) ∈ zU := zin4 (List.mem_of_getElem? (i := 52) rfl) rfl
theorem zm_4_53 : (Jvm.Cond.selects "FlexibleBoxes" ({ cls := "FlexibleBoxes", name := "restore", desc := "(I)V" } : Jvm.MethodName) ({ cls := "FlexibleBoxes", name := "restore", desc := "(I)V" } : Jvm.MethodName)) ∈ zU := zin4 (List.mem_of_getElem? (i := 53) rfl) rfl
theorem zm_4_54 : (Jvm.Cond.code ({ cls := "FlexibleBoxes", name := "restore", desc := "(I)V" } : Jvm.MethodName) prog_1_method_23_code (3 : Nat) (Option.none : Option Jvm.ClassFile.FieldType)) ∈ zU := zin4 (List.mem_of_getElem? (i := 54) rfl) rfl
theorem zm_4_56 : (Jvm.Cond.methodLink "FlexibleBoxes" (180 : Nat) ({ cls := "FlexibleBoxes$Tree", name := "takeFrom", desc := "(LFlexibleBoxes$Snapshot;)V" } : Jvm.MethodName)) ∈ zU := zin4 (List.mem_of_getElem? (i := 56) rfl) rfl
theorem zm_4_57 : (Jvm.Cond.instanceMethod ({ cls := "FlexibleBoxes$Tree", name := "takeFrom", desc := "(LFlexibleBoxes$Snapshot;)V" } : Jvm.MethodName)) ∈ zU := zin4 (List.mem_of_getElem? (i := 57) rfl) rfl
theorem zm_4_58 : (Jvm.Cond.selects "FlexibleBoxes$Tree" ({ cls := "FlexibleBoxes$Tree", name := "takeFrom", desc := "(LFlexibleBoxes$Snapshot;)V" } : Jvm.MethodName) ({ cls := "FlexibleBoxes$Tree", name := "takeFrom", desc := "(LFlexibleBoxes$Snapshot;)V" } : Jvm.MethodName)) ∈ zU := zin4 (List.mem_of_getElem? (i := 58) rfl) rfl
theorem zm_4_59 : (Jvm.Cond.code ({ cls := "FlexibleBoxes$Tree", name := "takeFrom", desc := "(LFlexibleBoxes$Snapshot;)V" } : Jvm.MethodName) prog_6_method_10_code (4 : Nat) (Option.none : Option Jvm.ClassFile.FieldType)) ∈ zU := zin4 (List.mem_of_getElem? (i := 59) rfl) rfl
theorem zm_4_60 : (Jvm.Cond.classLink "FlexibleBoxesLaw" (81 : Nat) "FlexibleBoxesModel") ∈ zU := zin4 (List.mem_of_getElem? (i := 60) rfl) rfl
theorem zm_4_61 : (Jvm.Cond.instantiable "FlexibleBoxesModel" (16 : Nat)) ∈ zU := zin4 (List.mem_of_getElem? (i := 61) rfl) rfl
theorem zm_4_62 : (Jvm.Cond.methodLink "FlexibleBoxesLaw" (83 : Nat) ({ cls := "FlexibleBoxesModel", name := "<init>", desc := "()V" } : Jvm.MethodName)) ∈ zU := zin4 (List.mem_of_getElem? (i := 62) rfl) rfl
theorem zm_4_63 : (Jvm.Cond.instanceMethod ({ cls := "FlexibleBoxesModel", name := "<init>", desc := "()V" } : Jvm.MethodName)) ∈ zU := zin4 (List.mem_of_getElem? (i := 63) rfl) rfl
theorem zm_4_64 : (Jvm.Cond.code ({ cls := "FlexibleBoxesModel", name := "<init>", desc := "()V" } : Jvm.MethodName) prog_8_method_1_code (1 : Nat) (Option.none : Option Jvm.ClassFile.FieldType)) ∈ zU := zin4 (List.mem_of_getElem? (i := 64) rfl) rfl
theorem zm_4_65 : (Jvm.Cond.methodLink "FlexibleBoxesModel" (1 : Nat) ({ cls := "java/lang/Object", name := "<init>", desc := "()V" } : Jvm.MethodName)) ∈ zU := zin4 (List.mem_of_getElem? (i := 65) rfl) rfl
theorem zm_4_66 : (Jvm.Cond.methodLink "FlexibleBoxesModel" (54 : Nat) ({ cls := "FlexibleBoxesModel", name := "make", desc := "(I)I" } : Jvm.MethodName)) ∈ zU := zin4 (List.mem_of_getElem? (i := 66) rfl) rfl
theorem zm_4_68 : (Jvm.Cond.instanceMethod ({ cls := "FlexibleBoxesModel", name := "make", desc := "(I)I" } : Jvm.MethodName)) ∈ zU := zin4 (List.mem_of_getElem? (i := 68) rfl) rfl
theorem zm_4_69 : (Jvm.Cond.code ({ cls := "FlexibleBoxesModel", name := "make", desc := "(I)I" } : Jvm.MethodName) prog_8_method_8_code (4 : Nat) (Option.some Jvm.ClassFile.FieldType.int)) ∈ zU := zin4 (List.mem_of_getElem? (i := 69) rfl) rfl
theorem zm_4_70 : (Jvm.Cond.methodLink "FlexibleBoxesModel" (62 : Nat) ({ cls := "FlexibleBoxesModel", name := "firstOf", desc := "(I)I" } : Jvm.MethodName)) ∈ zU := zin4 (List.mem_of_getElem? (i := 70) rfl) rfl
theorem zm_4_71 : (Jvm.Cond.static ({ cls := "FlexibleBoxesModel", name := "firstOf", desc := "(I)I" } : Jvm.MethodName)) ∈ zU := zin4 (List.mem_of_getElem? (i := 71) rfl) rfl
theorem zm_4_72 : (Jvm.Cond.code ({ cls := "FlexibleBoxesModel", name := "firstOf", desc := "(I)I" } : Jvm.MethodName) prog_8_method_6_code (1 : Nat) (Option.some Jvm.ClassFile.FieldType.int)) ∈ zU := zin4 (List.mem_of_getElem? (i := 72) rfl) rfl
theorem zm_4_73 : (Jvm.Cond.fieldLink "FlexibleBoxesModel" (7 : Nat) "FlexibleBoxesModel" "at" "[I") ∈ zU := zin4 (List.mem_of_getElem? (i := 73) rfl) rfl
theorem zm_4_74 : (Jvm.Cond.fieldLink "FlexibleBoxesModel" (13 : Nat) "FlexibleBoxesModel" "slots" "[I") ∈ zU := zin4 (List.mem_of_getElem? (i := 74) rfl) rfl
theorem zm_4_75 : (Jvm.Cond.fieldLink "FlexibleBoxesModel" (16 : Nat) "FlexibleBoxesModel" "isSaved" "[Z") ∈ zU := zin4 (List.mem_of_getElem? (i := 75) rfl) rfl
theorem zm_4_76 : (Jvm.Cond.fieldLink "FlexibleBoxesModel" (58 : Nat) "FlexibleBoxesModel" "thrown" "I") ∈ zU := zin4 (List.mem_of_getElem? (i := 76) rfl) rfl
theorem zm_4_77 : (Jvm.Cond.fieldLink "FlexibleBoxesModel" (20 : Nat) "FlexibleBoxesModel" "kids" "[I") ∈ zU := zin4 (List.mem_of_getElem? (i := 77) rfl) rfl
theorem zm_4_78 : (Jvm.Cond.fieldLink "FlexibleBoxesModel" (77 : Nat) "FlexibleBoxesModel" "kidMany" "I") ∈ zU := zin4 (List.mem_of_getElem? (i := 78) rfl) rfl
theorem zm_4_79 : (Jvm.Cond.fieldLink "FlexibleBoxesModel" (23 : Nat) "FlexibleBoxesModel" "isShown" "[Z") ∈ zU := zin4 (List.mem_of_getElem? (i := 79) rfl) rfl
theorem zm_4_80 : (Jvm.Cond.fieldLink "FlexibleBoxesModel" (26 : Nat) "FlexibleBoxesModel" "natural" "[I") ∈ zU := zin4 (List.mem_of_getElem? (i := 80) rfl) rfl
theorem zm_4_81 : (Jvm.Cond.fieldLink "FlexibleBoxesModel" (29 : Nat) "FlexibleBoxesModel" "size" "[I") ∈ zU := zin4 (List.mem_of_getElem? (i := 81) rfl) rfl
theorem zm_4_82 : (Jvm.Cond.fieldLink "FlexibleBoxesModel" (32 : Nat) "FlexibleBoxesModel" "place" "[I") ∈ zU := zin4 (List.mem_of_getElem? (i := 82) rfl) rfl
theorem zm_4_83 : (Jvm.Cond.fieldLink "FlexibleBoxesModel" (35 : Nat) "FlexibleBoxesModel" "lineAt" "[I") ∈ zU := zin4 (List.mem_of_getElem? (i := 83) rfl) rfl
theorem zm_4_84 : (Jvm.Cond.fieldLink "FlexibleBoxesModel" (38 : Nat) "FlexibleBoxesModel" "lineMany" "[I") ∈ zU := zin4 (List.mem_of_getElem? (i := 84) rfl) rfl
theorem zm_4_85 : (Jvm.Cond.fieldLink "FlexibleBoxesModel" (41 : Nat) "FlexibleBoxesModel" "isFixed" "[Z") ∈ zU := zin4 (List.mem_of_getElem? (i := 85) rfl) rfl
theorem zm_4_86 : (Jvm.Cond.fieldLink "FlexibleBoxesModel" (44 : Nat) "FlexibleBoxesModel" "factor" "[J") ∈ zU := zin4 (List.mem_of_getElem? (i := 86) rfl) rfl
theorem zm_4_87 : (Jvm.Cond.fieldLink "FlexibleBoxesModel" (48 : Nat) "FlexibleBoxesModel" "proposed" "[I") ∈ zU := zin4 (List.mem_of_getElem? (i := 87) rfl) rfl
theorem zm_4_88 : (Jvm.Cond.fieldLink "FlexibleBoxesModel" (51 : Nat) "FlexibleBoxesModel" "waiting" "[I") ∈ zU := zin4 (List.mem_of_getElem? (i := 88) rfl) rfl
theorem zm_4_122 : (Jvm.Cond.arrayClass Jvm.ClassFile.FieldType.long) ∈ zU := zin4 (List.mem_of_getElem? (i := 122) rfl) rfl
theorem zm_4_123 : (Jvm.Cond.methodLink "FlexibleBoxesLaw" (90 : Nat) ({ cls := "FlexibleBoxesModel", name := "thrown", desc := "()I" } : Jvm.MethodName)) ∈ zU := zin4 (List.mem_of_getElem? (i := 123) rfl) rfl
theorem zm_4_124 : (Jvm.Cond.instanceMethod ({ cls := "FlexibleBoxesModel", name := "thrown", desc := "()I" } : Jvm.MethodName)) ∈ zU := zin4 (List.mem_of_getElem? (i := 124) rfl) rfl
theorem zm_4_125 : (Jvm.Cond.selects "FlexibleBoxesModel" ({ cls := "FlexibleBoxesModel", name := "thrown", desc := "()I" } : Jvm.MethodName) ({ cls := "FlexibleBoxesModel", name := "thrown", desc := "()I" } : Jvm.MethodName)) ∈ zU := zin4 (List.mem_of_getElem? (i := 125) rfl) rfl
theorem zm_4_126 : (Jvm.Cond.code ({ cls := "FlexibleBoxesModel", name := "thrown", desc := "()I" } : Jvm.MethodName) prog_8_method_2_code (1 : Nat) (Option.some Jvm.ClassFile.FieldType.int)) ∈ zU := zin4 (List.mem_of_getElem? (i := 126) rfl) rfl
theorem zm_4_127 : (Jvm.Cond.methodLink "FlexibleBoxesLaw" (89 : Nat) ({ cls := "FlexibleBoxesModel", name := "add", desc := "(I)I" } : Jvm.MethodName)) ∈ zU := zin4 (List.mem_of_getElem? (i := 127) rfl) rfl
theorem zm_4_128 : (Jvm.Cond.instanceMethod ({ cls := "FlexibleBoxesModel", name := "add", desc := "(I)I" } : Jvm.MethodName)) ∈ zU := zin4 (List.mem_of_getElem? (i := 128) rfl) rfl
theorem zm_4_129 : (Jvm.Cond.selects "FlexibleBoxesModel" ({ cls := "FlexibleBoxesModel", name := "add", desc := "(I)I" } : Jvm.MethodName) ({ cls := "FlexibleBoxesModel", name := "add", desc := "(I)I" } : Jvm.MethodName)) ∈ zU := zin4 (List.mem_of_getElem? (i := 129) rfl) rfl
theorem zm_4_130 : (Jvm.Cond.code ({ cls := "FlexibleBoxesModel", name := "add", desc := "(I)I" } : Jvm.MethodName) prog_8_method_10_code (2 : Nat) (Option.some Jvm.ClassFile.FieldType.int)) ∈ zU := zin4 (List.mem_of_getElem? (i := 130) rfl) rfl
theorem zm_4_131 : (Jvm.Cond.methodLink "FlexibleBoxesModel" (69 : Nat) ({ cls := "FlexibleBoxesModel", name := "isBox", desc := "(I)Z" } : Jvm.MethodName)) ∈ zU := zin4 (List.mem_of_getElem? (i := 131) rfl) rfl
theorem zm_4_133 : (Jvm.Cond.instanceMethod ({ cls := "FlexibleBoxesModel", name := "isBox", desc := "(I)Z" } : Jvm.MethodName)) ∈ zU := zin4 (List.mem_of_getElem? (i := 133) rfl) rfl
theorem zm_4_134 : (Jvm.Cond.code ({ cls := "FlexibleBoxesModel", name := "isBox", desc := "(I)Z" } : Jvm.MethodName) prog_8_method_9_code (2 : Nat) (Option.some Jvm.ClassFile.FieldType.boolean)) ∈ zU := zin4 (List.mem_of_getElem? (i := 134) rfl) rfl
theorem zm_4_135 : (Jvm.Cond.methodLink "FlexibleBoxesModel" (65 : Nat) ({ cls := "FlexibleBoxesModel", name := "in", desc := "(III)Z" } : Jvm.MethodName)) ∈ zU := zin4 (List.mem_of_getElem? (i := 135) rfl) rfl
theorem zm_4_136 : (Jvm.Cond.static ({ cls := "FlexibleBoxesModel", name := "in", desc := "(III)Z" } : Jvm.MethodName)) ∈ zU := zin4 (List.mem_of_getElem? (i := 136) rfl) rfl
theorem zm_4_137 : (Jvm.Cond.code ({ cls := "FlexibleBoxesModel", name := "in", desc := "(III)Z" } : Jvm.MethodName) prog_8_method_3_code (3 : Nat) (Option.some Jvm.ClassFile.FieldType.boolean)) ∈ zU := zin4 (List.mem_of_getElem? (i := 137) rfl) rfl
theorem zm_4_138 : (Jvm.Cond.methodLink "FlexibleBoxesLaw" (96 : Nat) ({ cls := "FlexibleBoxesModel", name := "remove", desc := "(I)I" } : Jvm.MethodName)) ∈ zU := zin4 (List.mem_of_getElem? (i := 138) rfl) rfl
theorem zm_4_139 : (Jvm.Cond.instanceMethod ({ cls := "FlexibleBoxesModel", name := "remove", desc := "(I)I" } : Jvm.MethodName)) ∈ zU := zin4 (List.mem_of_getElem? (i := 139) rfl) rfl
theorem zm_4_140 : (Jvm.Cond.selects "FlexibleBoxesModel" ({ cls := "FlexibleBoxesModel", name := "remove", desc := "(I)I" } : Jvm.MethodName) ({ cls := "FlexibleBoxesModel", name := "remove", desc := "(I)I" } : Jvm.MethodName)) ∈ zU := zin4 (List.mem_of_getElem? (i := 140) rfl) rfl
theorem zm_4_141 : (Jvm.Cond.code ({ cls := "FlexibleBoxesModel", name := "remove", desc := "(I)I" } : Jvm.MethodName) prog_8_method_11_code (4 : Nat) (Option.some Jvm.ClassFile.FieldType.int)) ∈ zU := zin4 (List.mem_of_getElem? (i := 141) rfl) rfl
theorem zm_4_142 : (Jvm.Cond.methodLink "FlexibleBoxesLaw" (100 : Nat) ({ cls := "FlexibleBoxesModel", name := "boxes", desc := "()I" } : Jvm.MethodName)) ∈ zU := zin4 (List.mem_of_getElem? (i := 142) rfl) rfl
theorem zm_4_143 : (Jvm.Cond.instanceMethod ({ cls := "FlexibleBoxesModel", name := "boxes", desc := "()I" } : Jvm.MethodName)) ∈ zU := zin4 (List.mem_of_getElem? (i := 143) rfl) rfl
theorem zm_4_144 : (Jvm.Cond.selects "FlexibleBoxesModel" ({ cls := "FlexibleBoxesModel", name := "boxes", desc := "()I" } : Jvm.MethodName) ({ cls := "FlexibleBoxesModel", name := "boxes", desc := "()I" } : Jvm.MethodName)) ∈ zU := zin4 (List.mem_of_getElem? (i := 144) rfl) rfl
theorem zm_4_145 : (Jvm.Cond.code ({ cls := "FlexibleBoxesModel", name := "boxes", desc := "()I" } : Jvm.MethodName) prog_8_method_12_code (3 : Nat) (Option.some Jvm.ClassFile.FieldType.int)) ∈ zU := zin4 (List.mem_of_getElem? (i := 145) rfl) rfl
theorem zm_4_146 : (Jvm.Cond.methodLink "FlexibleBoxesLaw" (103 : Nat) ({ cls := "FlexibleBoxesModel", name := "parent", desc := "(I)I" } : Jvm.MethodName)) ∈ zU := zin4 (List.mem_of_getElem? (i := 146) rfl) rfl
theorem zm_4_147 : (Jvm.Cond.instanceMethod ({ cls := "FlexibleBoxesModel", name := "parent", desc := "(I)I" } : Jvm.MethodName)) ∈ zU := zin4 (List.mem_of_getElem? (i := 147) rfl) rfl
theorem zm_4_148 : (Jvm.Cond.selects "FlexibleBoxesModel" ({ cls := "FlexibleBoxesModel", name := "parent", desc := "(I)I" } : Jvm.MethodName) ({ cls := "FlexibleBoxesModel", name := "parent", desc := "(I)I" } : Jvm.MethodName)) ∈ zU := zin4 (List.mem_of_getElem? (i := 148) rfl) rfl
theorem zm_4_149 : (Jvm.Cond.code ({ cls := "FlexibleBoxesModel", name := "parent", desc := "(I)I" } : Jvm.MethodName) prog_8_method_13_code (2 : Nat) (Option.some Jvm.ClassFile.FieldType.int)) ∈ zU := zin4 (List.mem_of_getElem? (i := 149) rfl) rfl
theorem zm_4_150 : (Jvm.Cond.methodLink "FlexibleBoxesLaw" (107 : Nat) ({ cls := "FlexibleBoxesModel", name := "child", desc := "(II)I" } : Jvm.MethodName)) ∈ zU := zin4 (List.mem_of_getElem? (i := 150) rfl) rfl
theorem zm_4_151 : (Jvm.Cond.instanceMethod ({ cls := "FlexibleBoxesModel", name := "child", desc := "(II)I" } : Jvm.MethodName)) ∈ zU := zin4 (List.mem_of_getElem? (i := 151) rfl) rfl
theorem zm_4_152 : (Jvm.Cond.selects "FlexibleBoxesModel" ({ cls := "FlexibleBoxesModel", name := "child", desc := "(II)I" } : Jvm.MethodName) ({ cls := "FlexibleBoxesModel", name := "child", desc := "(II)I" } : Jvm.MethodName)) ∈ zU := zin4 (List.mem_of_getElem? (i := 152) rfl) rfl
theorem zm_4_153 : (Jvm.Cond.code ({ cls := "FlexibleBoxesModel", name := "child", desc := "(II)I" } : Jvm.MethodName) prog_8_method_18_code (3 : Nat) (Option.some Jvm.ClassFile.FieldType.int)) ∈ zU := zin4 (List.mem_of_getElem? (i := 153) rfl) rfl
theorem zm_4_154 : (Jvm.Cond.methodLink "FlexibleBoxesModel" (87 : Nat) ({ cls := "FlexibleBoxesModel", name := "layKids", desc := "(I)V" } : Jvm.MethodName)) ∈ zU := zin4 (List.mem_of_getElem? (i := 154) rfl) rfl
theorem zm_4_156 : (Jvm.Cond.instanceMethod ({ cls := "FlexibleBoxesModel", name := "layKids", desc := "(I)V" } : Jvm.MethodName)) ∈ zU := zin4 (List.mem_of_getElem? (i := 156) rfl) rfl
theorem zm_4_157 : (Jvm.Cond.code ({ cls := "FlexibleBoxesModel", name := "layKids", desc := "(I)V" } : Jvm.MethodName) prog_8_method_16_code (4 : Nat) (Option.none : Option Jvm.ClassFile.FieldType)) ∈ zU := zin4 (List.mem_of_getElem? (i := 157) rfl) rfl
theorem zm_4_158 : (Jvm.Cond.methodLink "FlexibleBoxesModel" (80 : Nat) ({ cls := "FlexibleBoxesModel", name := "isChild", desc := "(II)Z" } : Jvm.MethodName)) ∈ zU := zin4 (List.mem_of_getElem? (i := 158) rfl) rfl
theorem zm_4_160 : (Jvm.Cond.instanceMethod ({ cls := "FlexibleBoxesModel", name := "isChild", desc := "(II)Z" } : Jvm.MethodName)) ∈ zU := zin4 (List.mem_of_getElem? (i := 160) rfl) rfl
theorem zm_4_161 : (Jvm.Cond.code ({ cls := "FlexibleBoxesModel", name := "isChild", desc := "(II)Z" } : Jvm.MethodName) prog_8_method_14_code (3 : Nat) (Option.some Jvm.ClassFile.FieldType.boolean)) ∈ zU := zin4 (List.mem_of_getElem? (i := 161) rfl) rfl
theorem zm_4_162 : (Jvm.Cond.methodLink "FlexibleBoxesModel" (73 : Nat) ({ cls := "FlexibleBoxesModel", name := "of", desc := "(II)I" } : Jvm.MethodName)) ∈ zU := zin4 (List.mem_of_getElem? (i := 162) rfl) rfl
theorem zm_4_164 : (Jvm.Cond.instanceMethod ({ cls := "FlexibleBoxesModel", name := "of", desc := "(II)I" } : Jvm.MethodName)) ∈ zU := zin4 (List.mem_of_getElem? (i := 164) rfl) rfl
theorem zm_4_165 : (Jvm.Cond.code ({ cls := "FlexibleBoxesModel", name := "of", desc := "(II)I" } : Jvm.MethodName) prog_8_method_7_code (3 : Nat) (Option.some Jvm.ClassFile.FieldType.int)) ∈ zU := zin4 (List.mem_of_getElem? (i := 165) rfl) rfl
theorem zm_4_166 : (Jvm.Cond.methodLink "FlexibleBoxesModel" (84 : Nat) ({ cls := "FlexibleBoxesModel", name := "isAhead", desc := "(II)Z" } : Jvm.MethodName)) ∈ zU := zin4 (List.mem_of_getElem? (i := 166) rfl) rfl
theorem zm_4_168 : (Jvm.Cond.instanceMethod ({ cls := "FlexibleBoxesModel", name := "isAhead", desc := "(II)Z" } : Jvm.MethodName)) ∈ zU := zin4 (List.mem_of_getElem? (i := 168) rfl) rfl
theorem zm_4_169 : (Jvm.Cond.code ({ cls := "FlexibleBoxesModel", name := "isAhead", desc := "(II)Z" } : Jvm.MethodName) prog_8_method_15_code (4 : Nat) (Option.some Jvm.ClassFile.FieldType.boolean)) ∈ zU := zin4 (List.mem_of_getElem? (i := 169) rfl) rfl
theorem zm_4_170 : (Jvm.Cond.methodLink "FlexibleBoxesLaw" (111 : Nat) ({ cls := "FlexibleBoxesModel", name := "set", desc := "(III)I" } : Jvm.MethodName)) ∈ zU := zin4 (List.mem_of_getElem? (i := 170) rfl) rfl
theorem zm_4_171 : (Jvm.Cond.instanceMethod ({ cls := "FlexibleBoxesModel", name := "set", desc := "(III)I" } : Jvm.MethodName)) ∈ zU := zin4 (List.mem_of_getElem? (i := 171) rfl) rfl
theorem zm_4_172 : (Jvm.Cond.selects "FlexibleBoxesModel" ({ cls := "FlexibleBoxesModel", name := "set", desc := "(III)I" } : Jvm.MethodName) ({ cls := "FlexibleBoxesModel", name := "set", desc := "(III)I" } : Jvm.MethodName)) ∈ zU := zin4 (List.mem_of_getElem? (i := 172) rfl) rfl
theorem zm_4_173 : (Jvm.Cond.code ({ cls := "FlexibleBoxesModel", name := "set", desc := "(III)I" } : Jvm.MethodName) prog_8_method_19_code (5 : Nat) (Option.some Jvm.ClassFile.FieldType.int)) ∈ zU := zin4 (List.mem_of_getElem? (i := 173) rfl) rfl
theorem zm_4_174 : (Jvm.Cond.methodLink "FlexibleBoxesModel" (91 : Nat) ({ cls := "FlexibleBoxesModel", name := "low", desc := "(I)I" } : Jvm.MethodName)) ∈ zU := zin4 (List.mem_of_getElem? (i := 174) rfl) rfl
theorem zm_4_175 : (Jvm.Cond.static ({ cls := "FlexibleBoxesModel", name := "low", desc := "(I)I" } : Jvm.MethodName)) ∈ zU := zin4 (List.mem_of_getElem? (i := 175) rfl) rfl
theorem zm_4_176 : (Jvm.Cond.code ({ cls := "FlexibleBoxesModel", name := "low", desc := "(I)I" } : Jvm.MethodName) prog_8_method_4_code (1 : Nat) (Option.some Jvm.ClassFile.FieldType.int)) ∈ zU := zin4 (List.mem_of_getElem? (i := 176) rfl) rfl
theorem zm_4_177 : (Jvm.Cond.methodLink "FlexibleBoxesModel" (94 : Nat) ({ cls := "FlexibleBoxesModel", name := "high", desc := "(I)I" } : Jvm.MethodName)) ∈ zU := zin4 (List.mem_of_getElem? (i := 177) rfl) rfl
theorem zm_4_178 : (Jvm.Cond.static ({ cls := "FlexibleBoxesModel", name := "high", desc := "(I)I" } : Jvm.MethodName)) ∈ zU := zin4 (List.mem_of_getElem? (i := 178) rfl) rfl
theorem zm_4_179 : (Jvm.Cond.code ({ cls := "FlexibleBoxesModel", name := "high", desc := "(I)I" } : Jvm.MethodName) prog_8_method_5_code (1 : Nat) (Option.some Jvm.ClassFile.FieldType.int)) ∈ zU := zin4 (List.mem_of_getElem? (i := 179) rfl) rfl
theorem zm_4_180 : (Jvm.Cond.methodLink "FlexibleBoxesLaw" (114 : Nat) ({ cls := "FlexibleBoxesModel", name := "get", desc := "(II)I" } : Jvm.MethodName)) ∈ zU := zin4 (List.mem_of_getElem? (i := 180) rfl) rfl
theorem zm_4_181 : (Jvm.Cond.instanceMethod ({ cls := "FlexibleBoxesModel", name := "get", desc := "(II)I" } : Jvm.MethodName)) ∈ zU := zin4 (List.mem_of_getElem? (i := 181) rfl) rfl
theorem zm_4_182 : (Jvm.Cond.selects "FlexibleBoxesModel" ({ cls := "FlexibleBoxesModel", name := "get", desc := "(II)I" } : Jvm.MethodName) ({ cls := "FlexibleBoxesModel", name := "get", desc := "(II)I" } : Jvm.MethodName)) ∈ zU := zin4 (List.mem_of_getElem? (i := 182) rfl) rfl
theorem zm_4_183 : (Jvm.Cond.code ({ cls := "FlexibleBoxesModel", name := "get", desc := "(II)I" } : Jvm.MethodName) prog_8_method_20_code (3 : Nat) (Option.some Jvm.ClassFile.FieldType.int)) ∈ zU := zin4 (List.mem_of_getElem? (i := 183) rfl) rfl
theorem zm_4_184 : (Jvm.Cond.methodLink "FlexibleBoxesLaw" (117 : Nat) ({ cls := "FlexibleBoxesModel", name := "copyStyle", desc := "(II)I" } : Jvm.MethodName)) ∈ zU := zin4 (List.mem_of_getElem? (i := 184) rfl) rfl
theorem zm_4_185 : (Jvm.Cond.instanceMethod ({ cls := "FlexibleBoxesModel", name := "copyStyle", desc := "(II)I" } : Jvm.MethodName)) ∈ zU := zin4 (List.mem_of_getElem? (i := 185) rfl) rfl
theorem zm_4_186 : (Jvm.Cond.selects "FlexibleBoxesModel" ({ cls := "FlexibleBoxesModel", name := "copyStyle", desc := "(II)I" } : Jvm.MethodName) ({ cls := "FlexibleBoxesModel", name := "copyStyle", desc := "(II)I" } : Jvm.MethodName)) ∈ zU := zin4 (List.mem_of_getElem? (i := 186) rfl) rfl
theorem zm_4_187 : (Jvm.Cond.code ({ cls := "FlexibleBoxesModel", name := "copyStyle", desc := "(II)I" } : Jvm.MethodName) prog_8_method_21_code (5 : Nat) (Option.some Jvm.ClassFile.FieldType.int)) ∈ zU := zin4 (List.mem_of_getElem? (i := 187) rfl) rfl
theorem zm_4_188 : (Jvm.Cond.methodLink "FlexibleBoxesLaw" (121 : Nat) ({ cls := "FlexibleBoxesModel", name := "viewport", desc := "(II)V" } : Jvm.MethodName)) ∈ zU := zin4 (List.mem_of_getElem? (i := 188) rfl) rfl
theorem zm_4_189 : (Jvm.Cond.instanceMethod ({ cls := "FlexibleBoxesModel", name := "viewport", desc := "(II)V" } : Jvm.MethodName)) ∈ zU := zin4 (List.mem_of_getElem? (i := 189) rfl) rfl
theorem zm_4_190 : (Jvm.Cond.selects "FlexibleBoxesModel" ({ cls := "FlexibleBoxesModel", name := "viewport", desc := "(II)V" } : Jvm.MethodName) ({ cls := "FlexibleBoxesModel", name := "viewport", desc := "(II)V" } : Jvm.MethodName)) ∈ zU := zin4 (List.mem_of_getElem? (i := 190) rfl) rfl
theorem zm_4_191 : (Jvm.Cond.code ({ cls := "FlexibleBoxesModel", name := "viewport", desc := "(II)V" } : Jvm.MethodName) prog_8_method_22_code (3 : Nat) (Option.none : Option Jvm.ClassFile.FieldType)) ∈ zU := zin4 (List.mem_of_getElem? (i := 191) rfl) rfl
theorem zm_4_192 : (Jvm.Cond.methodLink "FlexibleBoxesLaw" (124 : Nat) ({ cls := "FlexibleBoxesModel", name := "x", desc := "(I)I" } : Jvm.MethodName)) ∈ zU := zin4 (List.mem_of_getElem? (i := 192) rfl) rfl
theorem zm_4_193 : (Jvm.Cond.instanceMethod ({ cls := "FlexibleBoxesModel", name := "x", desc := "(I)I" } : Jvm.MethodName)) ∈ zU := zin4 (List.mem_of_getElem? (i := 193) rfl) rfl
theorem zm_4_194 : (Jvm.Cond.selects "FlexibleBoxesModel" ({ cls := "FlexibleBoxesModel", name := "x", desc := "(I)I" } : Jvm.MethodName) ({ cls := "FlexibleBoxesModel", name := "x", desc := "(I)I" } : Jvm.MethodName)) ∈ zU := zin4 (List.mem_of_getElem? (i := 194) rfl) rfl
theorem zm_4_195 : (Jvm.Cond.code ({ cls := "FlexibleBoxesModel", name := "x", desc := "(I)I" } : Jvm.MethodName) prog_8_method_57_code (2 : Nat) (Option.some Jvm.ClassFile.FieldType.int)) ∈ zU := zin4 (List.mem_of_getElem? (i := 195) rfl) rfl
theorem zm_4_196 : (Jvm.Cond.methodLink "FlexibleBoxesModel" (208 : Nat) ({ cls := "FlexibleBoxesModel", name := "hasLayout", desc := "(I)Z" } : Jvm.MethodName)) ∈ zU := zin4 (List.mem_of_getElem? (i := 196) rfl) rfl
theorem zm_4_198 : (Jvm.Cond.instanceMethod ({ cls := "FlexibleBoxesModel", name := "hasLayout", desc := "(I)Z" } : Jvm.MethodName)) ∈ zU := zin4 (List.mem_of_getElem? (i := 198) rfl) rfl
theorem zm_4_199 : (Jvm.Cond.code ({ cls := "FlexibleBoxesModel", name := "hasLayout", desc := "(I)Z" } : Jvm.MethodName) prog_8_method_56_code (2 : Nat) (Option.some Jvm.ClassFile.FieldType.boolean)) ∈ zU := zin4 (List.mem_of_getElem? (i := 199) rfl) rfl
theorem zm_4_200 : (Jvm.Cond.methodLink "FlexibleBoxesModel" (190 : Nat) ({ cls := "FlexibleBoxesModel", name := "findShown", desc := "()V" } : Jvm.MethodName)) ∈ zU := zin4 (List.mem_of_getElem? (i := 200) rfl) rfl
theorem zm_4_202 : (Jvm.Cond.instanceMethod ({ cls := "FlexibleBoxesModel", name := "findShown", desc := "()V" } : Jvm.MethodName)) ∈ zU := zin4 (List.mem_of_getElem? (i := 202) rfl) rfl
theorem zm_4_203 : (Jvm.Cond.code ({ cls := "FlexibleBoxesModel", name := "findShown", desc := "()V" } : Jvm.MethodName) prog_8_method_23_code (2 : Nat) (Option.none : Option Jvm.ClassFile.FieldType)) ∈ zU := zin4 (List.mem_of_getElem? (i := 203) rfl) rfl
theorem zm_4_204 : (Jvm.Cond.methodLink "FlexibleBoxesModel" (205 : Nat) ({ cls := "FlexibleBoxesModel", name := "layOut", desc := "()V" } : Jvm.MethodName)) ∈ zU := zin4 (List.mem_of_getElem? (i := 204) rfl) rfl
theorem zm_4_206 : (Jvm.Cond.instanceMethod ({ cls := "FlexibleBoxesModel", name := "layOut", desc := "()V" } : Jvm.MethodName)) ∈ zU := zin4 (List.mem_of_getElem? (i := 206) rfl) rfl
theorem zm_4_207 : (Jvm.Cond.code ({ cls := "FlexibleBoxesModel", name := "layOut", desc := "()V" } : Jvm.MethodName) prog_8_method_55_code (1 : Nat) (Option.none : Option Jvm.ClassFile.FieldType)) ∈ zU := zin4 (List.mem_of_getElem? (i := 207) rfl) rfl
theorem zm_4_208 : (Jvm.Cond.methodLink "FlexibleBoxesModel" (193 : Nat) ({ cls := "FlexibleBoxesModel", name := "findNaturalWidths", desc := "()V" } : Jvm.MethodName)) ∈ zU := zin4 (List.mem_of_getElem? (i := 208) rfl) rfl
theorem zm_4_210 : (Jvm.Cond.instanceMethod ({ cls := "FlexibleBoxesModel", name := "findNaturalWidths", desc := "()V" } : Jvm.MethodName)) ∈ zU := zin4 (List.mem_of_getElem? (i := 210) rfl) rfl
theorem zm_4_211 : (Jvm.Cond.code ({ cls := "FlexibleBoxesModel", name := "findNaturalWidths", desc := "()V" } : Jvm.MethodName) prog_8_method_31_code (3 : Nat) (Option.none : Option Jvm.ClassFile.FieldType)) ∈ zU := zin4 (List.mem_of_getElem? (i := 211) rfl) rfl
theorem zm_4_212 : (Jvm.Cond.methodLink "FlexibleBoxesModel" (110 : Nat) ({ cls := "FlexibleBoxesModel", name := "isLeaf", desc := "(I)Z" } : Jvm.MethodName)) ∈ zU := zin4 (List.mem_of_getElem? (i := 212) rfl) rfl
theorem zm_4_214 : (Jvm.Cond.instanceMethod ({ cls := "FlexibleBoxesModel", name := "isLeaf", desc := "(I)Z" } : Jvm.MethodName)) ∈ zU := zin4 (List.mem_of_getElem? (i := 214) rfl) rfl
theorem zm_4_215 : (Jvm.Cond.code ({ cls := "FlexibleBoxesModel", name := "isLeaf", desc := "(I)Z" } : Jvm.MethodName) prog_8_method_17_code (3 : Nat) (Option.some Jvm.ClassFile.FieldType.boolean)) ∈ zU := zin4 (List.mem_of_getElem? (i := 215) rfl) rfl
theorem zm_4_216 : (Jvm.Cond.methodLink "FlexibleBoxesModel" (113 : Nat) ({ cls := "FlexibleBoxesModel", name := "content", desc := "(IIZ)I" } : Jvm.MethodName)) ∈ zU := zin4 (List.mem_of_getElem? (i := 216) rfl) rfl
theorem zm_4_218 : (Jvm.Cond.instanceMethod ({ cls := "FlexibleBoxesModel", name := "content", desc := "(IIZ)I" } : Jvm.MethodName)) ∈ zU := zin4 (List.mem_of_getElem? (i := 218) rfl) rfl
theorem zm_4_219 : (Jvm.Cond.code ({ cls := "FlexibleBoxesModel", name := "content", desc := "(IIZ)I" } : Jvm.MethodName) prog_8_method_29_code (8 : Nat) (Option.some Jvm.ClassFile.FieldType.int)) ∈ zU := zin4 (List.mem_of_getElem? (i := 219) rfl) rfl
theorem zm_4_220 : (Jvm.Cond.methodLink "FlexibleBoxesModel" (100 : Nat) ({ cls := "FlexibleBoxesModel", name := "outer", desc := "(II)I" } : Jvm.MethodName)) ∈ zU := zin4 (List.mem_of_getElem? (i := 220) rfl) rfl
theorem zm_4_222 : (Jvm.Cond.instanceMethod ({ cls := "FlexibleBoxesModel", name := "outer", desc := "(II)I" } : Jvm.MethodName)) ∈ zU := zin4 (List.mem_of_getElem? (i := 222) rfl) rfl
theorem zm_4_223 : (Jvm.Cond.code ({ cls := "FlexibleBoxesModel", name := "outer", desc := "(II)I" } : Jvm.MethodName) prog_8_method_27_code (3 : Nat) (Option.some Jvm.ClassFile.FieldType.int)) ∈ zU := zin4 (List.mem_of_getElem? (i := 223) rfl) rfl
theorem zm_4_224 : (Jvm.Cond.methodLink "FlexibleBoxesModel" (103 : Nat) ({ cls := "FlexibleBoxesModel", name := "gapsOf", desc := "(II)I" } : Jvm.MethodName)) ∈ zU := zin4 (List.mem_of_getElem? (i := 224) rfl) rfl
theorem zm_4_226 : (Jvm.Cond.instanceMethod ({ cls := "FlexibleBoxesModel", name := "gapsOf", desc := "(II)I" } : Jvm.MethodName)) ∈ zU := zin4 (List.mem_of_getElem? (i := 226) rfl) rfl
theorem zm_4_227 : (Jvm.Cond.code ({ cls := "FlexibleBoxesModel", name := "gapsOf", desc := "(II)I" } : Jvm.MethodName) prog_8_method_28_code (3 : Nat) (Option.some Jvm.ClassFile.FieldType.int)) ∈ zU := zin4 (List.mem_of_getElem? (i := 227) rfl) rfl
theorem zm_4_228 : (Jvm.Cond.methodLink "FlexibleBoxesModel" (117 : Nat) ({ cls := "FlexibleBoxesModel", name := "setNatural", desc := "(III)V" } : Jvm.MethodName)) ∈ zU := zin4 (List.mem_of_getElem? (i := 228) rfl) rfl
theorem zm_4_230 : (Jvm.Cond.instanceMethod ({ cls := "FlexibleBoxesModel", name := "setNatural", desc := "(III)V" } : Jvm.MethodName)) ∈ zU := zin4 (List.mem_of_getElem? (i := 230) rfl) rfl
theorem zm_4_231 : (Jvm.Cond.code ({ cls := "FlexibleBoxesModel", name := "setNatural", desc := "(III)V" } : Jvm.MethodName) prog_8_method_30_code (6 : Nat) (Option.none : Option Jvm.ClassFile.FieldType)) ∈ zU := zin4 (List.mem_of_getElem? (i := 231) rfl) rfl
theorem zm_4_232 : (Jvm.Cond.methodLink "FlexibleBoxesModel" (106 : Nat) ({ cls := "FlexibleBoxesModel", name := "limited", desc := "(III)I" } : Jvm.MethodName)) ∈ zU := zin4 (List.mem_of_getElem? (i := 232) rfl) rfl
theorem zm_4_234 : (Jvm.Cond.instanceMethod ({ cls := "FlexibleBoxesModel", name := "limited", desc := "(III)I" } : Jvm.MethodName)) ∈ zU := zin4 (List.mem_of_getElem? (i := 234) rfl) rfl
theorem zm_4_235 : (Jvm.Cond.code ({ cls := "FlexibleBoxesModel", name := "limited", desc := "(III)I" } : Jvm.MethodName) prog_8_method_24_code (7 : Nat) (Option.some Jvm.ClassFile.FieldType.int)) ∈ zU := zin4 (List.mem_of_getElem? (i := 235) rfl) rfl
theorem zm_4_236 : (Jvm.Cond.methodLink "FlexibleBoxesModel" (196 : Nat) ({ cls := "FlexibleBoxesModel", name := "findWidths", desc := "()V" } : Jvm.MethodName)) ∈ zU := zin4 (List.mem_of_getElem? (i := 236) rfl) rfl
theorem zm_4_238 : (Jvm.Cond.instanceMethod ({ cls := "FlexibleBoxesModel", name := "findWidths", desc := "()V" } : Jvm.MethodName)) ∈ zU := zin4 (List.mem_of_getElem? (i := 238) rfl) rfl
theorem zm_4_239 : (Jvm.Cond.code ({ cls := "FlexibleBoxesModel", name := "findWidths", desc := "()V" } : Jvm.MethodName) prog_8_method_44_code (2 : Nat) (Option.none : Option Jvm.ClassFile.FieldType)) ∈ zU := zin4 (List.mem_of_getElem? (i := 239) rfl) rfl
theorem zm_5_0 : (Jvm.Cond.methodLink "FlexibleBoxesModel" (154 : Nat) ({ cls := "FlexibleBoxesModel", name := "textLines", desc := "(I)I" } : Jvm.MethodName)) ∈ zU := zin5 (List.mem_of_getElem? (i := 0) rfl) rfl
theorem zm_5_2 : (Jvm.Cond.instanceMethod ({ cls := "FlexibleBoxesModel", name := "textLines", desc := "(I)I" } : Jvm.MethodName)) ∈ zU := zin5 (List.mem_of_getElem? (i := 2) rfl) rfl
theorem zm_5_3 : (Jvm.Cond.code ({ cls := "FlexibleBoxesModel", name := "textLines", desc := "(I)I" } : Jvm.MethodName) prog_8_method_43_code (3 : Nat) (Option.some Jvm.ClassFile.FieldType.int)) ∈ zU := zin5 (List.mem_of_getElem? (i := 3) rfl) rfl
theorem zm_5_4 : (Jvm.Cond.methodLink "FlexibleBoxesModel" (141 : Nat) ({ cls := "FlexibleBoxesModel", name := "inner", desc := "(II)I" } : Jvm.MethodName)) ∈ zU := zin5 (List.mem_of_getElem? (i := 4) rfl) rfl
theorem zm_5_6 : (Jvm.Cond.instanceMethod ({ cls := "FlexibleBoxesModel", name := "inner", desc := "(II)I" } : Jvm.MethodName)) ∈ zU := zin5 (List.mem_of_getElem? (i := 6) rfl) rfl
theorem zm_5_7 : (Jvm.Cond.code ({ cls := "FlexibleBoxesModel", name := "inner", desc := "(II)I" } : Jvm.MethodName) prog_8_method_26_code (3 : Nat) (Option.some Jvm.ClassFile.FieldType.int)) ∈ zU := zin5 (List.mem_of_getElem? (i := 7) rfl) rfl
theorem zm_5_8 : (Jvm.Cond.methodLink "FlexibleBoxesModel" (97 : Nat) ({ cls := "FlexibleBoxesModel", name := "notNegative", desc := "(I)I" } : Jvm.MethodName)) ∈ zU := zin5 (List.mem_of_getElem? (i := 8) rfl) rfl
theorem zm_5_9 : (Jvm.Cond.static ({ cls := "FlexibleBoxesModel", name := "notNegative", desc := "(I)I" } : Jvm.MethodName)) ∈ zU := zin5 (List.mem_of_getElem? (i := 9) rfl) rfl
theorem zm_5_10 : (Jvm.Cond.code ({ cls := "FlexibleBoxesModel", name := "notNegative", desc := "(I)I" } : Jvm.MethodName) prog_8_method_25_code (1 : Nat) (Option.some Jvm.ClassFile.FieldType.int)) ∈ zU := zin5 (List.mem_of_getElem? (i := 10) rfl) rfl
theorem zm_5_11 : (Jvm.Cond.methodLink "FlexibleBoxesModel" (157 : Nat) ({ cls := "FlexibleBoxesModel", name := "findColumnWidths", desc := "(I)V" } : Jvm.MethodName)) ∈ zU := zin5 (List.mem_of_getElem? (i := 11) rfl) rfl
theorem zm_5_13 : (Jvm.Cond.instanceMethod ({ cls := "FlexibleBoxesModel", name := "findColumnWidths", desc := "(I)V" } : Jvm.MethodName)) ∈ zU := zin5 (List.mem_of_getElem? (i := 13) rfl) rfl
theorem zm_5_14 : (Jvm.Cond.code ({ cls := "FlexibleBoxesModel", name := "findColumnWidths", desc := "(I)V" } : Jvm.MethodName) prog_8_method_42_code (7 : Nat) (Option.none : Option Jvm.ClassFile.FieldType)) ∈ zU := zin5 (List.mem_of_getElem? (i := 14) rfl) rfl
theorem zm_5_15 : (Jvm.Cond.methodLink "FlexibleBoxesModel" (151 : Nat) ({ cls := "FlexibleBoxesModel", name := "alignment", desc := "(I)I" } : Jvm.MethodName)) ∈ zU := zin5 (List.mem_of_getElem? (i := 15) rfl) rfl
theorem zm_5_17 : (Jvm.Cond.instanceMethod ({ cls := "FlexibleBoxesModel", name := "alignment", desc := "(I)I" } : Jvm.MethodName)) ∈ zU := zin5 (List.mem_of_getElem? (i := 17) rfl) rfl
theorem zm_5_18 : (Jvm.Cond.code ({ cls := "FlexibleBoxesModel", name := "alignment", desc := "(I)I" } : Jvm.MethodName) prog_8_method_32_code (2 : Nat) (Option.some Jvm.ClassFile.FieldType.int)) ∈ zU := zin5 (List.mem_of_getElem? (i := 18) rfl) rfl
theorem zm_5_19 : (Jvm.Cond.methodLink "FlexibleBoxesModel" (160 : Nat) ({ cls := "FlexibleBoxesModel", name := "findLines", desc := "(I)V" } : Jvm.MethodName)) ∈ zU := zin5 (List.mem_of_getElem? (i := 19) rfl) rfl
theorem zm_5_21 : (Jvm.Cond.instanceMethod ({ cls := "FlexibleBoxesModel", name := "findLines", desc := "(I)V" } : Jvm.MethodName)) ∈ zU := zin5 (List.mem_of_getElem? (i := 21) rfl) rfl
theorem zm_5_22 : (Jvm.Cond.code ({ cls := "FlexibleBoxesModel", name := "findLines", desc := "(I)V" } : Jvm.MethodName) prog_8_method_41_code (6 : Nat) (Option.none : Option Jvm.ClassFile.FieldType)) ∈ zU := zin5 (List.mem_of_getElem? (i := 22) rfl) rfl
theorem zm_5_23 : (Jvm.Cond.methodLink "FlexibleBoxesModel" (144 : Nat) ({ cls := "FlexibleBoxesModel", name := "endOfLine", desc := "(II)I" } : Jvm.MethodName)) ∈ zU := zin5 (List.mem_of_getElem? (i := 23) rfl) rfl
theorem zm_5_25 : (Jvm.Cond.instanceMethod ({ cls := "FlexibleBoxesModel", name := "endOfLine", desc := "(II)I" } : Jvm.MethodName)) ∈ zU := zin5 (List.mem_of_getElem? (i := 25) rfl) rfl
theorem zm_5_26 : (Jvm.Cond.code ({ cls := "FlexibleBoxesModel", name := "endOfLine", desc := "(II)I" } : Jvm.MethodName) prog_8_method_40_code (8 : Nat) (Option.some Jvm.ClassFile.FieldType.int)) ∈ zU := zin5 (List.mem_of_getElem? (i := 26) rfl) rfl
theorem zm_5_27 : (Jvm.Cond.methodLink "FlexibleBoxesModel" (124 : Nat) ({ cls := "FlexibleBoxesModel", name := "startOf", desc := "(II)I" } : Jvm.MethodName)) ∈ zU := zin5 (List.mem_of_getElem? (i := 27) rfl) rfl
theorem zm_5_29 : (Jvm.Cond.instanceMethod ({ cls := "FlexibleBoxesModel", name := "startOf", desc := "(II)I" } : Jvm.MethodName)) ∈ zU := zin5 (List.mem_of_getElem? (i := 29) rfl) rfl
theorem zm_5_30 : (Jvm.Cond.code ({ cls := "FlexibleBoxesModel", name := "startOf", desc := "(II)I" } : Jvm.MethodName) prog_8_method_34_code (3 : Nat) (Option.some Jvm.ClassFile.FieldType.int)) ∈ zU := zin5 (List.mem_of_getElem? (i := 30) rfl) rfl
theorem zm_5_31 : (Jvm.Cond.methodLink "FlexibleBoxesModel" (121 : Nat) ({ cls := "FlexibleBoxesModel", name := "baseOf", desc := "(II)I" } : Jvm.MethodName)) ∈ zU := zin5 (List.mem_of_getElem? (i := 31) rfl) rfl
theorem zm_5_33 : (Jvm.Cond.instanceMethod ({ cls := "FlexibleBoxesModel", name := "baseOf", desc := "(II)I" } : Jvm.MethodName)) ∈ zU := zin5 (List.mem_of_getElem? (i := 33) rfl) rfl
theorem zm_5_34 : (Jvm.Cond.code ({ cls := "FlexibleBoxesModel", name := "baseOf", desc := "(II)I" } : Jvm.MethodName) prog_8_method_33_code (3 : Nat) (Option.some Jvm.ClassFile.FieldType.int)) ∈ zU := zin5 (List.mem_of_getElem? (i := 34) rfl) rfl
theorem zm_5_35 : (Jvm.Cond.methodLink "FlexibleBoxesModel" (147 : Nat) ({ cls := "FlexibleBoxesModel", name := "flex", desc := "(IIIII)V" } : Jvm.MethodName)) ∈ zU := zin5 (List.mem_of_getElem? (i := 35) rfl) rfl
theorem zm_5_37 : (Jvm.Cond.instanceMethod ({ cls := "FlexibleBoxesModel", name := "flex", desc := "(IIIII)V" } : Jvm.MethodName)) ∈ zU := zin5 (List.mem_of_getElem? (i := 37) rfl) rfl
theorem zm_5_38 : (Jvm.Cond.code ({ cls := "FlexibleBoxesModel", name := "flex", desc := "(IIIII)V" } : Jvm.MethodName) prog_8_method_39_code (9 : Nat) (Option.none : Option Jvm.ClassFile.FieldType)) ∈ zU := zin5 (List.mem_of_getElem? (i := 38) rfl) rfl
theorem zm_5_39 : (Jvm.Cond.methodLink "FlexibleBoxesModel" (130 : Nat) ({ cls := "FlexibleBoxesModel", name := "beginFlex", desc := "(IIIII)Z" } : Jvm.MethodName)) ∈ zU := zin5 (List.mem_of_getElem? (i := 39) rfl) rfl
theorem zm_5_41 : (Jvm.Cond.instanceMethod ({ cls := "FlexibleBoxesModel", name := "beginFlex", desc := "(IIIII)Z" } : Jvm.MethodName)) ∈ zU := zin5 (List.mem_of_getElem? (i := 41) rfl) rfl
theorem zm_5_42 : (Jvm.Cond.code ({ cls := "FlexibleBoxesModel", name := "beginFlex", desc := "(IIIII)Z" } : Jvm.MethodName) prog_8_method_35_code (12 : Nat) (Option.some Jvm.ClassFile.FieldType.boolean)) ∈ zU := zin5 (List.mem_of_getElem? (i := 42) rfl) rfl
theorem zm_5_43 : (Jvm.Cond.methodLink "FlexibleBoxesModel" (134 : Nat) ({ cls := "FlexibleBoxesModel", name := "propose", desc := "(IIIIIZ)V" } : Jvm.MethodName)) ∈ zU := zin5 (List.mem_of_getElem? (i := 43) rfl) rfl
theorem zm_5_45 : (Jvm.Cond.instanceMethod ({ cls := "FlexibleBoxesModel", name := "propose", desc := "(IIIIIZ)V" } : Jvm.MethodName)) ∈ zU := zin5 (List.mem_of_getElem? (i := 45) rfl) rfl
theorem zm_5_46 : (Jvm.Cond.code ({ cls := "FlexibleBoxesModel", name := "propose", desc := "(IIIIIZ)V" } : Jvm.MethodName) prog_8_method_36_code (21 : Nat) (Option.none : Option Jvm.ClassFile.FieldType)) ∈ zU := zin5 (List.mem_of_getElem? (i := 46) rfl) rfl
theorem zm_5_47 : (Jvm.Cond.methodLink "FlexibleBoxesModel" (138 : Nat) ({ cls := "FlexibleBoxesModel", name := "fixSome", desc := "(III)I" } : Jvm.MethodName)) ∈ zU := zin5 (List.mem_of_getElem? (i := 47) rfl) rfl
theorem zm_5_49 : (Jvm.Cond.instanceMethod ({ cls := "FlexibleBoxesModel", name := "fixSome", desc := "(III)I" } : Jvm.MethodName)) ∈ zU := zin5 (List.mem_of_getElem? (i := 49) rfl) rfl
theorem zm_5_50 : (Jvm.Cond.code ({ cls := "FlexibleBoxesModel", name := "fixSome", desc := "(III)I" } : Jvm.MethodName) prog_8_method_38_code (10 : Nat) (Option.some Jvm.ClassFile.FieldType.int)) ∈ zU := zin5 (List.mem_of_getElem? (i := 50) rfl) rfl
theorem zm_5_51 : (Jvm.Cond.methodLink "FlexibleBoxesModel" (127 : Nat) ({ cls := "FlexibleBoxesModel", name := "deviation", desc := "(II)I" } : Jvm.MethodName)) ∈ zU := zin5 (List.mem_of_getElem? (i := 51) rfl) rfl
theorem zm_5_53 : (Jvm.Cond.instanceMethod ({ cls := "FlexibleBoxesModel", name := "deviation", desc := "(II)I" } : Jvm.MethodName)) ∈ zU := zin5 (List.mem_of_getElem? (i := 53) rfl) rfl
theorem zm_5_54 : (Jvm.Cond.code ({ cls := "FlexibleBoxesModel", name := "deviation", desc := "(II)I" } : Jvm.MethodName) prog_8_method_37_code (3 : Nat) (Option.some Jvm.ClassFile.FieldType.int)) ∈ zU := zin5 (List.mem_of_getElem? (i := 54) rfl) rfl
theorem zm_5_55 : (Jvm.Cond.methodLink "FlexibleBoxesModel" (199 : Nat) ({ cls := "FlexibleBoxesModel", name := "findNaturalHeights", desc := "()V" } : Jvm.MethodName)) ∈ zU := zin5 (List.mem_of_getElem? (i := 55) rfl) rfl
theorem zm_5_57 : (Jvm.Cond.instanceMethod ({ cls := "FlexibleBoxesModel", name := "findNaturalHeights", desc := "()V" } : Jvm.MethodName)) ∈ zU := zin5 (List.mem_of_getElem? (i := 57) rfl) rfl
theorem zm_5_58 : (Jvm.Cond.code ({ cls := "FlexibleBoxesModel", name := "findNaturalHeights", desc := "()V" } : Jvm.MethodName) prog_8_method_47_code (3 : Nat) (Option.none : Option Jvm.ClassFile.FieldType)) ∈ zU := zin5 (List.mem_of_getElem? (i := 58) rfl) rfl
theorem zm_5_59 : (Jvm.Cond.methodLink "FlexibleBoxesModel" (166 : Nat) ({ cls := "FlexibleBoxesModel", name := "rowContent", desc := "(I)I" } : Jvm.MethodName)) ∈ zU := zin5 (List.mem_of_getElem? (i := 59) rfl) rfl
theorem zm_5_61 : (Jvm.Cond.instanceMethod ({ cls := "FlexibleBoxesModel", name := "rowContent", desc := "(I)I" } : Jvm.MethodName)) ∈ zU := zin5 (List.mem_of_getElem? (i := 61) rfl) rfl
theorem zm_5_62 : (Jvm.Cond.code ({ cls := "FlexibleBoxesModel", name := "rowContent", desc := "(I)I" } : Jvm.MethodName) prog_8_method_46_code (4 : Nat) (Option.some Jvm.ClassFile.FieldType.int)) ∈ zU := zin5 (List.mem_of_getElem? (i := 62) rfl) rfl
theorem zm_5_63 : (Jvm.Cond.methodLink "FlexibleBoxesModel" (163 : Nat) ({ cls := "FlexibleBoxesModel", name := "lineHeight", desc := "(I)I" } : Jvm.MethodName)) ∈ zU := zin5 (List.mem_of_getElem? (i := 63) rfl) rfl
theorem zm_5_65 : (Jvm.Cond.instanceMethod ({ cls := "FlexibleBoxesModel", name := "lineHeight", desc := "(I)I" } : Jvm.MethodName)) ∈ zU := zin5 (List.mem_of_getElem? (i := 65) rfl) rfl
theorem zm_5_66 : (Jvm.Cond.code ({ cls := "FlexibleBoxesModel", name := "lineHeight", desc := "(I)I" } : Jvm.MethodName) prog_8_method_45_code (5 : Nat) (Option.some Jvm.ClassFile.FieldType.int)) ∈ zU := zin5 (List.mem_of_getElem? (i := 66) rfl) rfl
theorem zm_5_67 : (Jvm.Cond.methodLink "FlexibleBoxesModel" (202 : Nat) ({ cls := "FlexibleBoxesModel", name := "findPlaces", desc := "()V" } : Jvm.MethodName)) ∈ zU := zin5 (List.mem_of_getElem? (i := 67) rfl) rfl
theorem zm_5_69 : (Jvm.Cond.instanceMethod ({ cls := "FlexibleBoxesModel", name := "findPlaces", desc := "()V" } : Jvm.MethodName)) ∈ zU := zin5 (List.mem_of_getElem? (i := 69) rfl) rfl
theorem zm_5_70 : (Jvm.Cond.code ({ cls := "FlexibleBoxesModel", name := "findPlaces", desc := "()V" } : Jvm.MethodName) prog_8_method_54_code (2 : Nat) (Option.none : Option Jvm.ClassFile.FieldType)) ∈ zU := zin5 (List.mem_of_getElem? (i := 70) rfl) rfl
theorem zm_5_71 : (Jvm.Cond.methodLink "FlexibleBoxesModel" (184 : Nat) ({ cls := "FlexibleBoxesModel", name := "placeColumn", desc := "(I)V" } : Jvm.MethodName)) ∈ zU := zin5 (List.mem_of_getElem? (i := 71) rfl) rfl
theorem zm_5_73 : (Jvm.Cond.instanceMethod ({ cls := "FlexibleBoxesModel", name := "placeColumn", desc := "(I)V" } : Jvm.MethodName)) ∈ zU := zin5 (List.mem_of_getElem? (i := 73) rfl) rfl
theorem zm_5_74 : (Jvm.Cond.code ({ cls := "FlexibleBoxesModel", name := "placeColumn", desc := "(I)V" } : Jvm.MethodName) prog_8_method_51_code (3 : Nat) (Option.none : Option Jvm.ClassFile.FieldType)) ∈ zU := zin5 (List.mem_of_getElem? (i := 74) rfl) rfl
theorem zm_5_75 : (Jvm.Cond.methodLink "FlexibleBoxesModel" (173 : Nat) ({ cls := "FlexibleBoxesModel", name := "justify", desc := "(IIII)V" } : Jvm.MethodName)) ∈ zU := zin5 (List.mem_of_getElem? (i := 75) rfl) rfl
theorem zm_5_77 : (Jvm.Cond.instanceMethod ({ cls := "FlexibleBoxesModel", name := "justify", desc := "(IIII)V" } : Jvm.MethodName)) ∈ zU := zin5 (List.mem_of_getElem? (i := 77) rfl) rfl
theorem zm_5_78 : (Jvm.Cond.code ({ cls := "FlexibleBoxesModel", name := "justify", desc := "(IIII)V" } : Jvm.MethodName) prog_8_method_49_code (10 : Nat) (Option.none : Option Jvm.ClassFile.FieldType)) ∈ zU := zin5 (List.mem_of_getElem? (i := 78) rfl) rfl
theorem zm_5_79 : (Jvm.Cond.methodLink "FlexibleBoxesModel" (169 : Nat) ({ cls := "FlexibleBoxesModel", name := "moved", desc := "(IIII)I" } : Jvm.MethodName)) ∈ zU := zin5 (List.mem_of_getElem? (i := 79) rfl) rfl
theorem zm_5_80 : (Jvm.Cond.static ({ cls := "FlexibleBoxesModel", name := "moved", desc := "(IIII)I" } : Jvm.MethodName)) ∈ zU := zin5 (List.mem_of_getElem? (i := 80) rfl) rfl
theorem zm_5_81 : (Jvm.Cond.code ({ cls := "FlexibleBoxesModel", name := "moved", desc := "(IIII)I" } : Jvm.MethodName) prog_8_method_48_code (4 : Nat) (Option.some Jvm.ClassFile.FieldType.int)) ∈ zU := zin5 (List.mem_of_getElem? (i := 81) rfl) rfl
theorem zm_5_82 : (Jvm.Cond.methodLink "FlexibleBoxesModel" (177 : Nat) ({ cls := "FlexibleBoxesModel", name := "align", desc := "(IIII)V" } : Jvm.MethodName)) ∈ zU := zin5 (List.mem_of_getElem? (i := 82) rfl) rfl
theorem zm_5_84 : (Jvm.Cond.instanceMethod ({ cls := "FlexibleBoxesModel", name := "align", desc := "(IIII)V" } : Jvm.MethodName)) ∈ zU := zin5 (List.mem_of_getElem? (i := 84) rfl) rfl
theorem zm_5_85 : (Jvm.Cond.code ({ cls := "FlexibleBoxesModel", name := "align", desc := "(IIII)V" } : Jvm.MethodName) prog_8_method_50_code (8 : Nat) (Option.none : Option Jvm.ClassFile.FieldType)) ∈ zU := zin5 (List.mem_of_getElem? (i := 85) rfl) rfl
theorem zm_5_86 : (Jvm.Cond.methodLink "FlexibleBoxesModel" (187 : Nat) ({ cls := "FlexibleBoxesModel", name := "placeRow", desc := "(I)V" } : Jvm.MethodName)) ∈ zU := zin5 (List.mem_of_getElem? (i := 86) rfl) rfl
theorem zm_5_88 : (Jvm.Cond.instanceMethod ({ cls := "FlexibleBoxesModel", name := "placeRow", desc := "(I)V" } : Jvm.MethodName)) ∈ zU := zin5 (List.mem_of_getElem? (i := 88) rfl) rfl
theorem zm_5_89 : (Jvm.Cond.code ({ cls := "FlexibleBoxesModel", name := "placeRow", desc := "(I)V" } : Jvm.MethodName) prog_8_method_53_code (7 : Nat) (Option.none : Option Jvm.ClassFile.FieldType)) ∈ zU := zin5 (List.mem_of_getElem? (i := 89) rfl) rfl
theorem zm_5_90 : (Jvm.Cond.methodLink "FlexibleBoxesModel" (180 : Nat) ({ cls := "FlexibleBoxesModel", name := "setRowHeight", desc := "(II)V" } : Jvm.MethodName)) ∈ zU := zin5 (List.mem_of_getElem? (i := 90) rfl) rfl
theorem zm_5_92 : (Jvm.Cond.instanceMethod ({ cls := "FlexibleBoxesModel", name := "setRowHeight", desc := "(II)V" } : Jvm.MethodName)) ∈ zU := zin5 (List.mem_of_getElem? (i := 92) rfl) rfl
theorem zm_5_93 : (Jvm.Cond.code ({ cls := "FlexibleBoxesModel", name := "setRowHeight", desc := "(II)V" } : Jvm.MethodName) prog_8_method_52_code (5 : Nat) (Option.none : Option Jvm.ClassFile.FieldType)) ∈ zU := zin5 (List.mem_of_getElem? (i := 93) rfl) rfl
theorem zm_5_94 : (Jvm.Cond.methodLink "FlexibleBoxesLaw" (127 : Nat) ({ cls := "FlexibleBoxesModel", name := "y", desc := "(I)I" } : Jvm.MethodName)) ∈ zU := zin5 (List.mem_of_getElem? (i := 94) rfl) rfl
theorem zm_5_95 : (Jvm.Cond.instanceMethod ({ cls := "FlexibleBoxesModel", name := "y", desc := "(I)I" } : Jvm.MethodName)) ∈ zU := zin5 (List.mem_of_getElem? (i := 95) rfl) rfl
theorem zm_5_96 : (Jvm.Cond.selects "FlexibleBoxesModel" ({ cls := "FlexibleBoxesModel", name := "y", desc := "(I)I" } : Jvm.MethodName) ({ cls := "FlexibleBoxesModel", name := "y", desc := "(I)I" } : Jvm.MethodName)) ∈ zU := zin5 (List.mem_of_getElem? (i := 96) rfl) rfl
theorem zm_5_97 : (Jvm.Cond.code ({ cls := "FlexibleBoxesModel", name := "y", desc := "(I)I" } : Jvm.MethodName) prog_8_method_58_code (2 : Nat) (Option.some Jvm.ClassFile.FieldType.int)) ∈ zU := zin5 (List.mem_of_getElem? (i := 97) rfl) rfl
theorem zm_5_98 : (Jvm.Cond.methodLink "FlexibleBoxesLaw" (130 : Nat) ({ cls := "FlexibleBoxesModel", name := "width", desc := "(I)I" } : Jvm.MethodName)) ∈ zU := zin5 (List.mem_of_getElem? (i := 98) rfl) rfl
theorem zm_5_99 : (Jvm.Cond.instanceMethod ({ cls := "FlexibleBoxesModel", name := "width", desc := "(I)I" } : Jvm.MethodName)) ∈ zU := zin5 (List.mem_of_getElem? (i := 99) rfl) rfl
theorem zm_5_100 : (Jvm.Cond.selects "FlexibleBoxesModel" ({ cls := "FlexibleBoxesModel", name := "width", desc := "(I)I" } : Jvm.MethodName) ({ cls := "FlexibleBoxesModel", name := "width", desc := "(I)I" } : Jvm.MethodName)) ∈ zU := zin5 (List.mem_of_getElem? (i := 100) rfl) rfl
theorem zm_5_101 : (Jvm.Cond.code ({ cls := "FlexibleBoxesModel", name := "width", desc := "(I)I" } : Jvm.MethodName) prog_8_method_59_code (2 : Nat) (Option.some Jvm.ClassFile.FieldType.int)) ∈ zU := zin5 (List.mem_of_getElem? (i := 101) rfl) rfl
theorem zm_5_102 : (Jvm.Cond.methodLink "FlexibleBoxesLaw" (133 : Nat) ({ cls := "FlexibleBoxesModel", name := "height", desc := "(I)I" } : Jvm.MethodName)) ∈ zU := zin5 (List.mem_of_getElem? (i := 102) rfl) rfl
theorem zm_5_103 : (Jvm.Cond.instanceMethod ({ cls := "FlexibleBoxesModel", name := "height", desc := "(I)I" } : Jvm.MethodName)) ∈ zU := zin5 (List.mem_of_getElem? (i := 103) rfl) rfl
theorem zm_5_104 : (Jvm.Cond.selects "FlexibleBoxesModel" ({ cls := "FlexibleBoxesModel", name := "height", desc := "(I)I" } : Jvm.MethodName) ({ cls := "FlexibleBoxesModel", name := "height", desc := "(I)I" } : Jvm.MethodName)) ∈ zU := zin5 (List.mem_of_getElem? (i := 104) rfl) rfl
theorem zm_5_105 : (Jvm.Cond.code ({ cls := "FlexibleBoxesModel", name := "height", desc := "(I)I" } : Jvm.MethodName) prog_8_method_60_code (2 : Nat) (Option.some Jvm.ClassFile.FieldType.int)) ∈ zU := zin5 (List.mem_of_getElem? (i := 105) rfl) rfl
theorem zm_5_106 : (Jvm.Cond.methodLink "FlexibleBoxesLaw" (136 : Nat) ({ cls := "FlexibleBoxesModel", name := "naturalWidth", desc := "(I)I" } : Jvm.MethodName)) ∈ zU := zin5 (List.mem_of_getElem? (i := 106) rfl) rfl
theorem zm_5_107 : (Jvm.Cond.instanceMethod ({ cls := "FlexibleBoxesModel", name := "naturalWidth", desc := "(I)I" } : Jvm.MethodName)) ∈ zU := zin5 (List.mem_of_getElem? (i := 107) rfl) rfl
theorem zm_5_108 : (Jvm.Cond.selects "FlexibleBoxesModel" ({ cls := "FlexibleBoxesModel", name := "naturalWidth", desc := "(I)I" } : Jvm.MethodName) ({ cls := "FlexibleBoxesModel", name := "naturalWidth", desc := "(I)I" } : Jvm.MethodName)) ∈ zU := zin5 (List.mem_of_getElem? (i := 108) rfl) rfl
theorem zm_5_109 : (Jvm.Cond.code ({ cls := "FlexibleBoxesModel", name := "naturalWidth", desc := "(I)I" } : Jvm.MethodName) prog_8_method_61_code (2 : Nat) (Option.some Jvm.ClassFile.FieldType.int)) ∈ zU := zin5 (List.mem_of_getElem? (i := 109) rfl) rfl
theorem zm_5_110 : (Jvm.Cond.methodLink "FlexibleBoxesLaw" (139 : Nat) ({ cls := "FlexibleBoxesModel", name := "naturalHeight", desc := "(I)I" } : Jvm.MethodName)) ∈ zU := zin5 (List.mem_of_getElem? (i := 110) rfl) rfl
theorem zm_5_111 : (Jvm.Cond.instanceMethod ({ cls := "FlexibleBoxesModel", name := "naturalHeight", desc := "(I)I" } : Jvm.MethodName)) ∈ zU := zin5 (List.mem_of_getElem? (i := 111) rfl) rfl
theorem zm_5_112 : (Jvm.Cond.selects "FlexibleBoxesModel" ({ cls := "FlexibleBoxesModel", name := "naturalHeight", desc := "(I)I" } : Jvm.MethodName) ({ cls := "FlexibleBoxesModel", name := "naturalHeight", desc := "(I)I" } : Jvm.MethodName)) ∈ zU := zin5 (List.mem_of_getElem? (i := 112) rfl) rfl
theorem zm_5_113 : (Jvm.Cond.code ({ cls := "FlexibleBoxesModel", name := "naturalHeight", desc := "(I)I" } : Jvm.MethodName) prog_8_method_62_code (2 : Nat) (Option.some Jvm.ClassFile.FieldType.int)) ∈ zU := zin5 (List.mem_of_getElem? (i := 113) rfl) rfl
theorem zm_5_114 : (Jvm.Cond.methodLink "FlexibleBoxesLaw" (142 : Nat) ({ cls := "FlexibleBoxesModel", name := "lines", desc := "(I)I" } : Jvm.MethodName)) ∈ zU := zin5 (List.mem_of_getElem? (i := 114) rfl) rfl
theorem zm_5_115 : (Jvm.Cond.instanceMethod ({ cls := "FlexibleBoxesModel", name := "lines", desc := "(I)I" } : Jvm.MethodName)) ∈ zU := zin5 (List.mem_of_getElem? (i := 115) rfl) rfl
theorem zm_5_116 : (Jvm.Cond.selects "FlexibleBoxesModel" ({ cls := "FlexibleBoxesModel", name := "lines", desc := "(I)I" } : Jvm.MethodName) ({ cls := "FlexibleBoxesModel", name := "lines", desc := "(I)I" } : Jvm.MethodName)) ∈ zU := zin5 (List.mem_of_getElem? (i := 116) rfl) rfl
theorem zm_5_117 : (Jvm.Cond.code ({ cls := "FlexibleBoxesModel", name := "lines", desc := "(I)I" } : Jvm.MethodName) prog_8_method_63_code (2 : Nat) (Option.some Jvm.ClassFile.FieldType.int)) ∈ zU := zin5 (List.mem_of_getElem? (i := 117) rfl) rfl
theorem zm_5_118 : (Jvm.Cond.methodLink "FlexibleBoxesLaw" (145 : Nat) ({ cls := "FlexibleBoxesModel", name := "lineOf", desc := "(I)I" } : Jvm.MethodName)) ∈ zU := zin5 (List.mem_of_getElem? (i := 118) rfl) rfl
theorem zm_5_119 : (Jvm.Cond.instanceMethod ({ cls := "FlexibleBoxesModel", name := "lineOf", desc := "(I)I" } : Jvm.MethodName)) ∈ zU := zin5 (List.mem_of_getElem? (i := 119) rfl) rfl
theorem zm_5_120 : (Jvm.Cond.selects "FlexibleBoxesModel" ({ cls := "FlexibleBoxesModel", name := "lineOf", desc := "(I)I" } : Jvm.MethodName) ({ cls := "FlexibleBoxesModel", name := "lineOf", desc := "(I)I" } : Jvm.MethodName)) ∈ zU := zin5 (List.mem_of_getElem? (i := 120) rfl) rfl
theorem zm_5_121 : (Jvm.Cond.code ({ cls := "FlexibleBoxesModel", name := "lineOf", desc := "(I)I" } : Jvm.MethodName) prog_8_method_64_code (2 : Nat) (Option.some Jvm.ClassFile.FieldType.int)) ∈ zU := zin5 (List.mem_of_getElem? (i := 121) rfl) rfl
theorem zm_5_122 : (Jvm.Cond.methodLink "FlexibleBoxesLaw" (148 : Nat) ({ cls := "FlexibleBoxesModel", name := "overflow", desc := "(I)I" } : Jvm.MethodName)) ∈ zU := zin5 (List.mem_of_getElem? (i := 122) rfl) rfl
theorem zm_5_123 : (Jvm.Cond.instanceMethod ({ cls := "FlexibleBoxesModel", name := "overflow", desc := "(I)I" } : Jvm.MethodName)) ∈ zU := zin5 (List.mem_of_getElem? (i := 123) rfl) rfl
theorem zm_5_124 : (Jvm.Cond.selects "FlexibleBoxesModel" ({ cls := "FlexibleBoxesModel", name := "overflow", desc := "(I)I" } : Jvm.MethodName) ({ cls := "FlexibleBoxesModel", name := "overflow", desc := "(I)I" } : Jvm.MethodName)) ∈ zU := zin5 (List.mem_of_getElem? (i := 124) rfl) rfl
theorem zm_5_125 : (Jvm.Cond.code ({ cls := "FlexibleBoxesModel", name := "overflow", desc := "(I)I" } : Jvm.MethodName) prog_8_method_66_code (6 : Nat) (Option.some Jvm.ClassFile.FieldType.int)) ∈ zU := zin5 (List.mem_of_getElem? (i := 125) rfl) rfl
theorem zm_5_126 : (Jvm.Cond.methodLink "FlexibleBoxesModel" (211 : Nat) ({ cls := "FlexibleBoxesModel", name := "end", desc := "(II)I" } : Jvm.MethodName)) ∈ zU := zin5 (List.mem_of_getElem? (i := 126) rfl) rfl
theorem zm_5_128 : (Jvm.Cond.instanceMethod ({ cls := "FlexibleBoxesModel", name := "end", desc := "(II)I" } : Jvm.MethodName)) ∈ zU := zin5 (List.mem_of_getElem? (i := 128) rfl) rfl
theorem zm_5_129 : (Jvm.Cond.code ({ cls := "FlexibleBoxesModel", name := "end", desc := "(II)I" } : Jvm.MethodName) prog_8_method_65_code (3 : Nat) (Option.some Jvm.ClassFile.FieldType.int)) ∈ zU := zin5 (List.mem_of_getElem? (i := 129) rfl) rfl
theorem zm_5_130 : (Jvm.Cond.methodLink "FlexibleBoxesLaw" (152 : Nat) ({ cls := "FlexibleBoxesModel", name := "hit", desc := "(II)I" } : Jvm.MethodName)) ∈ zU := zin5 (List.mem_of_getElem? (i := 130) rfl) rfl
theorem zm_5_131 : (Jvm.Cond.instanceMethod ({ cls := "FlexibleBoxesModel", name := "hit", desc := "(II)I" } : Jvm.MethodName)) ∈ zU := zin5 (List.mem_of_getElem? (i := 131) rfl) rfl
theorem zm_5_132 : (Jvm.Cond.selects "FlexibleBoxesModel" ({ cls := "FlexibleBoxesModel", name := "hit", desc := "(II)I" } : Jvm.MethodName) ({ cls := "FlexibleBoxesModel", name := "hit", desc := "(II)I" } : Jvm.MethodName)) ∈ zU := zin5 (List.mem_of_getElem? (i := 132) rfl) rfl
theorem zm_5_133 : (Jvm.Cond.code ({ cls := "FlexibleBoxesModel", name := "hit", desc := "(II)I" } : Jvm.MethodName) prog_8_method_68_code (7 : Nat) (Option.some Jvm.ClassFile.FieldType.int)) ∈ zU := zin5 (List.mem_of_getElem? (i := 133) rfl) rfl
theorem zm_5_134 : (Jvm.Cond.methodLink "FlexibleBoxesModel" (214 : Nat) ({ cls := "FlexibleBoxesModel", name := "covers", desc := "(III)Z" } : Jvm.MethodName)) ∈ zU := zin5 (List.mem_of_getElem? (i := 134) rfl) rfl
theorem zm_5_136 : (Jvm.Cond.instanceMethod ({ cls := "FlexibleBoxesModel", name := "covers", desc := "(III)Z" } : Jvm.MethodName)) ∈ zU := zin5 (List.mem_of_getElem? (i := 136) rfl) rfl
theorem zm_5_137 : (Jvm.Cond.code ({ cls := "FlexibleBoxesModel", name := "covers", desc := "(III)Z" } : Jvm.MethodName) prog_8_method_67_code (4 : Nat) (Option.some Jvm.ClassFile.FieldType.boolean)) ∈ zU := zin5 (List.mem_of_getElem? (i := 137) rfl) rfl
theorem zm_5_138 : (Jvm.Cond.methodLink "FlexibleBoxesLaw" (155 : Nat) ({ cls := "FlexibleBoxesModel", name := "widthFor", desc := "(II)I" } : Jvm.MethodName)) ∈ zU := zin5 (List.mem_of_getElem? (i := 138) rfl) rfl
theorem zm_5_139 : (Jvm.Cond.instanceMethod ({ cls := "FlexibleBoxesModel", name := "widthFor", desc := "(II)I" } : Jvm.MethodName)) ∈ zU := zin5 (List.mem_of_getElem? (i := 139) rfl) rfl
theorem zm_5_140 : (Jvm.Cond.selects "FlexibleBoxesModel" ({ cls := "FlexibleBoxesModel", name := "widthFor", desc := "(II)I" } : Jvm.MethodName) ({ cls := "FlexibleBoxesModel", name := "widthFor", desc := "(II)I" } : Jvm.MethodName)) ∈ zU := zin5 (List.mem_of_getElem? (i := 140) rfl) rfl
theorem zm_5_141 : (Jvm.Cond.code ({ cls := "FlexibleBoxesModel", name := "widthFor", desc := "(II)I" } : Jvm.MethodName) prog_8_method_69_code (6 : Nat) (Option.some Jvm.ClassFile.FieldType.int)) ∈ zU := zin5 (List.mem_of_getElem? (i := 141) rfl) rfl
theorem zm_5_142 : (Jvm.Cond.methodLink "FlexibleBoxesLaw" (159 : Nat) ({ cls := "FlexibleBoxesModel", name := "save", desc := "(I)V" } : Jvm.MethodName)) ∈ zU := zin5 (List.mem_of_getElem? (i := 142) rfl) rfl
theorem zm_5_143 : (Jvm.Cond.instanceMethod ({ cls := "FlexibleBoxesModel", name := "save", desc := "(I)V" } : Jvm.MethodName)) ∈ zU := zin5 (List.mem_of_getElem? (i := 143) rfl) rfl
theorem zm_5_144 : (Jvm.Cond.selects "FlexibleBoxesModel" ({ cls := "FlexibleBoxesModel", name := "save", desc := "(I)V" } : Jvm.MethodName) ({ cls := "FlexibleBoxesModel", name := "save", desc := "(I)V" } : Jvm.MethodName)) ∈ zU := zin5 (List.mem_of_getElem? (i := 144) rfl) rfl
theorem zm_5_145 : (Jvm.Cond.code ({ cls := "FlexibleBoxesModel", name := "save", desc := "(I)V" } : Jvm.MethodName) prog_8_method_70_code (3 : Nat) (Option.none : Option Jvm.ClassFile.FieldType)) ∈ zU := zin5 (List.mem_of_getElem? (i := 145) rfl) rfl
theorem zm_5_146 : (Jvm.Cond.methodLink "FlexibleBoxesLaw" (162 : Nat) ({ cls := "FlexibleBoxesModel", name := "restore", desc := "(I)V" } : Jvm.MethodName)) ∈ zU := zin5 (List.mem_of_getElem? (i := 146) rfl) rfl
theorem zm_5_147 : (Jvm.Cond.instanceMethod ({ cls := "FlexibleBoxesModel", name := "restore", desc := "(I)V" } : Jvm.MethodName)) ∈ zU := zin5 (List.mem_of_getElem? (i := 147) rfl) rfl
theorem zm_5_148 : (Jvm.Cond.selects "FlexibleBoxesModel" ({ cls := "FlexibleBoxesModel", name := "restore", desc := "(I)V" } : Jvm.MethodName) ({ cls := "FlexibleBoxesModel", name := "restore", desc := "(I)V" } : Jvm.MethodName)) ∈ zU := zin5 (List.mem_of_getElem? (i := 148) rfl) rfl
theorem zm_5_149 : (Jvm.Cond.code ({ cls := "FlexibleBoxesModel", name := "restore", desc := "(I)V" } : Jvm.MethodName) prog_8_method_71_code (3 : Nat) (Option.none : Option Jvm.ClassFile.FieldType)) ∈ zU := zin5 (List.mem_of_getElem? (i := 149) rfl) rfl
theorem inX0 : ∀ w ∈ u_ws RX0 TX0 18, w ∈ zU := by decide +kernel
theorem inX1 : ∀ w ∈ u_ws RX1 TX1 11, w ∈ zU := by decide +kernel
theorem inX2 : ∀ w ∈ u_ws RX2 TX2 3, w ∈ zU := by decide +kernel
theorem inX3 : ∀ w ∈ u_ws RX3 TX3 6, w ∈ zU := by decide +kernel
theorem inX4 : ∀ w ∈ u_ws RX4 TX4 5, w ∈ zU := by decide +kernel
theorem inX5 : ∀ w ∈ u_ws RX5 TX5 3, w ∈ zU := by decide +kernel
theorem inX6 : ∀ w ∈ u_ws RX6 TX6 16, w ∈ zU := by decide +kernel
end
section
theorem dX0_init_0 : decode cX0_init 0 = .ok (.aload_n 0, 1) := by decide +kernel
theorem dX0_init_1 : decode cX0_init 1 = .ok (.invokespecial 3, 3) := by decide +kernel
theorem dX0_init_4 : decode cX0_init 4 = .ok (.aload_n 0, 1) := by decide +kernel
theorem dX0_init_5 : decode cX0_init 5 = .ok (.bipush 20, 2) := by decide +kernel
theorem dX0_init_7 : decode cX0_init 7 = .ok (.newarray .int, 2) := by decide +kernel
theorem dX0_init_9 : decode cX0_init 9 = .ok (.putfield 9, 3) := by decide +kernel
theorem dX0_init_12 : decode cX0_init 12 = .ok (.aload_n 0, 1) := by decide +kernel
theorem dX0_init_13 : decode cX0_init 13 = .ok (.iload_n 1, 1) := by decide +kernel
theorem dX0_init_14 : decode cX0_init 14 = .ok (.putfield 15, 3) := by decide +kernel
theorem dX0_init_17 : decode cX0_init 17 = .ok (.return_, 1) := by decide +kernel
theorem dX0_begin_0 : decode cX0_begin 0 = .ok (.aload_n 0, 1) := by decide +kernel
theorem dX0_begin_1 : decode cX0_begin 1 = .ok (.aload_n 1, 1) := by decide +kernel
theorem dX0_begin_2 : decode cX0_begin 2 = .ok (.putfield 19, 3) := by decide +kernel
theorem dX0_begin_5 : decode cX0_begin 5 = .ok (.aload_n 0, 1) := by decide +kernel
theorem dX0_begin_6 : decode cX0_begin 6 = .ok (.iconst 1, 1) := by decide +kernel
theorem dX0_begin_7 : decode cX0_begin 7 = .ok (.putfield 23, 3) := by decide +kernel
theorem dX0_begin_10 : decode cX0_begin 10 = .ok (.iconst 0, 1) := by decide +kernel
theorem dX0_begin_11 : decode cX0_begin 11 = .ok (.istore_n 2, 1) := by decide +kernel
theorem dX0_begin_12 : decode cX0_begin 12 = .ok (.iload_n 2, 1) := by decide +kernel
theorem dX0_begin_13 : decode cX0_begin 13 = .ok (.bipush 20, 2) := by decide +kernel
theorem dX0_begin_15 : decode cX0_begin 15 = .ok (.if_icmp .ge 20, 3) := by decide +kernel
theorem dX0_begin_18 : decode cX0_begin 18 = .ok (.aload_n 0, 1) := by decide +kernel
theorem dX0_begin_19 : decode cX0_begin 19 = .ok (.getfield 9, 3) := by decide +kernel
theorem dX0_begin_22 : decode cX0_begin 22 = .ok (.iload_n 2, 1) := by decide +kernel
theorem dX0_begin_23 : decode cX0_begin 23 = .ok (.getstatic 27, 3) := by decide +kernel
theorem dX0_begin_26 : decode cX0_begin 26 = .ok (.iload_n 2, 1) := by decide +kernel
theorem dX0_begin_27 : decode cX0_begin 27 = .ok (.iaload, 1) := by decide +kernel
theorem dX0_begin_28 : decode cX0_begin 28 = .ok (.iastore, 1) := by decide +kernel
theorem dX0_begin_29 : decode cX0_begin 29 = .ok (.iinc 2 1, 3) := by decide +kernel
theorem dX0_begin_32 : decode cX0_begin 32 = .ok (.goto (-20), 3) := by decide +kernel
theorem dX0_begin_35 : decode cX0_begin 35 = .ok (.return_, 1) := by decide +kernel
theorem dX0_of_0 : decode cX0_of 0 = .ok (.iload_n 1, 1) := by decide +kernel
theorem dX0_of_1 : decode cX0_of 1 = .ok (.ifCond .lt 18, 3) := by decide +kernel
theorem dX0_of_4 : decode cX0_of 4 = .ok (.iload_n 1, 1) := by decide +kernel
theorem dX0_of_5 : decode cX0_of 5 = .ok (.bipush 20, 2) := by decide +kernel
theorem dX0_of_7 : decode cX0_of 7 = .ok (.if_icmp .ge 12, 3) := by decide +kernel
theorem dX0_of_10 : decode cX0_of 10 = .ok (.aload_n 0, 1) := by decide +kernel
theorem dX0_of_11 : decode cX0_of 11 = .ok (.getfield 9, 3) := by decide +kernel
theorem dX0_of_14 : decode cX0_of 14 = .ok (.iload_n 1, 1) := by decide +kernel
theorem dX0_of_15 : decode cX0_of 15 = .ok (.iaload, 1) := by decide +kernel
theorem dX0_of_16 : decode cX0_of 16 = .ok (.goto 4, 3) := by decide +kernel
theorem dX0_of_19 : decode cX0_of 19 = .ok (.iconst 0, 1) := by decide +kernel
theorem dX0_of_20 : decode cX0_of 20 = .ok (.ireturn, 1) := by decide +kernel
theorem dX0_change_0 : decode cX0_change 0 = .ok (.aload_n 0, 1) := by decide +kernel
theorem dX0_change_1 : decode cX0_change 1 = .ok (.iload_n 1, 1) := by decide +kernel
theorem dX0_change_2 : decode cX0_change 2 = .ok (.invokevirtual 30, 3) := by decide +kernel
theorem dX0_change_5 : decode cX0_change 5 = .ok (.istore_n 3, 1) := by decide +kernel
theorem dX0_change_6 : decode cX0_change 6 = .ok (.iload_n 1, 1) := by decide +kernel
theorem dX0_change_7 : decode cX0_change 7 = .ok (.invokestatic 34, 3) := by decide +kernel
theorem dX0_change_10 : decode cX0_change 10 = .ok (.ifCond .eq 10, 3) := by decide +kernel
theorem dX0_change_13 : decode cX0_change 13 = .ok (.aload_n 0, 1) := by decide +kernel
theorem dX0_change_14 : decode cX0_change 14 = .ok (.getfield 9, 3) := by decide +kernel
theorem dX0_change_17 : decode cX0_change 17 = .ok (.iload_n 1, 1) := by decide +kernel
theorem dX0_change_18 : decode cX0_change 18 = .ok (.iload_n 2, 1) := by decide +kernel
theorem dX0_change_19 : decode cX0_change 19 = .ok (.iastore, 1) := by decide +kernel
theorem dX0_change_20 : decode cX0_change 20 = .ok (.iload_n 3, 1) := by decide +kernel
theorem dX0_change_21 : decode cX0_change 21 = .ok (.ireturn, 1) := by decide +kernel
theorem dX0_isRoot_0 : decode cX0_isRoot 0 = .ok (.aload_n 0, 1) := by decide +kernel
theorem dX0_isRoot_1 : decode cX0_isRoot 1 = .ok (.getfield 19, 3) := by decide +kernel
theorem dX0_isRoot_4 : decode cX0_isRoot 4 = .ok (.ifnonnull 7, 3) := by decide +kernel
theorem dX0_isRoot_7 : decode cX0_isRoot 7 = .ok (.iconst 1, 1) := by decide +kernel
theorem dX0_isRoot_8 : decode cX0_isRoot 8 = .ok (.goto 4, 3) := by decide +kernel
theorem dX0_isRoot_11 : decode cX0_isRoot 11 = .ok (.iconst 0, 1) := by decide +kernel
theorem dX0_isRoot_12 : decode cX0_isRoot 12 = .ok (.ireturn, 1) := by decide +kernel
theorem dX0_parentNumber_0 : decode cX0_parentNumber 0 = .ok (.aload_n 0, 1) := by decide +kernel
theorem dX0_parentNumber_1 : decode cX0_parentNumber 1 = .ok (.getfield 19, 3) := by decide +kernel
theorem dX0_parentNumber_4 : decode cX0_parentNumber 4 = .ok (.ifnonnull 7, 3) := by decide +kernel
theorem dX0_parentNumber_7 : decode cX0_parentNumber 7 = .ok (.iconst (-1), 1) := by decide +kernel
theorem dX0_parentNumber_8 : decode cX0_parentNumber 8 = .ok (.goto 10, 3) := by decide +kernel
theorem dX0_parentNumber_11 : decode cX0_parentNumber 11 = .ok (.aload_n 0, 1) := by decide +kernel
theorem dX0_parentNumber_12 : decode cX0_parentNumber 12 = .ok (.getfield 19, 3) := by decide +kernel
theorem dX0_parentNumber_15 : decode cX0_parentNumber 15 = .ok (.getfield 15, 3) := by decide +kernel
theorem dX0_parentNumber_18 : decode cX0_parentNumber 18 = .ok (.ireturn, 1) := by decide +kernel
theorem dX0_isColumn_0 : decode cX0_isColumn 0 = .ok (.aload_n 0, 1) := by decide +kernel
theorem dX0_isColumn_1 : decode cX0_isColumn 1 = .ok (.iconst 0, 1) := by decide +kernel
theorem dX0_isColumn_2 : decode cX0_isColumn 2 = .ok (.invokevirtual 30, 3) := by decide +kernel
theorem dX0_isColumn_5 : decode cX0_isColumn 5 = .ok (.iconst 1, 1) := by decide +kernel
theorem dX0_isColumn_6 : decode cX0_isColumn 6 = .ok (.if_icmp .ne 7, 3) := by decide +kernel
theorem dX0_isColumn_9 : decode cX0_isColumn 9 = .ok (.iconst 1, 1) := by decide +kernel
theorem dX0_isColumn_10 : decode cX0_isColumn 10 = .ok (.goto 4, 3) := by decide +kernel
theorem dX0_isColumn_13 : decode cX0_isColumn 13 = .ok (.iconst 0, 1) := by decide +kernel
theorem dX0_isColumn_14 : decode cX0_isColumn 14 = .ok (.ireturn, 1) := by decide +kernel
theorem dX0_wraps_0 : decode cX0_wraps 0 = .ok (.aload_n 0, 1) := by decide +kernel
theorem dX0_wraps_1 : decode cX0_wraps 1 = .ok (.iconst 1, 1) := by decide +kernel
theorem dX0_wraps_2 : decode cX0_wraps 2 = .ok (.invokevirtual 30, 3) := by decide +kernel
theorem dX0_wraps_5 : decode cX0_wraps 5 = .ok (.iconst 1, 1) := by decide +kernel
theorem dX0_wraps_6 : decode cX0_wraps 6 = .ok (.if_icmp .ne 7, 3) := by decide +kernel
theorem dX0_wraps_9 : decode cX0_wraps 9 = .ok (.iconst 1, 1) := by decide +kernel
theorem dX0_wraps_10 : decode cX0_wraps 10 = .ok (.goto 4, 3) := by decide +kernel
theorem dX0_wraps_13 : decode cX0_wraps 13 = .ok (.iconst 0, 1) := by decide +kernel
theorem dX0_wraps_14 : decode cX0_wraps 14 = .ok (.ireturn, 1) := by decide +kernel
theorem dX0_unlink_0 : decode cX0_unlink 0 = .ok (.aload_n 0, 1) := by decide +kernel
theorem dX0_unlink_1 : decode cX0_unlink 1 = .ok (.iconst 0, 1) := by decide +kernel
theorem dX0_unlink_2 : decode cX0_unlink 2 = .ok (.putfield 38, 3) := by decide +kernel
theorem dX0_unlink_5 : decode cX0_unlink 5 = .ok (.aload_n 0, 1) := by decide +kernel
theorem dX0_unlink_6 : decode cX0_unlink 6 = .ok (.iconst 0, 1) := by decide +kernel
theorem dX0_unlink_7 : decode cX0_unlink 7 = .ok (.putfield 41, 3) := by decide +kernel
theorem dX0_unlink_10 : decode cX0_unlink 10 = .ok (.aload_n 0, 1) := by decide +kernel
theorem dX0_unlink_11 : decode cX0_unlink 11 = .ok (.aconst_null, 1) := by decide +kernel
theorem dX0_unlink_12 : decode cX0_unlink 12 = .ok (.putfield 44, 3) := by decide +kernel
theorem dX0_unlink_15 : decode cX0_unlink 15 = .ok (.aload_n 0, 1) := by decide +kernel
theorem dX0_unlink_16 : decode cX0_unlink 16 = .ok (.aconst_null, 1) := by decide +kernel
theorem dX0_unlink_17 : decode cX0_unlink 17 = .ok (.putfield 47, 3) := by decide +kernel
theorem dX0_unlink_20 : decode cX0_unlink 20 = .ok (.aload_n 0, 1) := by decide +kernel
theorem dX0_unlink_21 : decode cX0_unlink 21 = .ok (.iconst 0, 1) := by decide +kernel
theorem dX0_unlink_22 : decode cX0_unlink 22 = .ok (.putfield 50, 3) := by decide +kernel
theorem dX0_unlink_25 : decode cX0_unlink 25 = .ok (.return_, 1) := by decide +kernel
theorem dX0_adopt_0 : decode cX0_adopt 0 = .ok (.aconst_null, 1) := by decide +kernel
theorem dX0_adopt_1 : decode cX0_adopt 1 = .ok (.astore_n 2, 1) := by decide +kernel
theorem dX0_adopt_2 : decode cX0_adopt 2 = .ok (.aload_n 0, 1) := by decide +kernel
theorem dX0_adopt_3 : decode cX0_adopt 3 = .ok (.getfield 44, 3) := by decide +kernel
theorem dX0_adopt_6 : decode cX0_adopt 6 = .ok (.astore_n 3, 1) := by decide +kernel
theorem dX0_adopt_7 : decode cX0_adopt 7 = .ok (.aload_n 3, 1) := by decide +kernel
theorem dX0_adopt_8 : decode cX0_adopt 8 = .ok (.ifnull 28, 3) := by decide +kernel
theorem dX0_adopt_11 : decode cX0_adopt 11 = .ok (.aload_n 3, 1) := by decide +kernel
theorem dX0_adopt_12 : decode cX0_adopt 12 = .ok (.bipush 17, 2) := by decide +kernel
theorem dX0_adopt_14 : decode cX0_adopt 14 = .ok (.invokevirtual 30, 3) := by decide +kernel
theorem dX0_adopt_17 : decode cX0_adopt 17 = .ok (.aload_n 1, 1) := by decide +kernel
theorem dX0_adopt_18 : decode cX0_adopt 18 = .ok (.bipush 17, 2) := by decide +kernel
theorem dX0_adopt_20 : decode cX0_adopt 20 = .ok (.invokevirtual 30, 3) := by decide +kernel
theorem dX0_adopt_23 : decode cX0_adopt 23 = .ok (.if_icmp .gt 13, 3) := by decide +kernel
theorem dX0_adopt_26 : decode cX0_adopt 26 = .ok (.aload_n 3, 1) := by decide +kernel
theorem dX0_adopt_27 : decode cX0_adopt 27 = .ok (.astore_n 2, 1) := by decide +kernel
theorem dX0_adopt_28 : decode cX0_adopt 28 = .ok (.aload_n 3, 1) := by decide +kernel
theorem dX0_adopt_29 : decode cX0_adopt 29 = .ok (.getfield 47, 3) := by decide +kernel
theorem dX0_adopt_32 : decode cX0_adopt 32 = .ok (.astore_n 3, 1) := by decide +kernel
theorem dX0_adopt_33 : decode cX0_adopt 33 = .ok (.goto (-26), 3) := by decide +kernel
theorem dX0_adopt_36 : decode cX0_adopt 36 = .ok (.aload_n 2, 1) := by decide +kernel
theorem dX0_adopt_37 : decode cX0_adopt 37 = .ok (.ifnonnull 19, 3) := by decide +kernel
theorem dX0_adopt_40 : decode cX0_adopt 40 = .ok (.aload_n 1, 1) := by decide +kernel
theorem dX0_adopt_41 : decode cX0_adopt 41 = .ok (.aload_n 0, 1) := by decide +kernel
theorem dX0_adopt_42 : decode cX0_adopt 42 = .ok (.getfield 44, 3) := by decide +kernel
theorem dX0_adopt_45 : decode cX0_adopt 45 = .ok (.putfield 47, 3) := by decide +kernel
theorem dX0_adopt_48 : decode cX0_adopt 48 = .ok (.aload_n 0, 1) := by decide +kernel
theorem dX0_adopt_49 : decode cX0_adopt 49 = .ok (.aload_n 1, 1) := by decide +kernel
theorem dX0_adopt_50 : decode cX0_adopt 50 = .ok (.putfield 44, 3) := by decide +kernel
theorem dX0_adopt_53 : decode cX0_adopt 53 = .ok (.goto 16, 3) := by decide +kernel
theorem dX0_adopt_56 : decode cX0_adopt 56 = .ok (.aload_n 1, 1) := by decide +kernel
theorem dX0_adopt_57 : decode cX0_adopt 57 = .ok (.aload_n 2, 1) := by decide +kernel
theorem dX0_adopt_58 : decode cX0_adopt 58 = .ok (.getfield 47, 3) := by decide +kernel
theorem dX0_adopt_61 : decode cX0_adopt 61 = .ok (.putfield 47, 3) := by decide +kernel
theorem dX0_adopt_64 : decode cX0_adopt 64 = .ok (.aload_n 2, 1) := by decide +kernel
theorem dX0_adopt_65 : decode cX0_adopt 65 = .ok (.aload_n 1, 1) := by decide +kernel
theorem dX0_adopt_66 : decode cX0_adopt 66 = .ok (.putfield 47, 3) := by decide +kernel
theorem dX0_adopt_69 : decode cX0_adopt 69 = .ok (.aload_n 0, 1) := by decide +kernel
theorem dX0_adopt_70 : decode cX0_adopt 70 = .ok (.dup, 1) := by decide +kernel
theorem dX0_adopt_71 : decode cX0_adopt 71 = .ok (.getfield 50, 3) := by decide +kernel
theorem dX0_adopt_74 : decode cX0_adopt 74 = .ok (.iconst 1, 1) := by decide +kernel
theorem dX0_adopt_75 : decode cX0_adopt 75 = .ok (.iadd, 1) := by decide +kernel
theorem dX0_adopt_76 : decode cX0_adopt 76 = .ok (.putfield 50, 3) := by decide +kernel
theorem dX0_adopt_79 : decode cX0_adopt 79 = .ok (.return_, 1) := by decide +kernel
theorem dX0_innerWidth_0 : decode cX0_innerWidth 0 = .ok (.aload_n 0, 1) := by decide +kernel
theorem dX0_innerWidth_1 : decode cX0_innerWidth 1 = .ok (.getfield 53, 3) := by decide +kernel
theorem dX0_innerWidth_4 : decode cX0_innerWidth 4 = .ok (.iconst 2, 1) := by decide +kernel
theorem dX0_innerWidth_5 : decode cX0_innerWidth 5 = .ok (.aload_n 0, 1) := by decide +kernel
theorem dX0_innerWidth_6 : decode cX0_innerWidth 6 = .ok (.iconst 5, 1) := by decide +kernel
theorem dX0_innerWidth_7 : decode cX0_innerWidth 7 = .ok (.invokevirtual 30, 3) := by decide +kernel
theorem dX0_innerWidth_10 : decode cX0_innerWidth 10 = .ok (.imul, 1) := by decide +kernel
theorem dX0_innerWidth_11 : decode cX0_innerWidth 11 = .ok (.isub, 1) := by decide +kernel
theorem dX0_innerWidth_12 : decode cX0_innerWidth 12 = .ok (.iconst 0, 1) := by decide +kernel
theorem dX0_innerWidth_13 : decode cX0_innerWidth 13 = .ok (.invokestatic 56, 3) := by decide +kernel
theorem dX0_innerWidth_16 : decode cX0_innerWidth 16 = .ok (.ireturn, 1) := by decide +kernel
theorem dX0_innerHeight_0 : decode cX0_innerHeight 0 = .ok (.aload_n 0, 1) := by decide +kernel
theorem dX0_innerHeight_1 : decode cX0_innerHeight 1 = .ok (.getfield 62, 3) := by decide +kernel
theorem dX0_innerHeight_4 : decode cX0_innerHeight 4 = .ok (.iconst 2, 1) := by decide +kernel
theorem dX0_innerHeight_5 : decode cX0_innerHeight 5 = .ok (.aload_n 0, 1) := by decide +kernel
theorem dX0_innerHeight_6 : decode cX0_innerHeight 6 = .ok (.iconst 5, 1) := by decide +kernel
theorem dX0_innerHeight_7 : decode cX0_innerHeight 7 = .ok (.invokevirtual 30, 3) := by decide +kernel
theorem dX0_innerHeight_10 : decode cX0_innerHeight 10 = .ok (.imul, 1) := by decide +kernel
theorem dX0_innerHeight_11 : decode cX0_innerHeight 11 = .ok (.isub, 1) := by decide +kernel
theorem dX0_innerHeight_12 : decode cX0_innerHeight 12 = .ok (.iconst 0, 1) := by decide +kernel
theorem dX0_innerHeight_13 : decode cX0_innerHeight 13 = .ok (.invokestatic 56, 3) := by decide +kernel
theorem dX0_innerHeight_16 : decode cX0_innerHeight 16 = .ok (.ireturn, 1) := by decide +kernel
theorem dX0_margins_0 : decode cX0_margins 0 = .ok (.iconst 2, 1) := by decide +kernel
theorem dX0_margins_1 : decode cX0_margins 1 = .ok (.aload_n 0, 1) := by decide +kernel
theorem dX0_margins_2 : decode cX0_margins 2 = .ok (.bipush 6, 2) := by decide +kernel
theorem dX0_margins_4 : decode cX0_margins 4 = .ok (.invokevirtual 30, 3) := by decide +kernel
theorem dX0_margins_7 : decode cX0_margins 7 = .ok (.imul, 1) := by decide +kernel
theorem dX0_margins_8 : decode cX0_margins 8 = .ok (.ireturn, 1) := by decide +kernel
theorem dX0_limitWidth_0 : decode cX0_limitWidth 0 = .ok (.aload_n 0, 1) := by decide +kernel
theorem dX0_limitWidth_1 : decode cX0_limitWidth 1 = .ok (.invokevirtual 65, 3) := by decide +kernel
theorem dX0_limitWidth_4 : decode cX0_limitWidth 4 = .ok (.ifCond .eq 7, 3) := by decide +kernel
theorem dX0_limitWidth_7 : decode cX0_limitWidth 7 = .ok (.iload_n 1, 1) := by decide +kernel
theorem dX0_limitWidth_8 : decode cX0_limitWidth 8 = .ok (.goto 19, 3) := by decide +kernel
theorem dX0_limitWidth_11 : decode cX0_limitWidth 11 = .ok (.iload_n 1, 1) := by decide +kernel
theorem dX0_limitWidth_12 : decode cX0_limitWidth 12 = .ok (.aload_n 0, 1) := by decide +kernel
theorem dX0_limitWidth_13 : decode cX0_limitWidth 13 = .ok (.bipush 12, 2) := by decide +kernel
theorem dX0_limitWidth_15 : decode cX0_limitWidth 15 = .ok (.invokevirtual 30, 3) := by decide +kernel
theorem dX0_limitWidth_18 : decode cX0_limitWidth 18 = .ok (.aload_n 0, 1) := by decide +kernel
theorem dX0_limitWidth_19 : decode cX0_limitWidth 19 = .ok (.bipush 14, 2) := by decide +kernel
theorem dX0_limitWidth_21 : decode cX0_limitWidth 21 = .ok (.invokevirtual 30, 3) := by decide +kernel
theorem dX0_limitWidth_24 : decode cX0_limitWidth 24 = .ok (.invokestatic 69, 3) := by decide +kernel
theorem dX0_limitWidth_27 : decode cX0_limitWidth 27 = .ok (.ireturn, 1) := by decide +kernel
theorem dX0_limitHeight_0 : decode cX0_limitHeight 0 = .ok (.aload_n 0, 1) := by decide +kernel
theorem dX0_limitHeight_1 : decode cX0_limitHeight 1 = .ok (.invokevirtual 65, 3) := by decide +kernel
theorem dX0_limitHeight_4 : decode cX0_limitHeight 4 = .ok (.ifCond .eq 7, 3) := by decide +kernel
theorem dX0_limitHeight_7 : decode cX0_limitHeight 7 = .ok (.iload_n 1, 1) := by decide +kernel
theorem dX0_limitHeight_8 : decode cX0_limitHeight 8 = .ok (.goto 19, 3) := by decide +kernel
theorem dX0_limitHeight_11 : decode cX0_limitHeight 11 = .ok (.iload_n 1, 1) := by decide +kernel
theorem dX0_limitHeight_12 : decode cX0_limitHeight 12 = .ok (.aload_n 0, 1) := by decide +kernel
theorem dX0_limitHeight_13 : decode cX0_limitHeight 13 = .ok (.bipush 13, 2) := by decide +kernel
theorem dX0_limitHeight_15 : decode cX0_limitHeight 15 = .ok (.invokevirtual 30, 3) := by decide +kernel
theorem dX0_limitHeight_18 : decode cX0_limitHeight 18 = .ok (.aload_n 0, 1) := by decide +kernel
theorem dX0_limitHeight_19 : decode cX0_limitHeight 19 = .ok (.bipush 15, 2) := by decide +kernel
theorem dX0_limitHeight_21 : decode cX0_limitHeight 21 = .ok (.invokevirtual 30, 3) := by decide +kernel
theorem dX0_limitHeight_24 : decode cX0_limitHeight 24 = .ok (.invokestatic 69, 3) := by decide +kernel
theorem dX0_limitHeight_27 : decode cX0_limitHeight 27 = .ok (.ireturn, 1) := by decide +kernel
theorem dX0_fixedSize_0 : decode cX0_fixedSize 0 = .ok (.aload_n 0, 1) := by decide +kernel
theorem dX0_fixedSize_1 : decode cX0_fixedSize 1 = .ok (.invokevirtual 65, 3) := by decide +kernel
theorem dX0_fixedSize_4 : decode cX0_fixedSize 4 = .ok (.ifCond .eq 7, 3) := by decide +kernel
theorem dX0_fixedSize_7 : decode cX0_fixedSize 7 = .ok (.iconst (-1), 1) := by decide +kernel
theorem dX0_fixedSize_8 : decode cX0_fixedSize 8 = .ok (.goto 8, 3) := by decide +kernel
theorem dX0_fixedSize_11 : decode cX0_fixedSize 11 = .ok (.aload_n 0, 1) := by decide +kernel
theorem dX0_fixedSize_12 : decode cX0_fixedSize 12 = .ok (.iload_n 1, 1) := by decide +kernel
theorem dX0_fixedSize_13 : decode cX0_fixedSize 13 = .ok (.invokevirtual 30, 3) := by decide +kernel
theorem dX0_fixedSize_16 : decode cX0_fixedSize 16 = .ok (.ireturn, 1) := by decide +kernel
theorem dX0_alignment_0 : decode cX0_alignment 0 = .ok (.aload_n 0, 1) := by decide +kernel
theorem dX0_alignment_1 : decode cX0_alignment 1 = .ok (.bipush 16, 2) := by decide +kernel
theorem dX0_alignment_3 : decode cX0_alignment 3 = .ok (.invokevirtual 30, 3) := by decide +kernel
theorem dX0_alignment_6 : decode cX0_alignment 6 = .ok (.iconst (-1), 1) := by decide +kernel
theorem dX0_alignment_7 : decode cX0_alignment 7 = .ok (.if_icmp .ne 10, 3) := by decide +kernel
theorem dX0_alignment_10 : decode cX0_alignment 10 = .ok (.aload_n 0, 1) := by decide +kernel
theorem dX0_alignment_11 : decode cX0_alignment 11 = .ok (.getfield 19, 3) := by decide +kernel
theorem dX0_alignment_14 : decode cX0_alignment 14 = .ok (.ifnonnull 10, 3) := by decide +kernel
theorem dX0_alignment_17 : decode cX0_alignment 17 = .ok (.aload_n 0, 1) := by decide +kernel
theorem dX0_alignment_18 : decode cX0_alignment 18 = .ok (.bipush 16, 2) := by decide +kernel
theorem dX0_alignment_20 : decode cX0_alignment 20 = .ok (.invokevirtual 30, 3) := by decide +kernel
theorem dX0_alignment_23 : decode cX0_alignment 23 = .ok (.ireturn, 1) := by decide +kernel
theorem dX0_alignment_24 : decode cX0_alignment 24 = .ok (.aload_n 0, 1) := by decide +kernel
theorem dX0_alignment_25 : decode cX0_alignment 25 = .ok (.getfield 19, 3) := by decide +kernel
theorem dX0_alignment_28 : decode cX0_alignment 28 = .ok (.iconst 3, 1) := by decide +kernel
theorem dX0_alignment_29 : decode cX0_alignment 29 = .ok (.invokevirtual 30, 3) := by decide +kernel
theorem dX0_alignment_32 : decode cX0_alignment 32 = .ok (.ireturn, 1) := by decide +kernel
theorem dX0_textLines_0 : decode cX0_textLines 0 = .ok (.aload_n 0, 1) := by decide +kernel
theorem dX0_textLines_1 : decode cX0_textLines 1 = .ok (.invokevirtual 73, 3) := by decide +kernel
theorem dX0_textLines_4 : decode cX0_textLines 4 = .ok (.bipush 8, 2) := by decide +kernel
theorem dX0_textLines_6 : decode cX0_textLines 6 = .ok (.idiv, 1) := by decide +kernel
theorem dX0_textLines_7 : decode cX0_textLines 7 = .ok (.iconst 1, 1) := by decide +kernel
theorem dX0_textLines_8 : decode cX0_textLines 8 = .ok (.invokestatic 56, 3) := by decide +kernel
theorem dX0_textLines_11 : decode cX0_textLines 11 = .ok (.istore_n 1, 1) := by decide +kernel
theorem dX0_textLines_12 : decode cX0_textLines 12 = .ok (.aload_n 0, 1) := by decide +kernel
theorem dX0_textLines_13 : decode cX0_textLines 13 = .ok (.bipush 19, 2) := by decide +kernel
theorem dX0_textLines_15 : decode cX0_textLines 15 = .ok (.invokevirtual 30, 3) := by decide +kernel
theorem dX0_textLines_18 : decode cX0_textLines 18 = .ok (.iload_n 1, 1) := by decide +kernel
theorem dX0_textLines_19 : decode cX0_textLines 19 = .ok (.iadd, 1) := by decide +kernel
theorem dX0_textLines_20 : decode cX0_textLines 20 = .ok (.iconst 1, 1) := by decide +kernel
theorem dX0_textLines_21 : decode cX0_textLines 21 = .ok (.isub, 1) := by decide +kernel
theorem dX0_textLines_22 : decode cX0_textLines 22 = .ok (.iload_n 1, 1) := by decide +kernel
theorem dX0_textLines_23 : decode cX0_textLines 23 = .ok (.idiv, 1) := by decide +kernel
theorem dX0_textLines_24 : decode cX0_textLines 24 = .ok (.ireturn, 1) := by decide +kernel
theorem dX0_covers_0 : decode cX0_covers 0 = .ok (.iload_n 1, 1) := by decide +kernel
theorem dX0_covers_1 : decode cX0_covers 1 = .ok (.aload_n 0, 1) := by decide +kernel
theorem dX0_covers_2 : decode cX0_covers 2 = .ok (.getfield 77, 3) := by decide +kernel
theorem dX0_covers_5 : decode cX0_covers 5 = .ok (.if_icmp .lt 41, 3) := by decide +kernel
theorem dX0_covers_8 : decode cX0_covers 8 = .ok (.iload_n 1, 1) := by decide +kernel
theorem dX0_covers_9 : decode cX0_covers 9 = .ok (.aload_n 0, 1) := by decide +kernel
theorem dX0_covers_10 : decode cX0_covers 10 = .ok (.getfield 77, 3) := by decide +kernel
theorem dX0_covers_13 : decode cX0_covers 13 = .ok (.aload_n 0, 1) := by decide +kernel
theorem dX0_covers_14 : decode cX0_covers 14 = .ok (.getfield 53, 3) := by decide +kernel
theorem dX0_covers_17 : decode cX0_covers 17 = .ok (.iadd, 1) := by decide +kernel
theorem dX0_covers_18 : decode cX0_covers 18 = .ok (.if_icmp .ge 28, 3) := by decide +kernel
theorem dX0_covers_21 : decode cX0_covers 21 = .ok (.iload_n 2, 1) := by decide +kernel
theorem dX0_covers_22 : decode cX0_covers 22 = .ok (.aload_n 0, 1) := by decide +kernel
theorem dX0_covers_23 : decode cX0_covers 23 = .ok (.getfield 80, 3) := by decide +kernel
theorem dX0_covers_26 : decode cX0_covers 26 = .ok (.if_icmp .lt 20, 3) := by decide +kernel
theorem dX0_covers_29 : decode cX0_covers 29 = .ok (.iload_n 2, 1) := by decide +kernel
theorem dX0_covers_30 : decode cX0_covers 30 = .ok (.aload_n 0, 1) := by decide +kernel
theorem dX0_covers_31 : decode cX0_covers 31 = .ok (.getfield 80, 3) := by decide +kernel
theorem dX0_covers_34 : decode cX0_covers 34 = .ok (.aload_n 0, 1) := by decide +kernel
theorem dX0_covers_35 : decode cX0_covers 35 = .ok (.getfield 62, 3) := by decide +kernel
theorem dX0_covers_38 : decode cX0_covers 38 = .ok (.iadd, 1) := by decide +kernel
theorem dX0_covers_39 : decode cX0_covers 39 = .ok (.if_icmp .ge 7, 3) := by decide +kernel
theorem dX0_covers_42 : decode cX0_covers 42 = .ok (.iconst 1, 1) := by decide +kernel
theorem dX0_covers_43 : decode cX0_covers 43 = .ok (.goto 4, 3) := by decide +kernel
theorem dX0_covers_46 : decode cX0_covers 46 = .ok (.iconst 0, 1) := by decide +kernel
theorem dX0_covers_47 : decode cX0_covers 47 = .ok (.ireturn, 1) := by decide +kernel
theorem dX1_init_0 : decode cX1_init 0 = .ok (.aload_n 0, 1) := by decide +kernel
theorem dX1_init_1 : decode cX1_init 1 = .ok (.invokespecial 3, 3) := by decide +kernel
theorem dX1_init_4 : decode cX1_init 4 = .ok (.aload_n 0, 1) := by decide +kernel
theorem dX1_init_5 : decode cX1_init 5 = .ok (.bipush 40, 2) := by decide +kernel
theorem dX1_init_7 : decode cX1_init 7 = .ok (.newarray .int, 2) := by decide +kernel
theorem dX1_init_9 : decode cX1_init 9 = .ok (.putfield 9, 3) := by decide +kernel
theorem dX1_init_12 : decode cX1_init 12 = .ok (.aload_n 0, 1) := by decide +kernel
theorem dX1_init_13 : decode cX1_init 13 = .ok (.bipush 40, 2) := by decide +kernel
theorem dX1_init_15 : decode cX1_init 15 = .ok (.newarray .int, 2) := by decide +kernel
theorem dX1_init_17 : decode cX1_init 17 = .ok (.putfield 15, 3) := by decide +kernel
theorem dX1_init_20 : decode cX1_init 20 = .ok (.aload_n 0, 1) := by decide +kernel
theorem dX1_init_21 : decode cX1_init 21 = .ok (.bipush 40, 2) := by decide +kernel
theorem dX1_init_23 : decode cX1_init 23 = .ok (.newarray .int, 2) := by decide +kernel
theorem dX1_init_25 : decode cX1_init 25 = .ok (.putfield 18, 3) := by decide +kernel
theorem dX1_init_28 : decode cX1_init 28 = .ok (.aload_n 0, 1) := by decide +kernel
theorem dX1_init_29 : decode cX1_init 29 = .ok (.bipush 40, 2) := by decide +kernel
theorem dX1_init_31 : decode cX1_init 31 = .ok (.newarray .int, 2) := by decide +kernel
theorem dX1_init_33 : decode cX1_init 33 = .ok (.putfield 21, 3) := by decide +kernel
theorem dX1_init_36 : decode cX1_init 36 = .ok (.aload_n 0, 1) := by decide +kernel
theorem dX1_init_37 : decode cX1_init 37 = .ok (.bipush 40, 2) := by decide +kernel
theorem dX1_init_39 : decode cX1_init 39 = .ok (.newarray .int, 2) := by decide +kernel
theorem dX1_init_41 : decode cX1_init 41 = .ok (.putfield 24, 3) := by decide +kernel
theorem dX1_init_44 : decode cX1_init 44 = .ok (.aload_n 0, 1) := by decide +kernel
theorem dX1_init_45 : decode cX1_init 45 = .ok (.bipush 40, 2) := by decide +kernel
theorem dX1_init_47 : decode cX1_init 47 = .ok (.newarray .int, 2) := by decide +kernel
theorem dX1_init_49 : decode cX1_init 49 = .ok (.putfield 27, 3) := by decide +kernel
theorem dX1_init_52 : decode cX1_init 52 = .ok (.aload_n 0, 1) := by decide +kernel
theorem dX1_init_53 : decode cX1_init 53 = .ok (.bipush 40, 2) := by decide +kernel
theorem dX1_init_55 : decode cX1_init 55 = .ok (.newarray .int, 2) := by decide +kernel
theorem dX1_init_57 : decode cX1_init 57 = .ok (.putfield 30, 3) := by decide +kernel
theorem dX1_init_60 : decode cX1_init 60 = .ok (.aload_n 0, 1) := by decide +kernel
theorem dX1_init_61 : decode cX1_init 61 = .ok (.bipush 40, 2) := by decide +kernel
theorem dX1_init_63 : decode cX1_init 63 = .ok (.newarray .int, 2) := by decide +kernel
theorem dX1_init_65 : decode cX1_init 65 = .ok (.putfield 33, 3) := by decide +kernel
theorem dX1_init_68 : decode cX1_init 68 = .ok (.aload_n 0, 1) := by decide +kernel
theorem dX1_init_69 : decode cX1_init 69 = .ok (.bipush 40, 2) := by decide +kernel
theorem dX1_init_71 : decode cX1_init 71 = .ok (.newarray .boolean, 2) := by decide +kernel
theorem dX1_init_73 : decode cX1_init 73 = .ok (.putfield 36, 3) := by decide +kernel
theorem dX1_init_76 : decode cX1_init 76 = .ok (.return_, 1) := by decide +kernel
theorem dX1_clear_0 : decode cX1_clear 0 = .ok (.aload_n 0, 1) := by decide +kernel
theorem dX1_clear_1 : decode cX1_clear 1 = .ok (.iconst 0, 1) := by decide +kernel
theorem dX1_clear_2 : decode cX1_clear 2 = .ok (.putfield 40, 3) := by decide +kernel
theorem dX1_clear_5 : decode cX1_clear 5 = .ok (.aload_n 0, 1) := by decide +kernel
theorem dX1_clear_6 : decode cX1_clear 6 = .ok (.iconst 0, 1) := by decide +kernel
theorem dX1_clear_7 : decode cX1_clear 7 = .ok (.putfield 44, 3) := by decide +kernel
theorem dX1_clear_10 : decode cX1_clear 10 = .ok (.return_, 1) := by decide +kernel
theorem dX1_put_0 : decode cX1_put 0 = .ok (.aload_n 0, 1) := by decide +kernel
theorem dX1_put_1 : decode cX1_put 1 = .ok (.getfield 40, 3) := by decide +kernel
theorem dX1_put_4 : decode cX1_put 4 = .ok (.bipush 40, 2) := by decide +kernel
theorem dX1_put_6 : decode cX1_put 6 = .ok (.if_icmp .lt 4, 3) := by decide +kernel
theorem dX1_put_9 : decode cX1_put 9 = .ok (.return_, 1) := by decide +kernel
theorem dX1_put_10 : decode cX1_put 10 = .ok (.aload_n 0, 1) := by decide +kernel
theorem dX1_put_11 : decode cX1_put 11 = .ok (.getfield 9, 3) := by decide +kernel
theorem dX1_put_14 : decode cX1_put 14 = .ok (.aload_n 0, 1) := by decide +kernel
theorem dX1_put_15 : decode cX1_put 15 = .ok (.getfield 40, 3) := by decide +kernel
theorem dX1_put_18 : decode cX1_put 18 = .ok (.aload_n 1, 1) := by decide +kernel
theorem dX1_put_19 : decode cX1_put 19 = .ok (.iload_n 2, 1) := by decide +kernel
theorem dX1_put_20 : decode cX1_put 20 = .ok (.invokestatic 47, 3) := by decide +kernel
theorem dX1_put_23 : decode cX1_put 23 = .ok (.iastore, 1) := by decide +kernel
theorem dX1_put_24 : decode cX1_put 24 = .ok (.aload_n 0, 1) := by decide +kernel
theorem dX1_put_25 : decode cX1_put 25 = .ok (.getfield 15, 3) := by decide +kernel
theorem dX1_put_28 : decode cX1_put 28 = .ok (.aload_n 0, 1) := by decide +kernel
theorem dX1_put_29 : decode cX1_put 29 = .ok (.getfield 40, 3) := by decide +kernel
theorem dX1_put_32 : decode cX1_put 32 = .ok (.aload_n 1, 1) := by decide +kernel
theorem dX1_put_33 : decode cX1_put 33 = .ok (.iload_n 2, 1) := by decide +kernel
theorem dX1_put_34 : decode cX1_put 34 = .ok (.ifCond .eq 8, 3) := by decide +kernel
theorem dX1_put_37 : decode cX1_put 37 = .ok (.bipush 12, 2) := by decide +kernel
theorem dX1_put_39 : decode cX1_put 39 = .ok (.goto 5, 3) := by decide +kernel
theorem dX1_put_42 : decode cX1_put 42 = .ok (.bipush 13, 2) := by decide +kernel
theorem dX1_put_44 : decode cX1_put 44 = .ok (.invokevirtual 51, 3) := by decide +kernel
theorem dX1_put_47 : decode cX1_put 47 = .ok (.iastore, 1) := by decide +kernel
theorem dX1_put_48 : decode cX1_put 48 = .ok (.aload_n 0, 1) := by decide +kernel
theorem dX1_put_49 : decode cX1_put 49 = .ok (.getfield 18, 3) := by decide +kernel
theorem dX1_put_52 : decode cX1_put 52 = .ok (.aload_n 0, 1) := by decide +kernel
theorem dX1_put_53 : decode cX1_put 53 = .ok (.getfield 40, 3) := by decide +kernel
theorem dX1_put_56 : decode cX1_put 56 = .ok (.aload_n 1, 1) := by decide +kernel
theorem dX1_put_57 : decode cX1_put 57 = .ok (.iload_n 2, 1) := by decide +kernel
theorem dX1_put_58 : decode cX1_put 58 = .ok (.ifCond .eq 8, 3) := by decide +kernel
theorem dX1_put_61 : decode cX1_put 61 = .ok (.bipush 14, 2) := by decide +kernel
theorem dX1_put_63 : decode cX1_put 63 = .ok (.goto 5, 3) := by decide +kernel
theorem dX1_put_66 : decode cX1_put 66 = .ok (.bipush 15, 2) := by decide +kernel
theorem dX1_put_68 : decode cX1_put 68 = .ok (.invokevirtual 51, 3) := by decide +kernel
theorem dX1_put_71 : decode cX1_put 71 = .ok (.iastore, 1) := by decide +kernel
theorem dX1_put_72 : decode cX1_put 72 = .ok (.aload_n 0, 1) := by decide +kernel
theorem dX1_put_73 : decode cX1_put 73 = .ok (.getfield 21, 3) := by decide +kernel
theorem dX1_put_76 : decode cX1_put 76 = .ok (.aload_n 0, 1) := by decide +kernel
theorem dX1_put_77 : decode cX1_put 77 = .ok (.getfield 40, 3) := by decide +kernel
theorem dX1_put_80 : decode cX1_put 80 = .ok (.aload_n 1, 1) := by decide +kernel
theorem dX1_put_81 : decode cX1_put 81 = .ok (.bipush 8, 2) := by decide +kernel
theorem dX1_put_83 : decode cX1_put 83 = .ok (.invokevirtual 51, 3) := by decide +kernel
theorem dX1_put_86 : decode cX1_put 86 = .ok (.iastore, 1) := by decide +kernel
theorem dX1_put_87 : decode cX1_put 87 = .ok (.aload_n 0, 1) := by decide +kernel
theorem dX1_put_88 : decode cX1_put 88 = .ok (.getfield 24, 3) := by decide +kernel
theorem dX1_put_91 : decode cX1_put 91 = .ok (.aload_n 0, 1) := by decide +kernel
theorem dX1_put_92 : decode cX1_put 92 = .ok (.getfield 40, 3) := by decide +kernel
theorem dX1_put_95 : decode cX1_put 95 = .ok (.aload_n 1, 1) := by decide +kernel
theorem dX1_put_96 : decode cX1_put 96 = .ok (.bipush 9, 2) := by decide +kernel
theorem dX1_put_98 : decode cX1_put 98 = .ok (.invokevirtual 51, 3) := by decide +kernel
theorem dX1_put_101 : decode cX1_put 101 = .ok (.iastore, 1) := by decide +kernel
theorem dX1_put_102 : decode cX1_put 102 = .ok (.aload_n 0, 1) := by decide +kernel
theorem dX1_put_103 : decode cX1_put 103 = .ok (.dup, 1) := by decide +kernel
theorem dX1_put_104 : decode cX1_put 104 = .ok (.getfield 44, 3) := by decide +kernel
theorem dX1_put_107 : decode cX1_put 107 = .ok (.aload_n 1, 1) := by decide +kernel
theorem dX1_put_108 : decode cX1_put 108 = .ok (.invokevirtual 57, 3) := by decide +kernel
theorem dX1_put_111 : decode cX1_put 111 = .ok (.iadd, 1) := by decide +kernel
theorem dX1_put_112 : decode cX1_put 112 = .ok (.putfield 44, 3) := by decide +kernel
theorem dX1_put_115 : decode cX1_put 115 = .ok (.aload_n 0, 1) := by decide +kernel
theorem dX1_put_116 : decode cX1_put 116 = .ok (.dup, 1) := by decide +kernel
theorem dX1_put_117 : decode cX1_put 117 = .ok (.getfield 40, 3) := by decide +kernel
theorem dX1_put_120 : decode cX1_put 120 = .ok (.iconst 1, 1) := by decide +kernel
theorem dX1_put_121 : decode cX1_put 121 = .ok (.iadd, 1) := by decide +kernel
theorem dX1_put_122 : decode cX1_put 122 = .ok (.putfield 40, 3) := by decide +kernel
theorem dX1_put_125 : decode cX1_put 125 = .ok (.return_, 1) := by decide +kernel
theorem dX1_baseOf_0 : decode cX1_baseOf 0 = .ok (.aload_n 0, 1) := by decide +kernel
theorem dX1_baseOf_1 : decode cX1_baseOf 1 = .ok (.bipush 7, 2) := by decide +kernel
theorem dX1_baseOf_3 : decode cX1_baseOf 3 = .ok (.invokevirtual 51, 3) := by decide +kernel
theorem dX1_baseOf_6 : decode cX1_baseOf 6 = .ok (.iconst (-1), 1) := by decide +kernel
theorem dX1_baseOf_7 : decode cX1_baseOf 7 = .ok (.if_icmp .eq 10, 3) := by decide +kernel
theorem dX1_baseOf_10 : decode cX1_baseOf 10 = .ok (.aload_n 0, 1) := by decide +kernel
theorem dX1_baseOf_11 : decode cX1_baseOf 11 = .ok (.bipush 7, 2) := by decide +kernel
theorem dX1_baseOf_13 : decode cX1_baseOf 13 = .ok (.invokevirtual 51, 3) := by decide +kernel
theorem dX1_baseOf_16 : decode cX1_baseOf 16 = .ok (.ireturn, 1) := by decide +kernel
theorem dX1_baseOf_17 : decode cX1_baseOf 17 = .ok (.iload_n 1, 1) := by decide +kernel
theorem dX1_baseOf_18 : decode cX1_baseOf 18 = .ok (.ifCond .eq 10, 3) := by decide +kernel
theorem dX1_baseOf_21 : decode cX1_baseOf 21 = .ok (.aload_n 0, 1) := by decide +kernel
theorem dX1_baseOf_22 : decode cX1_baseOf 22 = .ok (.getfield 60, 3) := by decide +kernel
theorem dX1_baseOf_25 : decode cX1_baseOf 25 = .ok (.goto 7, 3) := by decide +kernel
theorem dX1_baseOf_28 : decode cX1_baseOf 28 = .ok (.aload_n 0, 1) := by decide +kernel
theorem dX1_baseOf_29 : decode cX1_baseOf 29 = .ok (.getfield 63, 3) := by decide +kernel
theorem dX1_baseOf_32 : decode cX1_baseOf 32 = .ok (.ireturn, 1) := by decide +kernel
theorem dX1_sizeAt_0 : decode cX1_sizeAt 0 = .ok (.iload_n 1, 1) := by decide +kernel
theorem dX1_sizeAt_1 : decode cX1_sizeAt 1 = .ok (.ifCond .lt 18, 3) := by decide +kernel
theorem dX1_sizeAt_4 : decode cX1_sizeAt 4 = .ok (.iload_n 1, 1) := by decide +kernel
theorem dX1_sizeAt_5 : decode cX1_sizeAt 5 = .ok (.bipush 40, 2) := by decide +kernel
theorem dX1_sizeAt_7 : decode cX1_sizeAt 7 = .ok (.if_icmp .ge 12, 3) := by decide +kernel
theorem dX1_sizeAt_10 : decode cX1_sizeAt 10 = .ok (.aload_n 0, 1) := by decide +kernel
theorem dX1_sizeAt_11 : decode cX1_sizeAt 11 = .ok (.getfield 30, 3) := by decide +kernel
theorem dX1_sizeAt_14 : decode cX1_sizeAt 14 = .ok (.iload_n 1, 1) := by decide +kernel
theorem dX1_sizeAt_15 : decode cX1_sizeAt 15 = .ok (.iaload, 1) := by decide +kernel
theorem dX1_sizeAt_16 : decode cX1_sizeAt 16 = .ok (.goto 4, 3) := by decide +kernel
theorem dX1_sizeAt_19 : decode cX1_sizeAt 19 = .ok (.iconst 0, 1) := by decide +kernel
theorem dX1_sizeAt_20 : decode cX1_sizeAt 20 = .ok (.ireturn, 1) := by decide +kernel
theorem dX1_share_0 : decode cX1_share 0 = .ok (.iload_n 1, 1) := by decide +kernel
theorem dX1_share_1 : decode cX1_share 1 = .ok (.aload_n 0, 1) := by decide +kernel
theorem dX1_share_2 : decode cX1_share 2 = .ok (.getfield 44, 3) := by decide +kernel
theorem dX1_share_5 : decode cX1_share 5 = .ok (.isub, 1) := by decide +kernel
theorem dX1_share_6 : decode cX1_share 6 = .ok (.aload_n 0, 1) := by decide +kernel
theorem dX1_share_7 : decode cX1_share 7 = .ok (.getfield 40, 3) := by decide +kernel
theorem dX1_share_10 : decode cX1_share 10 = .ok (.iload_n 2, 1) := by decide +kernel
theorem dX1_share_11 : decode cX1_share 11 = .ok (.invokestatic 66, 3) := by decide +kernel
theorem dX1_share_14 : decode cX1_share 14 = .ok (.isub, 1) := by decide +kernel
theorem dX1_share_15 : decode cX1_share 15 = .ok (.istore_n 3, 1) := by decide +kernel
theorem dX1_share_16 : decode cX1_share 16 = .ok (.aload_n 0, 1) := by decide +kernel
theorem dX1_share_17 : decode cX1_share 17 = .ok (.invokevirtual 70, 3) := by decide +kernel
theorem dX1_share_20 : decode cX1_share 20 = .ok (.iload_n 3, 1) := by decide +kernel
theorem dX1_share_21 : decode cX1_share 21 = .ok (.if_icmp .ge 7, 3) := by decide +kernel
theorem dX1_share_24 : decode cX1_share 24 = .ok (.iconst 1, 1) := by decide +kernel
theorem dX1_share_25 : decode cX1_share 25 = .ok (.goto 4, 3) := by decide +kernel
theorem dX1_share_28 : decode cX1_share 28 = .ok (.iconst 0, 1) := by decide +kernel
theorem dX1_share_29 : decode cX1_share 29 = .ok (.istore 4, 2) := by decide +kernel
theorem dX1_share_31 : decode cX1_share 31 = .ok (.iconst 0, 1) := by decide +kernel
theorem dX1_share_32 : decode cX1_share 32 = .ok (.istore 5, 2) := by decide +kernel
theorem dX1_share_34 : decode cX1_share 34 = .ok (.iload 5, 2) := by decide +kernel
theorem dX1_share_36 : decode cX1_share 36 = .ok (.aload_n 0, 1) := by decide +kernel
theorem dX1_share_37 : decode cX1_share 37 = .ok (.getfield 40, 3) := by decide +kernel
theorem dX1_share_40 : decode cX1_share 40 = .ok (.if_icmp .ge 117, 3) := by decide +kernel
theorem dX1_share_43 : decode cX1_share 43 = .ok (.iload 5, 2) := by decide +kernel
theorem dX1_share_45 : decode cX1_share 45 = .ok (.bipush 40, 2) := by decide +kernel
theorem dX1_share_47 : decode cX1_share 47 = .ok (.if_icmp .ge 110, 3) := by decide +kernel
theorem dX1_share_50 : decode cX1_share 50 = .ok (.aload_n 0, 1) := by decide +kernel
theorem dX1_share_51 : decode cX1_share 51 = .ok (.getfield 27, 3) := by decide +kernel
theorem dX1_share_54 : decode cX1_share 54 = .ok (.iload 5, 2) := by decide +kernel
theorem dX1_share_56 : decode cX1_share 56 = .ok (.iload 4, 2) := by decide +kernel
theorem dX1_share_58 : decode cX1_share 58 = .ok (.ifCond .eq 13, 3) := by decide +kernel
theorem dX1_share_61 : decode cX1_share 61 = .ok (.aload_n 0, 1) := by decide +kernel
theorem dX1_share_62 : decode cX1_share 62 = .ok (.getfield 21, 3) := by decide +kernel
theorem dX1_share_65 : decode cX1_share 65 = .ok (.iload 5, 2) := by decide +kernel
theorem dX1_share_67 : decode cX1_share 67 = .ok (.iaload, 1) := by decide +kernel
theorem dX1_share_68 : decode cX1_share 68 = .ok (.goto 18, 3) := by decide +kernel
theorem dX1_share_71 : decode cX1_share 71 = .ok (.aload_n 0, 1) := by decide +kernel
theorem dX1_share_72 : decode cX1_share 72 = .ok (.getfield 24, 3) := by decide +kernel
theorem dX1_share_75 : decode cX1_share 75 = .ok (.iload 5, 2) := by decide +kernel
theorem dX1_share_77 : decode cX1_share 77 = .ok (.iaload, 1) := by decide +kernel
theorem dX1_share_78 : decode cX1_share 78 = .ok (.aload_n 0, 1) := by decide +kernel
theorem dX1_share_79 : decode cX1_share 79 = .ok (.getfield 9, 3) := by decide +kernel
theorem dX1_share_82 : decode cX1_share 82 = .ok (.iload 5, 2) := by decide +kernel
theorem dX1_share_84 : decode cX1_share 84 = .ok (.iaload, 1) := by decide +kernel
theorem dX1_share_85 : decode cX1_share 85 = .ok (.imul, 1) := by decide +kernel
theorem dX1_share_86 : decode cX1_share 86 = .ok (.iastore, 1) := by decide +kernel
theorem dX1_share_87 : decode cX1_share 87 = .ok (.aload_n 0, 1) := by decide +kernel
theorem dX1_share_88 : decode cX1_share 88 = .ok (.getfield 36, 3) := by decide +kernel
theorem dX1_share_91 : decode cX1_share 91 = .ok (.iload 5, 2) := by decide +kernel
theorem dX1_share_93 : decode cX1_share 93 = .ok (.aload_n 0, 1) := by decide +kernel
theorem dX1_share_94 : decode cX1_share 94 = .ok (.getfield 27, 3) := by decide +kernel
theorem dX1_share_97 : decode cX1_share 97 = .ok (.iload 5, 2) := by decide +kernel
theorem dX1_share_99 : decode cX1_share 99 = .ok (.iaload, 1) := by decide +kernel
theorem dX1_share_100 : decode cX1_share 100 = .ok (.ifCond .eq 45, 3) := by decide +kernel
theorem dX1_share_103 : decode cX1_share 103 = .ok (.iload 4, 2) := by decide +kernel
theorem dX1_share_105 : decode cX1_share 105 = .ok (.ifCond .eq 23, 3) := by decide +kernel
theorem dX1_share_108 : decode cX1_share 108 = .ok (.aload_n 0, 1) := by decide +kernel
theorem dX1_share_109 : decode cX1_share 109 = .ok (.getfield 9, 3) := by decide +kernel
theorem dX1_share_112 : decode cX1_share 112 = .ok (.iload 5, 2) := by decide +kernel
theorem dX1_share_114 : decode cX1_share 114 = .ok (.iaload, 1) := by decide +kernel
theorem dX1_share_115 : decode cX1_share 115 = .ok (.aload_n 0, 1) := by decide +kernel
theorem dX1_share_116 : decode cX1_share 116 = .ok (.getfield 30, 3) := by decide +kernel
theorem dX1_share_119 : decode cX1_share 119 = .ok (.iload 5, 2) := by decide +kernel
theorem dX1_share_121 : decode cX1_share 121 = .ok (.iaload, 1) := by decide +kernel
theorem dX1_share_122 : decode cX1_share 122 = .ok (.if_icmp .le 27, 3) := by decide +kernel
theorem dX1_share_125 : decode cX1_share 125 = .ok (.goto 20, 3) := by decide +kernel
theorem dX1_share_128 : decode cX1_share 128 = .ok (.aload_n 0, 1) := by decide +kernel
theorem dX1_share_129 : decode cX1_share 129 = .ok (.getfield 9, 3) := by decide +kernel
theorem dX1_share_132 : decode cX1_share 132 = .ok (.iload 5, 2) := by decide +kernel
theorem dX1_share_134 : decode cX1_share 134 = .ok (.iaload, 1) := by decide +kernel
theorem dX1_share_135 : decode cX1_share 135 = .ok (.aload_n 0, 1) := by decide +kernel
theorem dX1_share_136 : decode cX1_share 136 = .ok (.getfield 30, 3) := by decide +kernel
theorem dX1_share_139 : decode cX1_share 139 = .ok (.iload 5, 2) := by decide +kernel
theorem dX1_share_141 : decode cX1_share 141 = .ok (.iaload, 1) := by decide +kernel
theorem dX1_share_142 : decode cX1_share 142 = .ok (.if_icmp .ge 7, 3) := by decide +kernel
theorem dX1_share_145 : decode cX1_share 145 = .ok (.iconst 1, 1) := by decide +kernel
theorem dX1_share_146 : decode cX1_share 146 = .ok (.goto 4, 3) := by decide +kernel
theorem dX1_share_149 : decode cX1_share 149 = .ok (.iconst 0, 1) := by decide +kernel
theorem dX1_share_150 : decode cX1_share 150 = .ok (.bastore, 1) := by decide +kernel
theorem dX1_share_151 : decode cX1_share 151 = .ok (.iinc 5 1, 3) := by decide +kernel
theorem dX1_share_154 : decode cX1_share 154 = .ok (.goto (-120), 3) := by decide +kernel
theorem dX1_share_157 : decode cX1_share 157 = .ok (.aload_n 0, 1) := by decide +kernel
theorem dX1_share_158 : decode cX1_share 158 = .ok (.invokevirtual 73, 3) := by decide +kernel
theorem dX1_share_161 : decode cX1_share 161 = .ok (.lstore 5, 2) := by decide +kernel
theorem dX1_share_163 : decode cX1_share 163 = .ok (.iconst 0, 1) := by decide +kernel
theorem dX1_share_164 : decode cX1_share 164 = .ok (.istore 7, 2) := by decide +kernel
theorem dX1_share_166 : decode cX1_share 166 = .ok (.iload 7, 2) := by decide +kernel
theorem dX1_share_168 : decode cX1_share 168 = .ok (.aload_n 0, 1) := by decide +kernel
theorem dX1_share_169 : decode cX1_share 169 = .ok (.getfield 40, 3) := by decide +kernel
theorem dX1_share_172 : decode cX1_share 172 = .ok (.if_icmp .ge 59, 3) := by decide +kernel
theorem dX1_share_175 : decode cX1_share 175 = .ok (.lload 5, 2) := by decide +kernel
theorem dX1_share_177 : decode cX1_share 177 = .ok (.lconst 0, 1) := by decide +kernel
theorem dX1_share_178 : decode cX1_share 178 = .ok (.lcmp, 1) := by decide +kernel
theorem dX1_share_179 : decode cX1_share 179 = .ok (.ifCond .le 52, 3) := by decide +kernel
theorem dX1_share_182 : decode cX1_share 182 = .ok (.aload_n 0, 1) := by decide +kernel
theorem dX1_share_183 : decode cX1_share 183 = .ok (.iload_n 3, 1) := by decide +kernel
theorem dX1_share_184 : decode cX1_share 184 = .ok (.invokevirtual 77, 3) := by decide +kernel
theorem dX1_share_187 : decode cX1_share 187 = .ok (.istore 8, 2) := by decide +kernel
theorem dX1_share_189 : decode cX1_share 189 = .ok (.aload_n 0, 1) := by decide +kernel
theorem dX1_share_190 : decode cX1_share 190 = .ok (.aload_n 0, 1) := by decide +kernel
theorem dX1_share_191 : decode cX1_share 191 = .ok (.iload 4, 2) := by decide +kernel
theorem dX1_share_193 : decode cX1_share 193 = .ok (.ifCond .eq 8, 3) := by decide +kernel
theorem dX1_share_196 : decode cX1_share 196 = .ok (.iload 8, 2) := by decide +kernel
theorem dX1_share_198 : decode cX1_share 198 = .ok (.goto 6, 3) := by decide +kernel
theorem dX1_share_201 : decode cX1_share 201 = .ok (.iload 8, 2) := by decide +kernel
theorem dX1_share_203 : decode cX1_share 203 = .ok (.ineg, 1) := by decide +kernel
theorem dX1_share_204 : decode cX1_share 204 = .ok (.iconst 0, 1) := by decide +kernel
theorem dX1_share_205 : decode cX1_share 205 = .ok (.invokestatic 80, 3) := by decide +kernel
theorem dX1_share_208 : decode cX1_share 208 = .ok (.i2l, 1) := by decide +kernel
theorem dX1_share_209 : decode cX1_share 209 = .ok (.lload 5, 2) := by decide +kernel
theorem dX1_share_211 : decode cX1_share 211 = .ok (.iload 4, 2) := by decide +kernel
theorem dX1_share_213 : decode cX1_share 213 = .ok (.invokevirtual 85, 3) := by decide +kernel
theorem dX1_share_216 : decode cX1_share 216 = .ok (.invokevirtual 89, 3) := by decide +kernel
theorem dX1_share_219 : decode cX1_share 219 = .ok (.aload_n 0, 1) := by decide +kernel
theorem dX1_share_220 : decode cX1_share 220 = .ok (.invokevirtual 73, 3) := by decide +kernel
theorem dX1_share_223 : decode cX1_share 223 = .ok (.lstore 5, 2) := by decide +kernel
theorem dX1_share_225 : decode cX1_share 225 = .ok (.iinc 7 1, 3) := by decide +kernel
theorem dX1_share_228 : decode cX1_share 228 = .ok (.goto (-62), 3) := by decide +kernel
theorem dX1_share_231 : decode cX1_share 231 = .ok (.return_, 1) := by decide +kernel
theorem dX1_begin_0 : decode cX1_begin 0 = .ok (.iconst 0, 1) := by decide +kernel
theorem dX1_begin_1 : decode cX1_begin 1 = .ok (.istore_n 1, 1) := by decide +kernel
theorem dX1_begin_2 : decode cX1_begin 2 = .ok (.iconst 0, 1) := by decide +kernel
theorem dX1_begin_3 : decode cX1_begin 3 = .ok (.istore_n 2, 1) := by decide +kernel
theorem dX1_begin_4 : decode cX1_begin 4 = .ok (.iload_n 2, 1) := by decide +kernel
theorem dX1_begin_5 : decode cX1_begin 5 = .ok (.aload_n 0, 1) := by decide +kernel
theorem dX1_begin_6 : decode cX1_begin 6 = .ok (.getfield 40, 3) := by decide +kernel
theorem dX1_begin_9 : decode cX1_begin 9 = .ok (.if_icmp .ge 51, 3) := by decide +kernel
theorem dX1_begin_12 : decode cX1_begin 12 = .ok (.iload_n 2, 1) := by decide +kernel
theorem dX1_begin_13 : decode cX1_begin 13 = .ok (.bipush 40, 2) := by decide +kernel
theorem dX1_begin_15 : decode cX1_begin 15 = .ok (.if_icmp .ge 45, 3) := by decide +kernel
theorem dX1_begin_18 : decode cX1_begin 18 = .ok (.aload_n 0, 1) := by decide +kernel
theorem dX1_begin_19 : decode cX1_begin 19 = .ok (.getfield 30, 3) := by decide +kernel
theorem dX1_begin_22 : decode cX1_begin 22 = .ok (.iload_n 2, 1) := by decide +kernel
theorem dX1_begin_23 : decode cX1_begin 23 = .ok (.aload_n 0, 1) := by decide +kernel
theorem dX1_begin_24 : decode cX1_begin 24 = .ok (.getfield 9, 3) := by decide +kernel
theorem dX1_begin_27 : decode cX1_begin 27 = .ok (.iload_n 2, 1) := by decide +kernel
theorem dX1_begin_28 : decode cX1_begin 28 = .ok (.iaload, 1) := by decide +kernel
theorem dX1_begin_29 : decode cX1_begin 29 = .ok (.aload_n 0, 1) := by decide +kernel
theorem dX1_begin_30 : decode cX1_begin 30 = .ok (.getfield 15, 3) := by decide +kernel
theorem dX1_begin_33 : decode cX1_begin 33 = .ok (.iload_n 2, 1) := by decide +kernel
theorem dX1_begin_34 : decode cX1_begin 34 = .ok (.iaload, 1) := by decide +kernel
theorem dX1_begin_35 : decode cX1_begin 35 = .ok (.aload_n 0, 1) := by decide +kernel
theorem dX1_begin_36 : decode cX1_begin 36 = .ok (.getfield 18, 3) := by decide +kernel
theorem dX1_begin_39 : decode cX1_begin 39 = .ok (.iload_n 2, 1) := by decide +kernel
theorem dX1_begin_40 : decode cX1_begin 40 = .ok (.iaload, 1) := by decide +kernel
theorem dX1_begin_41 : decode cX1_begin 41 = .ok (.invokestatic 93, 3) := by decide +kernel
theorem dX1_begin_44 : decode cX1_begin 44 = .ok (.iastore, 1) := by decide +kernel
theorem dX1_begin_45 : decode cX1_begin 45 = .ok (.iload_n 1, 1) := by decide +kernel
theorem dX1_begin_46 : decode cX1_begin 46 = .ok (.aload_n 0, 1) := by decide +kernel
theorem dX1_begin_47 : decode cX1_begin 47 = .ok (.getfield 30, 3) := by decide +kernel
theorem dX1_begin_50 : decode cX1_begin 50 = .ok (.iload_n 2, 1) := by decide +kernel
theorem dX1_begin_51 : decode cX1_begin 51 = .ok (.iaload, 1) := by decide +kernel
theorem dX1_begin_52 : decode cX1_begin 52 = .ok (.iadd, 1) := by decide +kernel
theorem dX1_begin_53 : decode cX1_begin 53 = .ok (.istore_n 1, 1) := by decide +kernel
theorem dX1_begin_54 : decode cX1_begin 54 = .ok (.iinc 2 1, 3) := by decide +kernel
theorem dX1_begin_57 : decode cX1_begin 57 = .ok (.goto (-53), 3) := by decide +kernel
theorem dX1_begin_60 : decode cX1_begin 60 = .ok (.iload_n 1, 1) := by decide +kernel
theorem dX1_begin_61 : decode cX1_begin 61 = .ok (.ireturn, 1) := by decide +kernel
theorem dX1_restOf_0 : decode cX1_restOf 0 = .ok (.iload_n 1, 1) := by decide +kernel
theorem dX1_restOf_1 : decode cX1_restOf 1 = .ok (.istore_n 2, 1) := by decide +kernel
theorem dX1_restOf_2 : decode cX1_restOf 2 = .ok (.iconst 0, 1) := by decide +kernel
theorem dX1_restOf_3 : decode cX1_restOf 3 = .ok (.istore_n 3, 1) := by decide +kernel
theorem dX1_restOf_4 : decode cX1_restOf 4 = .ok (.iload_n 3, 1) := by decide +kernel
theorem dX1_restOf_5 : decode cX1_restOf 5 = .ok (.aload_n 0, 1) := by decide +kernel
theorem dX1_restOf_6 : decode cX1_restOf 6 = .ok (.getfield 40, 3) := by decide +kernel
theorem dX1_restOf_9 : decode cX1_restOf 9 = .ok (.if_icmp .ge 42, 3) := by decide +kernel
theorem dX1_restOf_12 : decode cX1_restOf 12 = .ok (.iload_n 3, 1) := by decide +kernel
theorem dX1_restOf_13 : decode cX1_restOf 13 = .ok (.bipush 40, 2) := by decide +kernel
theorem dX1_restOf_15 : decode cX1_restOf 15 = .ok (.if_icmp .ge 36, 3) := by decide +kernel
theorem dX1_restOf_18 : decode cX1_restOf 18 = .ok (.iload_n 2, 1) := by decide +kernel
theorem dX1_restOf_19 : decode cX1_restOf 19 = .ok (.aload_n 0, 1) := by decide +kernel
theorem dX1_restOf_20 : decode cX1_restOf 20 = .ok (.getfield 36, 3) := by decide +kernel
theorem dX1_restOf_23 : decode cX1_restOf 23 = .ok (.iload_n 3, 1) := by decide +kernel
theorem dX1_restOf_24 : decode cX1_restOf 24 = .ok (.baload, 1) := by decide +kernel
theorem dX1_restOf_25 : decode cX1_restOf 25 = .ok (.ifCond .eq 12, 3) := by decide +kernel
theorem dX1_restOf_28 : decode cX1_restOf 28 = .ok (.aload_n 0, 1) := by decide +kernel
theorem dX1_restOf_29 : decode cX1_restOf 29 = .ok (.getfield 30, 3) := by decide +kernel
theorem dX1_restOf_32 : decode cX1_restOf 32 = .ok (.iload_n 3, 1) := by decide +kernel
theorem dX1_restOf_33 : decode cX1_restOf 33 = .ok (.iaload, 1) := by decide +kernel
theorem dX1_restOf_34 : decode cX1_restOf 34 = .ok (.goto 9, 3) := by decide +kernel
theorem dX1_restOf_37 : decode cX1_restOf 37 = .ok (.aload_n 0, 1) := by decide +kernel
theorem dX1_restOf_38 : decode cX1_restOf 38 = .ok (.getfield 9, 3) := by decide +kernel
theorem dX1_restOf_41 : decode cX1_restOf 41 = .ok (.iload_n 3, 1) := by decide +kernel
theorem dX1_restOf_42 : decode cX1_restOf 42 = .ok (.iaload, 1) := by decide +kernel
theorem dX1_restOf_43 : decode cX1_restOf 43 = .ok (.isub, 1) := by decide +kernel
theorem dX1_restOf_44 : decode cX1_restOf 44 = .ok (.istore_n 2, 1) := by decide +kernel
theorem dX1_restOf_45 : decode cX1_restOf 45 = .ok (.iinc 3 1, 3) := by decide +kernel
theorem dX1_restOf_48 : decode cX1_restOf 48 = .ok (.goto (-44), 3) := by decide +kernel
theorem dX1_restOf_51 : decode cX1_restOf 51 = .ok (.iload_n 2, 1) := by decide +kernel
theorem dX1_restOf_52 : decode cX1_restOf 52 = .ok (.ireturn, 1) := by decide +kernel
theorem dX1_openFactors_0 : decode cX1_openFactors 0 = .ok (.lconst 0, 1) := by decide +kernel
theorem dX1_openFactors_1 : decode cX1_openFactors 1 = .ok (.lstore_n 1, 1) := by decide +kernel
theorem dX1_openFactors_2 : decode cX1_openFactors 2 = .ok (.iconst 0, 1) := by decide +kernel
theorem dX1_openFactors_3 : decode cX1_openFactors 3 = .ok (.istore_n 3, 1) := by decide +kernel
theorem dX1_openFactors_4 : decode cX1_openFactors 4 = .ok (.iload_n 3, 1) := by decide +kernel
theorem dX1_openFactors_5 : decode cX1_openFactors 5 = .ok (.aload_n 0, 1) := by decide +kernel
theorem dX1_openFactors_6 : decode cX1_openFactors 6 = .ok (.getfield 40, 3) := by decide +kernel
theorem dX1_openFactors_9 : decode cX1_openFactors 9 = .ok (.if_icmp .ge 38, 3) := by decide +kernel
theorem dX1_openFactors_12 : decode cX1_openFactors 12 = .ok (.iload_n 3, 1) := by decide +kernel
theorem dX1_openFactors_13 : decode cX1_openFactors 13 = .ok (.bipush 40, 2) := by decide +kernel
theorem dX1_openFactors_15 : decode cX1_openFactors 15 = .ok (.if_icmp .ge 32, 3) := by decide +kernel
theorem dX1_openFactors_18 : decode cX1_openFactors 18 = .ok (.lload_n 1, 1) := by decide +kernel
theorem dX1_openFactors_19 : decode cX1_openFactors 19 = .ok (.aload_n 0, 1) := by decide +kernel
theorem dX1_openFactors_20 : decode cX1_openFactors 20 = .ok (.getfield 36, 3) := by decide +kernel
theorem dX1_openFactors_23 : decode cX1_openFactors 23 = .ok (.iload_n 3, 1) := by decide +kernel
theorem dX1_openFactors_24 : decode cX1_openFactors 24 = .ok (.baload, 1) := by decide +kernel
theorem dX1_openFactors_25 : decode cX1_openFactors 25 = .ok (.ifCond .eq 7, 3) := by decide +kernel
theorem dX1_openFactors_28 : decode cX1_openFactors 28 = .ok (.lconst 0, 1) := by decide +kernel
theorem dX1_openFactors_29 : decode cX1_openFactors 29 = .ok (.goto 10, 3) := by decide +kernel
theorem dX1_openFactors_32 : decode cX1_openFactors 32 = .ok (.aload_n 0, 1) := by decide +kernel
theorem dX1_openFactors_33 : decode cX1_openFactors 33 = .ok (.getfield 27, 3) := by decide +kernel
theorem dX1_openFactors_36 : decode cX1_openFactors 36 = .ok (.iload_n 3, 1) := by decide +kernel
theorem dX1_openFactors_37 : decode cX1_openFactors 37 = .ok (.iaload, 1) := by decide +kernel
theorem dX1_openFactors_38 : decode cX1_openFactors 38 = .ok (.i2l, 1) := by decide +kernel
theorem dX1_openFactors_39 : decode cX1_openFactors 39 = .ok (.ladd, 1) := by decide +kernel
theorem dX1_openFactors_40 : decode cX1_openFactors 40 = .ok (.lstore_n 1, 1) := by decide +kernel
theorem dX1_openFactors_41 : decode cX1_openFactors 41 = .ok (.iinc 3 1, 3) := by decide +kernel
theorem dX1_openFactors_44 : decode cX1_openFactors 44 = .ok (.goto (-40), 3) := by decide +kernel
theorem dX1_openFactors_47 : decode cX1_openFactors 47 = .ok (.lload_n 1, 1) := by decide +kernel
theorem dX1_openFactors_48 : decode cX1_openFactors 48 = .ok (.lreturn, 1) := by decide +kernel
theorem dX1_propose_0 : decode cX1_propose 0 = .ok (.lconst 0, 1) := by decide +kernel
theorem dX1_propose_1 : decode cX1_propose 1 = .ok (.lstore 6, 2) := by decide +kernel
theorem dX1_propose_3 : decode cX1_propose 3 = .ok (.lconst 0, 1) := by decide +kernel
theorem dX1_propose_4 : decode cX1_propose 4 = .ok (.lstore 8, 2) := by decide +kernel
theorem dX1_propose_6 : decode cX1_propose 6 = .ok (.lconst 0, 1) := by decide +kernel
theorem dX1_propose_7 : decode cX1_propose 7 = .ok (.lstore 10, 2) := by decide +kernel
theorem dX1_propose_9 : decode cX1_propose 9 = .ok (.iconst 0, 1) := by decide +kernel
theorem dX1_propose_10 : decode cX1_propose 10 = .ok (.istore 12, 2) := by decide +kernel
theorem dX1_propose_12 : decode cX1_propose 12 = .ok (.iload 12, 2) := by decide +kernel
theorem dX1_propose_14 : decode cX1_propose 14 = .ok (.aload_n 0, 1) := by decide +kernel
theorem dX1_propose_15 : decode cX1_propose 15 = .ok (.getfield 40, 3) := by decide +kernel
theorem dX1_propose_18 : decode cX1_propose 18 = .ok (.if_icmp .ge 139, 3) := by decide +kernel
theorem dX1_propose_21 : decode cX1_propose 21 = .ok (.iload 12, 2) := by decide +kernel
theorem dX1_propose_23 : decode cX1_propose 23 = .ok (.bipush 40, 2) := by decide +kernel
theorem dX1_propose_25 : decode cX1_propose 25 = .ok (.if_icmp .ge 132, 3) := by decide +kernel
theorem dX1_propose_28 : decode cX1_propose 28 = .ok (.aload_n 0, 1) := by decide +kernel
theorem dX1_propose_29 : decode cX1_propose 29 = .ok (.getfield 36, 3) := by decide +kernel
theorem dX1_propose_32 : decode cX1_propose 32 = .ok (.iload 12, 2) := by decide +kernel
theorem dX1_propose_34 : decode cX1_propose 34 = .ok (.baload, 1) := by decide +kernel
theorem dX1_propose_35 : decode cX1_propose 35 = .ok (.ifCond .ne 116, 3) := by decide +kernel
theorem dX1_propose_38 : decode cX1_propose 38 = .ok (.lload_n 3, 1) := by decide +kernel
theorem dX1_propose_39 : decode cX1_propose 39 = .ok (.lconst 0, 1) := by decide +kernel
theorem dX1_propose_40 : decode cX1_propose 40 = .ok (.lcmp, 1) := by decide +kernel
theorem dX1_propose_41 : decode cX1_propose 41 = .ok (.ifCond .le 110, 3) := by decide +kernel
theorem dX1_propose_44 : decode cX1_propose 44 = .ok (.lload 6, 2) := by decide +kernel
theorem dX1_propose_46 : decode cX1_propose 46 = .ok (.aload_n 0, 1) := by decide +kernel
theorem dX1_propose_47 : decode cX1_propose 47 = .ok (.getfield 27, 3) := by decide +kernel
theorem dX1_propose_50 : decode cX1_propose 50 = .ok (.iload 12, 2) := by decide +kernel
theorem dX1_propose_52 : decode cX1_propose 52 = .ok (.iaload, 1) := by decide +kernel
theorem dX1_propose_53 : decode cX1_propose 53 = .ok (.i2l, 1) := by decide +kernel
theorem dX1_propose_54 : decode cX1_propose 54 = .ok (.ladd, 1) := by decide +kernel
theorem dX1_propose_55 : decode cX1_propose 55 = .ok (.lstore 6, 2) := by decide +kernel
theorem dX1_propose_57 : decode cX1_propose 57 = .ok (.lload_n 1, 1) := by decide +kernel
theorem dX1_propose_58 : decode cX1_propose 58 = .ok (.lload 6, 2) := by decide +kernel
theorem dX1_propose_60 : decode cX1_propose 60 = .ok (.lmul, 1) := by decide +kernel
theorem dX1_propose_61 : decode cX1_propose 61 = .ok (.lload_n 3, 1) := by decide +kernel
theorem dX1_propose_62 : decode cX1_propose 62 = .ok (.ldiv, 1) := by decide +kernel
theorem dX1_propose_63 : decode cX1_propose 63 = .ok (.lstore 13, 2) := by decide +kernel
theorem dX1_propose_65 : decode cX1_propose 65 = .ok (.lload 13, 2) := by decide +kernel
theorem dX1_propose_67 : decode cX1_propose 67 = .ok (.lload 8, 2) := by decide +kernel
theorem dX1_propose_69 : decode cX1_propose 69 = .ok (.lsub, 1) := by decide +kernel
theorem dX1_propose_70 : decode cX1_propose 70 = .ok (.l2i, 1) := by decide +kernel
theorem dX1_propose_71 : decode cX1_propose 71 = .ok (.istore 15, 2) := by decide +kernel
theorem dX1_propose_73 : decode cX1_propose 73 = .ok (.lload 13, 2) := by decide +kernel
theorem dX1_propose_75 : decode cX1_propose 75 = .ok (.lstore 8, 2) := by decide +kernel
theorem dX1_propose_77 : decode cX1_propose 77 = .ok (.aload_n 0, 1) := by decide +kernel
theorem dX1_propose_78 : decode cX1_propose 78 = .ok (.getfield 9, 3) := by decide +kernel
theorem dX1_propose_81 : decode cX1_propose 81 = .ok (.iload 12, 2) := by decide +kernel
theorem dX1_propose_83 : decode cX1_propose 83 = .ok (.iaload, 1) := by decide +kernel
theorem dX1_propose_84 : decode cX1_propose 84 = .ok (.iload 5, 2) := by decide +kernel
theorem dX1_propose_86 : decode cX1_propose 86 = .ok (.ifCond .eq 8, 3) := by decide +kernel
theorem dX1_propose_89 : decode cX1_propose 89 = .ok (.iload 15, 2) := by decide +kernel
theorem dX1_propose_91 : decode cX1_propose 91 = .ok (.goto 6, 3) := by decide +kernel
theorem dX1_propose_94 : decode cX1_propose 94 = .ok (.iload 15, 2) := by decide +kernel
theorem dX1_propose_96 : decode cX1_propose 96 = .ok (.ineg, 1) := by decide +kernel
theorem dX1_propose_97 : decode cX1_propose 97 = .ok (.iadd, 1) := by decide +kernel
theorem dX1_propose_98 : decode cX1_propose 98 = .ok (.istore 16, 2) := by decide +kernel
theorem dX1_propose_100 : decode cX1_propose 100 = .ok (.aload_n 0, 1) := by decide +kernel
theorem dX1_propose_101 : decode cX1_propose 101 = .ok (.getfield 30, 3) := by decide +kernel
theorem dX1_propose_104 : decode cX1_propose 104 = .ok (.iload 12, 2) := by decide +kernel
theorem dX1_propose_106 : decode cX1_propose 106 = .ok (.iload 16, 2) := by decide +kernel
theorem dX1_propose_108 : decode cX1_propose 108 = .ok (.iastore, 1) := by decide +kernel
theorem dX1_propose_109 : decode cX1_propose 109 = .ok (.aload_n 0, 1) := by decide +kernel
theorem dX1_propose_110 : decode cX1_propose 110 = .ok (.getfield 33, 3) := by decide +kernel
theorem dX1_propose_113 : decode cX1_propose 113 = .ok (.iload 12, 2) := by decide +kernel
theorem dX1_propose_115 : decode cX1_propose 115 = .ok (.iload 16, 2) := by decide +kernel
theorem dX1_propose_117 : decode cX1_propose 117 = .ok (.aload_n 0, 1) := by decide +kernel
theorem dX1_propose_118 : decode cX1_propose 118 = .ok (.getfield 15, 3) := by decide +kernel
theorem dX1_propose_121 : decode cX1_propose 121 = .ok (.iload 12, 2) := by decide +kernel
theorem dX1_propose_123 : decode cX1_propose 123 = .ok (.iaload, 1) := by decide +kernel
theorem dX1_propose_124 : decode cX1_propose 124 = .ok (.aload_n 0, 1) := by decide +kernel
theorem dX1_propose_125 : decode cX1_propose 125 = .ok (.getfield 18, 3) := by decide +kernel
theorem dX1_propose_128 : decode cX1_propose 128 = .ok (.iload 12, 2) := by decide +kernel
theorem dX1_propose_130 : decode cX1_propose 130 = .ok (.iaload, 1) := by decide +kernel
theorem dX1_propose_131 : decode cX1_propose 131 = .ok (.invokestatic 93, 3) := by decide +kernel
theorem dX1_propose_134 : decode cX1_propose 134 = .ok (.iload 16, 2) := by decide +kernel
theorem dX1_propose_136 : decode cX1_propose 136 = .ok (.isub, 1) := by decide +kernel
theorem dX1_propose_137 : decode cX1_propose 137 = .ok (.iastore, 1) := by decide +kernel
theorem dX1_propose_138 : decode cX1_propose 138 = .ok (.lload 10, 2) := by decide +kernel
theorem dX1_propose_140 : decode cX1_propose 140 = .ok (.aload_n 0, 1) := by decide +kernel
theorem dX1_propose_141 : decode cX1_propose 141 = .ok (.getfield 33, 3) := by decide +kernel
theorem dX1_propose_144 : decode cX1_propose 144 = .ok (.iload 12, 2) := by decide +kernel
theorem dX1_propose_146 : decode cX1_propose 146 = .ok (.iaload, 1) := by decide +kernel
theorem dX1_propose_147 : decode cX1_propose 147 = .ok (.i2l, 1) := by decide +kernel
theorem dX1_propose_148 : decode cX1_propose 148 = .ok (.ladd, 1) := by decide +kernel
theorem dX1_propose_149 : decode cX1_propose 149 = .ok (.lstore 10, 2) := by decide +kernel
theorem dX1_propose_151 : decode cX1_propose 151 = .ok (.iinc 12 1, 3) := by decide +kernel
theorem dX1_propose_154 : decode cX1_propose 154 = .ok (.goto (-142), 3) := by decide +kernel
theorem dX1_propose_157 : decode cX1_propose 157 = .ok (.lload 10, 2) := by decide +kernel
theorem dX1_propose_159 : decode cX1_propose 159 = .ok (.lreturn, 1) := by decide +kernel
theorem dX1_settle_0 : decode cX1_settle 0 = .ok (.iconst 0, 1) := by decide +kernel
theorem dX1_settle_1 : decode cX1_settle 1 = .ok (.istore_n 3, 1) := by decide +kernel
theorem dX1_settle_2 : decode cX1_settle 2 = .ok (.iload_n 3, 1) := by decide +kernel
theorem dX1_settle_3 : decode cX1_settle 3 = .ok (.aload_n 0, 1) := by decide +kernel
theorem dX1_settle_4 : decode cX1_settle 4 = .ok (.getfield 40, 3) := by decide +kernel
theorem dX1_settle_7 : decode cX1_settle 7 = .ok (.if_icmp .ge 75, 3) := by decide +kernel
theorem dX1_settle_10 : decode cX1_settle 10 = .ok (.iload_n 3, 1) := by decide +kernel
theorem dX1_settle_11 : decode cX1_settle 11 = .ok (.bipush 40, 2) := by decide +kernel
theorem dX1_settle_13 : decode cX1_settle 13 = .ok (.if_icmp .ge 69, 3) := by decide +kernel
theorem dX1_settle_16 : decode cX1_settle 16 = .ok (.aload_n 0, 1) := by decide +kernel
theorem dX1_settle_17 : decode cX1_settle 17 = .ok (.getfield 33, 3) := by decide +kernel
theorem dX1_settle_20 : decode cX1_settle 20 = .ok (.iload_n 3, 1) := by decide +kernel
theorem dX1_settle_21 : decode cX1_settle 21 = .ok (.iaload, 1) := by decide +kernel
theorem dX1_settle_22 : decode cX1_settle 22 = .ok (.istore 4, 2) := by decide +kernel
theorem dX1_settle_24 : decode cX1_settle 24 = .ok (.aload_n 0, 1) := by decide +kernel
theorem dX1_settle_25 : decode cX1_settle 25 = .ok (.getfield 36, 3) := by decide +kernel
theorem dX1_settle_28 : decode cX1_settle 28 = .ok (.iload_n 3, 1) := by decide +kernel
theorem dX1_settle_29 : decode cX1_settle 29 = .ok (.baload, 1) := by decide +kernel
theorem dX1_settle_30 : decode cX1_settle 30 = .ok (.ifCond .ne 46, 3) := by decide +kernel
theorem dX1_settle_33 : decode cX1_settle 33 = .ok (.lload_n 1, 1) := by decide +kernel
theorem dX1_settle_34 : decode cX1_settle 34 = .ok (.lconst 0, 1) := by decide +kernel
theorem dX1_settle_35 : decode cX1_settle 35 = .ok (.lcmp, 1) := by decide +kernel
theorem dX1_settle_36 : decode cX1_settle 36 = .ok (.ifCond .eq 22, 3) := by decide +kernel
theorem dX1_settle_39 : decode cX1_settle 39 = .ok (.lload_n 1, 1) := by decide +kernel
theorem dX1_settle_40 : decode cX1_settle 40 = .ok (.lconst 0, 1) := by decide +kernel
theorem dX1_settle_41 : decode cX1_settle 41 = .ok (.lcmp, 1) := by decide +kernel
theorem dX1_settle_42 : decode cX1_settle 42 = .ok (.ifCond .le 11, 3) := by decide +kernel
theorem dX1_settle_45 : decode cX1_settle 45 = .ok (.iload 4, 2) := by decide +kernel
theorem dX1_settle_47 : decode cX1_settle 47 = .ok (.ifCond .le 29, 3) := by decide +kernel
theorem dX1_settle_50 : decode cX1_settle 50 = .ok (.goto 8, 3) := by decide +kernel
theorem dX1_settle_53 : decode cX1_settle 53 = .ok (.iload 4, 2) := by decide +kernel
theorem dX1_settle_55 : decode cX1_settle 55 = .ok (.ifCond .ge 21, 3) := by decide +kernel
theorem dX1_settle_58 : decode cX1_settle 58 = .ok (.aload_n 0, 1) := by decide +kernel
theorem dX1_settle_59 : decode cX1_settle 59 = .ok (.getfield 30, 3) := by decide +kernel
theorem dX1_settle_62 : decode cX1_settle 62 = .ok (.iload_n 3, 1) := by decide +kernel
theorem dX1_settle_63 : decode cX1_settle 63 = .ok (.dup2, 1) := by decide +kernel
theorem dX1_settle_64 : decode cX1_settle 64 = .ok (.iaload, 1) := by decide +kernel
theorem dX1_settle_65 : decode cX1_settle 65 = .ok (.iload 4, 2) := by decide +kernel
theorem dX1_settle_67 : decode cX1_settle 67 = .ok (.iadd, 1) := by decide +kernel
theorem dX1_settle_68 : decode cX1_settle 68 = .ok (.iastore, 1) := by decide +kernel
theorem dX1_settle_69 : decode cX1_settle 69 = .ok (.aload_n 0, 1) := by decide +kernel
theorem dX1_settle_70 : decode cX1_settle 70 = .ok (.getfield 36, 3) := by decide +kernel
theorem dX1_settle_73 : decode cX1_settle 73 = .ok (.iload_n 3, 1) := by decide +kernel
theorem dX1_settle_74 : decode cX1_settle 74 = .ok (.iconst 1, 1) := by decide +kernel
theorem dX1_settle_75 : decode cX1_settle 75 = .ok (.bastore, 1) := by decide +kernel
theorem dX1_settle_76 : decode cX1_settle 76 = .ok (.iinc 3 1, 3) := by decide +kernel
theorem dX1_settle_79 : decode cX1_settle 79 = .ok (.goto (-77), 3) := by decide +kernel
theorem dX1_settle_82 : decode cX1_settle 82 = .ok (.return_, 1) := by decide +kernel
theorem dX2_init_0 : decode cX2_init 0 = .ok (.aload_n 0, 1) := by decide +kernel
theorem dX2_init_1 : decode cX2_init 1 = .ok (.invokespecial 3, 3) := by decide +kernel
theorem dX2_init_4 : decode cX2_init 4 = .ok (.aload_n 0, 1) := by decide +kernel
theorem dX2_init_5 : decode cX2_init 5 = .ok (.new 9, 3) := by decide +kernel
theorem dX2_init_8 : decode cX2_init 8 = .ok (.dup, 1) := by decide +kernel
theorem dX2_init_9 : decode cX2_init 9 = .ok (.invokespecial 11, 3) := by decide +kernel
theorem dX2_init_12 : decode cX2_init 12 = .ok (.putfield 12, 3) := by decide +kernel
theorem dX2_init_15 : decode cX2_init 15 = .ok (.aload_n 0, 1) := by decide +kernel
theorem dX2_init_16 : decode cX2_init 16 = .ok (.iconst 1, 1) := by decide +kernel
theorem dX2_init_17 : decode cX2_init 17 = .ok (.putfield 18, 3) := by decide +kernel
theorem dX2_init_20 : decode cX2_init 20 = .ok (.aload_n 0, 1) := by decide +kernel
theorem dX2_init_21 : decode cX2_init 21 = .ok (.aload_n 1, 1) := by decide +kernel
theorem dX2_init_22 : decode cX2_init 22 = .ok (.putfield 22, 3) := by decide +kernel
theorem dX2_init_25 : decode cX2_init 25 = .ok (.return_, 1) := by decide +kernel
theorem dX2_arrange_0 : decode cX2_arrange 0 = .ok (.aload_n 0, 1) := by decide +kernel
theorem dX2_arrange_1 : decode cX2_arrange 1 = .ok (.getfield 18, 3) := by decide +kernel
theorem dX2_arrange_4 : decode cX2_arrange 4 = .ok (.ifCond .ne 4, 3) := by decide +kernel
theorem dX2_arrange_7 : decode cX2_arrange 7 = .ok (.return_, 1) := by decide +kernel
theorem dX2_arrange_8 : decode cX2_arrange 8 = .ok (.aload_n 0, 1) := by decide +kernel
theorem dX2_arrange_9 : decode cX2_arrange 9 = .ok (.iconst 0, 1) := by decide +kernel
theorem dX2_arrange_10 : decode cX2_arrange 10 = .ok (.putfield 18, 3) := by decide +kernel
theorem dX2_arrange_13 : decode cX2_arrange 13 = .ok (.aload_n 0, 1) := by decide +kernel
theorem dX2_arrange_14 : decode cX2_arrange 14 = .ok (.getfield 22, 3) := by decide +kernel
theorem dX2_arrange_17 : decode cX2_arrange 17 = .ok (.invokevirtual 26, 3) := by decide +kernel
theorem dX2_arrange_20 : decode cX2_arrange 20 = .ok (.bipush 39, 2) := by decide +kernel
theorem dX2_arrange_22 : decode cX2_arrange 22 = .ok (.istore_n 1, 1) := by decide +kernel
theorem dX2_arrange_23 : decode cX2_arrange 23 = .ok (.iload_n 1, 1) := by decide +kernel
theorem dX2_arrange_24 : decode cX2_arrange 24 = .ok (.ifCond .lt 26, 3) := by decide +kernel
theorem dX2_arrange_27 : decode cX2_arrange 27 = .ok (.aload_n 0, 1) := by decide +kernel
theorem dX2_arrange_28 : decode cX2_arrange 28 = .ok (.getfield 22, 3) := by decide +kernel
theorem dX2_arrange_31 : decode cX2_arrange 31 = .ok (.iload_n 1, 1) := by decide +kernel
theorem dX2_arrange_32 : decode cX2_arrange 32 = .ok (.invokevirtual 31, 3) := by decide +kernel
theorem dX2_arrange_35 : decode cX2_arrange 35 = .ok (.astore_n 2, 1) := by decide +kernel
theorem dX2_arrange_36 : decode cX2_arrange 36 = .ok (.aload_n 2, 1) := by decide +kernel
theorem dX2_arrange_37 : decode cX2_arrange 37 = .ok (.ifnull 7, 3) := by decide +kernel
theorem dX2_arrange_40 : decode cX2_arrange 40 = .ok (.aload_n 2, 1) := by decide +kernel
theorem dX2_arrange_41 : decode cX2_arrange 41 = .ok (.invokestatic 35, 3) := by decide +kernel
theorem dX2_arrange_44 : decode cX2_arrange 44 = .ok (.iinc 1 (-1), 3) := by decide +kernel
theorem dX2_arrange_47 : decode cX2_arrange 47 = .ok (.goto (-24), 3) := by decide +kernel
theorem dX2_arrange_50 : decode cX2_arrange 50 = .ok (.aload_n 0, 1) := by decide +kernel
theorem dX2_arrange_51 : decode cX2_arrange 51 = .ok (.getfield 22, 3) := by decide +kernel
theorem dX2_arrange_54 : decode cX2_arrange 54 = .ok (.getfield 39, 3) := by decide +kernel
theorem dX2_arrange_57 : decode cX2_arrange 57 = .ok (.aload_n 0, 1) := by decide +kernel
theorem dX2_arrange_58 : decode cX2_arrange 58 = .ok (.getfield 22, 3) := by decide +kernel
theorem dX2_arrange_61 : decode cX2_arrange 61 = .ok (.getfield 43, 3) := by decide +kernel
theorem dX2_arrange_64 : decode cX2_arrange 64 = .ok (.putfield 47, 3) := by decide +kernel
theorem dX2_arrange_67 : decode cX2_arrange 67 = .ok (.iconst 0, 1) := by decide +kernel
theorem dX2_arrange_68 : decode cX2_arrange 68 = .ok (.istore_n 1, 1) := by decide +kernel
theorem dX2_arrange_69 : decode cX2_arrange 69 = .ok (.iload_n 1, 1) := by decide +kernel
theorem dX2_arrange_70 : decode cX2_arrange 70 = .ok (.bipush 40, 2) := by decide +kernel
theorem dX2_arrange_72 : decode cX2_arrange 72 = .ok (.if_icmp .ge 27, 3) := by decide +kernel
theorem dX2_arrange_75 : decode cX2_arrange 75 = .ok (.aload_n 0, 1) := by decide +kernel
theorem dX2_arrange_76 : decode cX2_arrange 76 = .ok (.getfield 22, 3) := by decide +kernel
theorem dX2_arrange_79 : decode cX2_arrange 79 = .ok (.iload_n 1, 1) := by decide +kernel
theorem dX2_arrange_80 : decode cX2_arrange 80 = .ok (.invokevirtual 31, 3) := by decide +kernel
theorem dX2_arrange_83 : decode cX2_arrange 83 = .ok (.astore_n 2, 1) := by decide +kernel
theorem dX2_arrange_84 : decode cX2_arrange 84 = .ok (.aload_n 2, 1) := by decide +kernel
theorem dX2_arrange_85 : decode cX2_arrange 85 = .ok (.ifnull 8, 3) := by decide +kernel
theorem dX2_arrange_88 : decode cX2_arrange 88 = .ok (.aload_n 0, 1) := by decide +kernel
theorem dX2_arrange_89 : decode cX2_arrange 89 = .ok (.aload_n 2, 1) := by decide +kernel
theorem dX2_arrange_90 : decode cX2_arrange 90 = .ok (.invokevirtual 52, 3) := by decide +kernel
theorem dX2_arrange_93 : decode cX2_arrange 93 = .ok (.iinc 1 1, 3) := by decide +kernel
theorem dX2_arrange_96 : decode cX2_arrange 96 = .ok (.goto (-27), 3) := by decide +kernel
theorem dX2_arrange_99 : decode cX2_arrange 99 = .ok (.bipush 39, 2) := by decide +kernel
theorem dX2_arrange_101 : decode cX2_arrange 101 = .ok (.istore_n 1, 1) := by decide +kernel
theorem dX2_arrange_102 : decode cX2_arrange 102 = .ok (.iload_n 1, 1) := by decide +kernel
theorem dX2_arrange_103 : decode cX2_arrange 103 = .ok (.ifCond .lt 26, 3) := by decide +kernel
theorem dX2_arrange_106 : decode cX2_arrange 106 = .ok (.aload_n 0, 1) := by decide +kernel
theorem dX2_arrange_107 : decode cX2_arrange 107 = .ok (.getfield 22, 3) := by decide +kernel
theorem dX2_arrange_110 : decode cX2_arrange 110 = .ok (.iload_n 1, 1) := by decide +kernel
theorem dX2_arrange_111 : decode cX2_arrange 111 = .ok (.invokevirtual 31, 3) := by decide +kernel
theorem dX2_arrange_114 : decode cX2_arrange 114 = .ok (.astore_n 2, 1) := by decide +kernel
theorem dX2_arrange_115 : decode cX2_arrange 115 = .ok (.aload_n 2, 1) := by decide +kernel
theorem dX2_arrange_116 : decode cX2_arrange 116 = .ok (.ifnull 7, 3) := by decide +kernel
theorem dX2_arrange_119 : decode cX2_arrange 119 = .ok (.aload_n 2, 1) := by decide +kernel
theorem dX2_arrange_120 : decode cX2_arrange 120 = .ok (.invokestatic 55, 3) := by decide +kernel
theorem dX2_arrange_123 : decode cX2_arrange 123 = .ok (.iinc 1 (-1), 3) := by decide +kernel
theorem dX2_arrange_126 : decode cX2_arrange 126 = .ok (.goto (-24), 3) := by decide +kernel
theorem dX2_arrange_129 : decode cX2_arrange 129 = .ok (.aload_n 0, 1) := by decide +kernel
theorem dX2_arrange_130 : decode cX2_arrange 130 = .ok (.getfield 22, 3) := by decide +kernel
theorem dX2_arrange_133 : decode cX2_arrange 133 = .ok (.getfield 39, 3) := by decide +kernel
theorem dX2_arrange_136 : decode cX2_arrange 136 = .ok (.aload_n 0, 1) := by decide +kernel
theorem dX2_arrange_137 : decode cX2_arrange 137 = .ok (.getfield 22, 3) := by decide +kernel
theorem dX2_arrange_140 : decode cX2_arrange 140 = .ok (.getfield 58, 3) := by decide +kernel
theorem dX2_arrange_143 : decode cX2_arrange 143 = .ok (.putfield 61, 3) := by decide +kernel
theorem dX2_arrange_146 : decode cX2_arrange 146 = .ok (.iconst 0, 1) := by decide +kernel
theorem dX2_arrange_147 : decode cX2_arrange 147 = .ok (.istore_n 1, 1) := by decide +kernel
theorem dX2_arrange_148 : decode cX2_arrange 148 = .ok (.iload_n 1, 1) := by decide +kernel
theorem dX2_arrange_149 : decode cX2_arrange 149 = .ok (.bipush 40, 2) := by decide +kernel
theorem dX2_arrange_151 : decode cX2_arrange 151 = .ok (.if_icmp .ge 45, 3) := by decide +kernel
theorem dX2_arrange_154 : decode cX2_arrange 154 = .ok (.aload_n 0, 1) := by decide +kernel
theorem dX2_arrange_155 : decode cX2_arrange 155 = .ok (.getfield 22, 3) := by decide +kernel
theorem dX2_arrange_158 : decode cX2_arrange 158 = .ok (.iload_n 1, 1) := by decide +kernel
theorem dX2_arrange_159 : decode cX2_arrange 159 = .ok (.invokevirtual 31, 3) := by decide +kernel
theorem dX2_arrange_162 : decode cX2_arrange 162 = .ok (.astore_n 2, 1) := by decide +kernel
theorem dX2_arrange_163 : decode cX2_arrange 163 = .ok (.aload_n 2, 1) := by decide +kernel
theorem dX2_arrange_164 : decode cX2_arrange 164 = .ok (.ifnull 18, 3) := by decide +kernel
theorem dX2_arrange_167 : decode cX2_arrange 167 = .ok (.aload_n 2, 1) := by decide +kernel
theorem dX2_arrange_168 : decode cX2_arrange 168 = .ok (.invokevirtual 64, 3) := by decide +kernel
theorem dX2_arrange_171 : decode cX2_arrange 171 = .ok (.ifCond .eq 11, 3) := by decide +kernel
theorem dX2_arrange_174 : decode cX2_arrange 174 = .ok (.aload_n 0, 1) := by decide +kernel
theorem dX2_arrange_175 : decode cX2_arrange 175 = .ok (.aload_n 2, 1) := by decide +kernel
theorem dX2_arrange_176 : decode cX2_arrange 176 = .ok (.invokevirtual 68, 3) := by decide +kernel
theorem dX2_arrange_179 : decode cX2_arrange 179 = .ok (.goto 11, 3) := by decide +kernel
theorem dX2_arrange_182 : decode cX2_arrange 182 = .ok (.aload_n 2, 1) := by decide +kernel
theorem dX2_arrange_183 : decode cX2_arrange 183 = .ok (.ifnull 7, 3) := by decide +kernel
theorem dX2_arrange_186 : decode cX2_arrange 186 = .ok (.aload_n 2, 1) := by decide +kernel
theorem dX2_arrange_187 : decode cX2_arrange 187 = .ok (.invokestatic 71, 3) := by decide +kernel
theorem dX2_arrange_190 : decode cX2_arrange 190 = .ok (.iinc 1 1, 3) := by decide +kernel
theorem dX2_arrange_193 : decode cX2_arrange 193 = .ok (.goto (-45), 3) := by decide +kernel
theorem dX2_arrange_196 : decode cX2_arrange 196 = .ok (.return_, 1) := by decide +kernel
theorem dX2_measureWidth_0 : decode cX2_measureWidth 0 = .ok (.aload_n 0, 1) := by decide +kernel
theorem dX2_measureWidth_1 : decode cX2_measureWidth 1 = .ok (.bipush 10, 2) := by decide +kernel
theorem dX2_measureWidth_3 : decode cX2_measureWidth 3 = .ok (.invokevirtual 74, 3) := by decide +kernel
theorem dX2_measureWidth_6 : decode cX2_measureWidth 6 = .ok (.istore_n 1, 1) := by decide +kernel
theorem dX2_measureWidth_7 : decode cX2_measureWidth 7 = .ok (.iload_n 1, 1) := by decide +kernel
theorem dX2_measureWidth_8 : decode cX2_measureWidth 8 = .ok (.iconst (-1), 1) := by decide +kernel
theorem dX2_measureWidth_9 : decode cX2_measureWidth 9 = .ok (.if_icmp .ne 16, 3) := by decide +kernel
theorem dX2_measureWidth_12 : decode cX2_measureWidth 12 = .ok (.aload_n 0, 1) := by decide +kernel
theorem dX2_measureWidth_13 : decode cX2_measureWidth 13 = .ok (.invokestatic 78, 3) := by decide +kernel
theorem dX2_measureWidth_16 : decode cX2_measureWidth 16 = .ok (.iconst 2, 1) := by decide +kernel
theorem dX2_measureWidth_17 : decode cX2_measureWidth 17 = .ok (.aload_n 0, 1) := by decide +kernel
theorem dX2_measureWidth_18 : decode cX2_measureWidth 18 = .ok (.iconst 5, 1) := by decide +kernel
theorem dX2_measureWidth_19 : decode cX2_measureWidth 19 = .ok (.invokevirtual 82, 3) := by decide +kernel
theorem dX2_measureWidth_22 : decode cX2_measureWidth 22 = .ok (.imul, 1) := by decide +kernel
theorem dX2_measureWidth_23 : decode cX2_measureWidth 23 = .ok (.iadd, 1) := by decide +kernel
theorem dX2_measureWidth_24 : decode cX2_measureWidth 24 = .ok (.istore_n 1, 1) := by decide +kernel
theorem dX2_measureWidth_25 : decode cX2_measureWidth 25 = .ok (.aload_n 0, 1) := by decide +kernel
theorem dX2_measureWidth_26 : decode cX2_measureWidth 26 = .ok (.aload_n 0, 1) := by decide +kernel
theorem dX2_measureWidth_27 : decode cX2_measureWidth 27 = .ok (.iload_n 1, 1) := by decide +kernel
theorem dX2_measureWidth_28 : decode cX2_measureWidth 28 = .ok (.invokevirtual 85, 3) := by decide +kernel
theorem dX2_measureWidth_31 : decode cX2_measureWidth 31 = .ok (.putfield 88, 3) := by decide +kernel
theorem dX2_measureWidth_34 : decode cX2_measureWidth 34 = .ok (.return_, 1) := by decide +kernel
theorem dX2_contentWidth_0 : decode cX2_contentWidth 0 = .ok (.aload_n 0, 1) := by decide +kernel
theorem dX2_contentWidth_1 : decode cX2_contentWidth 1 = .ok (.getfield 91, 3) := by decide +kernel
theorem dX2_contentWidth_4 : decode cX2_contentWidth 4 = .ok (.ifCond .ne 13, 3) := by decide +kernel
theorem dX2_contentWidth_7 : decode cX2_contentWidth 7 = .ok (.bipush 8, 2) := by decide +kernel
theorem dX2_contentWidth_9 : decode cX2_contentWidth 9 = .ok (.aload_n 0, 1) := by decide +kernel
theorem dX2_contentWidth_10 : decode cX2_contentWidth 10 = .ok (.bipush 19, 2) := by decide +kernel
theorem dX2_contentWidth_12 : decode cX2_contentWidth 12 = .ok (.invokevirtual 82, 3) := by decide +kernel
theorem dX2_contentWidth_15 : decode cX2_contentWidth 15 = .ok (.imul, 1) := by decide +kernel
theorem dX2_contentWidth_16 : decode cX2_contentWidth 16 = .ok (.ireturn, 1) := by decide +kernel
theorem dX2_contentWidth_17 : decode cX2_contentWidth 17 = .ok (.aload_n 0, 1) := by decide +kernel
theorem dX2_contentWidth_18 : decode cX2_contentWidth 18 = .ok (.getfield 94, 3) := by decide +kernel
theorem dX2_contentWidth_21 : decode cX2_contentWidth 21 = .ok (.aload_n 0, 1) := by decide +kernel
theorem dX2_contentWidth_22 : decode cX2_contentWidth 22 = .ok (.iconst 4, 1) := by decide +kernel
theorem dX2_contentWidth_23 : decode cX2_contentWidth 23 = .ok (.invokevirtual 82, 3) := by decide +kernel
theorem dX2_contentWidth_26 : decode cX2_contentWidth 26 = .ok (.invokestatic 97, 3) := by decide +kernel
theorem dX2_contentWidth_29 : decode cX2_contentWidth 29 = .ok (.istore_n 1, 1) := by decide +kernel
theorem dX2_contentWidth_30 : decode cX2_contentWidth 30 = .ok (.iconst 0, 1) := by decide +kernel
theorem dX2_contentWidth_31 : decode cX2_contentWidth 31 = .ok (.istore_n 2, 1) := by decide +kernel
theorem dX2_contentWidth_32 : decode cX2_contentWidth 32 = .ok (.aload_n 0, 1) := by decide +kernel
theorem dX2_contentWidth_33 : decode cX2_contentWidth 33 = .ok (.getfield 101, 3) := by decide +kernel
theorem dX2_contentWidth_36 : decode cX2_contentWidth 36 = .ok (.astore_n 3, 1) := by decide +kernel
theorem dX2_contentWidth_37 : decode cX2_contentWidth 37 = .ok (.aload_n 3, 1) := by decide +kernel
theorem dX2_contentWidth_38 : decode cX2_contentWidth 38 = .ok (.ifnull 34, 3) := by decide +kernel
theorem dX2_contentWidth_41 : decode cX2_contentWidth 41 = .ok (.aload_n 3, 1) := by decide +kernel
theorem dX2_contentWidth_42 : decode cX2_contentWidth 42 = .ok (.getfield 88, 3) := by decide +kernel
theorem dX2_contentWidth_45 : decode cX2_contentWidth 45 = .ok (.aload_n 3, 1) := by decide +kernel
theorem dX2_contentWidth_46 : decode cX2_contentWidth 46 = .ok (.invokevirtual 104, 3) := by decide +kernel
theorem dX2_contentWidth_49 : decode cX2_contentWidth 49 = .ok (.iadd, 1) := by decide +kernel
theorem dX2_contentWidth_50 : decode cX2_contentWidth 50 = .ok (.istore 4, 2) := by decide +kernel
theorem dX2_contentWidth_52 : decode cX2_contentWidth 52 = .ok (.iload_n 1, 1) := by decide +kernel
theorem dX2_contentWidth_53 : decode cX2_contentWidth 53 = .ok (.iload 4, 2) := by decide +kernel
theorem dX2_contentWidth_55 : decode cX2_contentWidth 55 = .ok (.iadd, 1) := by decide +kernel
theorem dX2_contentWidth_56 : decode cX2_contentWidth 56 = .ok (.istore_n 1, 1) := by decide +kernel
theorem dX2_contentWidth_57 : decode cX2_contentWidth 57 = .ok (.iload_n 2, 1) := by decide +kernel
theorem dX2_contentWidth_58 : decode cX2_contentWidth 58 = .ok (.iload 4, 2) := by decide +kernel
theorem dX2_contentWidth_60 : decode cX2_contentWidth 60 = .ok (.invokestatic 108, 3) := by decide +kernel
theorem dX2_contentWidth_63 : decode cX2_contentWidth 63 = .ok (.istore_n 2, 1) := by decide +kernel
theorem dX2_contentWidth_64 : decode cX2_contentWidth 64 = .ok (.aload_n 3, 1) := by decide +kernel
theorem dX2_contentWidth_65 : decode cX2_contentWidth 65 = .ok (.getfield 113, 3) := by decide +kernel
theorem dX2_contentWidth_68 : decode cX2_contentWidth 68 = .ok (.astore_n 3, 1) := by decide +kernel
theorem dX2_contentWidth_69 : decode cX2_contentWidth 69 = .ok (.goto (-32), 3) := by decide +kernel
theorem dX2_contentWidth_72 : decode cX2_contentWidth 72 = .ok (.aload_n 0, 1) := by decide +kernel
theorem dX2_contentWidth_73 : decode cX2_contentWidth 73 = .ok (.invokevirtual 64, 3) := by decide +kernel
theorem dX2_contentWidth_76 : decode cX2_contentWidth 76 = .ok (.ifCond .eq 7, 3) := by decide +kernel
theorem dX2_contentWidth_79 : decode cX2_contentWidth 79 = .ok (.iload_n 2, 1) := by decide +kernel
theorem dX2_contentWidth_80 : decode cX2_contentWidth 80 = .ok (.goto 4, 3) := by decide +kernel
theorem dX2_contentWidth_83 : decode cX2_contentWidth 83 = .ok (.iload_n 1, 1) := by decide +kernel
theorem dX2_contentWidth_84 : decode cX2_contentWidth 84 = .ok (.ireturn, 1) := by decide +kernel
theorem dX2_spreadWidths_0 : decode cX2_spreadWidths 0 = .ok (.aload_n 1, 1) := by decide +kernel
theorem dX2_spreadWidths_1 : decode cX2_spreadWidths 1 = .ok (.invokevirtual 64, 3) := by decide +kernel
theorem dX2_spreadWidths_4 : decode cX2_spreadWidths 4 = .ok (.ifCond .eq 8, 3) := by decide +kernel
theorem dX2_spreadWidths_7 : decode cX2_spreadWidths 7 = .ok (.aload_n 1, 1) := by decide +kernel
theorem dX2_spreadWidths_8 : decode cX2_spreadWidths 8 = .ok (.invokestatic 116, 3) := by decide +kernel
theorem dX2_spreadWidths_11 : decode cX2_spreadWidths 11 = .ok (.return_, 1) := by decide +kernel
theorem dX2_spreadWidths_12 : decode cX2_spreadWidths 12 = .ok (.aload_n 1, 1) := by decide +kernel
theorem dX2_spreadWidths_13 : decode cX2_spreadWidths 13 = .ok (.invokestatic 119, 3) := by decide +kernel
theorem dX2_spreadWidths_16 : decode cX2_spreadWidths 16 = .ok (.aload_n 1, 1) := by decide +kernel
theorem dX2_spreadWidths_17 : decode cX2_spreadWidths 17 = .ok (.getfield 101, 3) := by decide +kernel
theorem dX2_spreadWidths_20 : decode cX2_spreadWidths 20 = .ok (.astore_n 2, 1) := by decide +kernel
theorem dX2_spreadWidths_21 : decode cX2_spreadWidths 21 = .ok (.iconst 0, 1) := by decide +kernel
theorem dX2_spreadWidths_22 : decode cX2_spreadWidths 22 = .ok (.istore_n 3, 1) := by decide +kernel
theorem dX2_spreadWidths_23 : decode cX2_spreadWidths 23 = .ok (.iload_n 3, 1) := by decide +kernel
theorem dX2_spreadWidths_24 : decode cX2_spreadWidths 24 = .ok (.aload_n 1, 1) := by decide +kernel
theorem dX2_spreadWidths_25 : decode cX2_spreadWidths 25 = .ok (.getfield 122, 3) := by decide +kernel
theorem dX2_spreadWidths_28 : decode cX2_spreadWidths 28 = .ok (.if_icmp .ge 39, 3) := by decide +kernel
theorem dX2_spreadWidths_31 : decode cX2_spreadWidths 31 = .ok (.aload_n 2, 1) := by decide +kernel
theorem dX2_spreadWidths_32 : decode cX2_spreadWidths 32 = .ok (.ifnull 35, 3) := by decide +kernel
theorem dX2_spreadWidths_35 : decode cX2_spreadWidths 35 = .ok (.aload_n 2, 1) := by decide +kernel
theorem dX2_spreadWidths_36 : decode cX2_spreadWidths 36 = .ok (.invokestatic 125, 3) := by decide +kernel
theorem dX2_spreadWidths_39 : decode cX2_spreadWidths 39 = .ok (.astore 4, 2) := by decide +kernel
theorem dX2_spreadWidths_41 : decode cX2_spreadWidths 41 = .ok (.aload_n 0, 1) := by decide +kernel
theorem dX2_spreadWidths_42 : decode cX2_spreadWidths 42 = .ok (.aload_n 2, 1) := by decide +kernel
theorem dX2_spreadWidths_43 : decode cX2_spreadWidths 43 = .ok (.aload 4, 2) := by decide +kernel
theorem dX2_spreadWidths_45 : decode cX2_spreadWidths 45 = .ok (.iconst 1, 1) := by decide +kernel
theorem dX2_spreadWidths_46 : decode cX2_spreadWidths 46 = .ok (.aload_n 1, 1) := by decide +kernel
theorem dX2_spreadWidths_47 : decode cX2_spreadWidths 47 = .ok (.invokevirtual 129, 3) := by decide +kernel
theorem dX2_spreadWidths_50 : decode cX2_spreadWidths 50 = .ok (.aload_n 1, 1) := by decide +kernel
theorem dX2_spreadWidths_51 : decode cX2_spreadWidths 51 = .ok (.iconst 4, 1) := by decide +kernel
theorem dX2_spreadWidths_52 : decode cX2_spreadWidths 52 = .ok (.invokevirtual 82, 3) := by decide +kernel
theorem dX2_spreadWidths_55 : decode cX2_spreadWidths 55 = .ok (.invokevirtual 132, 3) := by decide +kernel
theorem dX2_spreadWidths_58 : decode cX2_spreadWidths 58 = .ok (.aload 4, 2) := by decide +kernel
theorem dX2_spreadWidths_60 : decode cX2_spreadWidths 60 = .ok (.astore_n 2, 1) := by decide +kernel
theorem dX2_spreadWidths_61 : decode cX2_spreadWidths 61 = .ok (.iinc 3 1, 3) := by decide +kernel
theorem dX2_spreadWidths_64 : decode cX2_spreadWidths 64 = .ok (.goto (-41), 3) := by decide +kernel
theorem dX2_spreadWidths_67 : decode cX2_spreadWidths 67 = .ok (.return_, 1) := by decide +kernel
theorem dX2_spreadColumn_0 : decode cX2_spreadColumn 0 = .ok (.iconst 0, 1) := by decide +kernel
theorem dX2_spreadColumn_1 : decode cX2_spreadColumn 1 = .ok (.istore_n 1, 1) := by decide +kernel
theorem dX2_spreadColumn_2 : decode cX2_spreadColumn 2 = .ok (.aload_n 0, 1) := by decide +kernel
theorem dX2_spreadColumn_3 : decode cX2_spreadColumn 3 = .ok (.getfield 101, 3) := by decide +kernel
theorem dX2_spreadColumn_6 : decode cX2_spreadColumn 6 = .ok (.astore_n 2, 1) := by decide +kernel
theorem dX2_spreadColumn_7 : decode cX2_spreadColumn 7 = .ok (.aload_n 2, 1) := by decide +kernel
theorem dX2_spreadColumn_8 : decode cX2_spreadColumn 8 = .ok (.ifnull 79, 3) := by decide +kernel
theorem dX2_spreadColumn_11 : decode cX2_spreadColumn 11 = .ok (.aload_n 0, 1) := by decide +kernel
theorem dX2_spreadColumn_12 : decode cX2_spreadColumn 12 = .ok (.invokevirtual 129, 3) := by decide +kernel
theorem dX2_spreadColumn_15 : decode cX2_spreadColumn 15 = .ok (.aload_n 2, 1) := by decide +kernel
theorem dX2_spreadColumn_16 : decode cX2_spreadColumn 16 = .ok (.invokevirtual 104, 3) := by decide +kernel
theorem dX2_spreadColumn_19 : decode cX2_spreadColumn 19 = .ok (.isub, 1) := by decide +kernel
theorem dX2_spreadColumn_20 : decode cX2_spreadColumn 20 = .ok (.iconst 0, 1) := by decide +kernel
theorem dX2_spreadColumn_21 : decode cX2_spreadColumn 21 = .ok (.invokestatic 108, 3) := by decide +kernel
theorem dX2_spreadColumn_24 : decode cX2_spreadColumn 24 = .ok (.istore_n 3, 1) := by decide +kernel
theorem dX2_spreadColumn_25 : decode cX2_spreadColumn 25 = .ok (.aload_n 2, 1) := by decide +kernel
theorem dX2_spreadColumn_26 : decode cX2_spreadColumn 26 = .ok (.bipush 10, 2) := by decide +kernel
theorem dX2_spreadColumn_28 : decode cX2_spreadColumn 28 = .ok (.invokevirtual 82, 3) := by decide +kernel
theorem dX2_spreadColumn_31 : decode cX2_spreadColumn 31 = .ok (.istore 4, 2) := by decide +kernel
theorem dX2_spreadColumn_33 : decode cX2_spreadColumn 33 = .ok (.iload 4, 2) := by decide +kernel
theorem dX2_spreadColumn_35 : decode cX2_spreadColumn 35 = .ok (.iconst (-1), 1) := by decide +kernel
theorem dX2_spreadColumn_36 : decode cX2_spreadColumn 36 = .ok (.if_icmp .ne 25, 3) := by decide +kernel
theorem dX2_spreadColumn_39 : decode cX2_spreadColumn 39 = .ok (.aload_n 2, 1) := by decide +kernel
theorem dX2_spreadColumn_40 : decode cX2_spreadColumn 40 = .ok (.invokevirtual 136, 3) := by decide +kernel
theorem dX2_spreadColumn_43 : decode cX2_spreadColumn 43 = .ok (.iconst 3, 1) := by decide +kernel
theorem dX2_spreadColumn_44 : decode cX2_spreadColumn 44 = .ok (.if_icmp .ne 7, 3) := by decide +kernel
theorem dX2_spreadColumn_47 : decode cX2_spreadColumn 47 = .ok (.iload_n 3, 1) := by decide +kernel
theorem dX2_spreadColumn_48 : decode cX2_spreadColumn 48 = .ok (.goto 11, 3) := by decide +kernel
theorem dX2_spreadColumn_51 : decode cX2_spreadColumn 51 = .ok (.iload_n 3, 1) := by decide +kernel
theorem dX2_spreadColumn_52 : decode cX2_spreadColumn 52 = .ok (.aload_n 2, 1) := by decide +kernel
theorem dX2_spreadColumn_53 : decode cX2_spreadColumn 53 = .ok (.getfield 88, 3) := by decide +kernel
theorem dX2_spreadColumn_56 : decode cX2_spreadColumn 56 = .ok (.invokestatic 139, 3) := by decide +kernel
theorem dX2_spreadColumn_59 : decode cX2_spreadColumn 59 = .ok (.istore 4, 2) := by decide +kernel
theorem dX2_spreadColumn_61 : decode cX2_spreadColumn 61 = .ok (.aload_n 2, 1) := by decide +kernel
theorem dX2_spreadColumn_62 : decode cX2_spreadColumn 62 = .ok (.aload_n 2, 1) := by decide +kernel
theorem dX2_spreadColumn_63 : decode cX2_spreadColumn 63 = .ok (.iload 4, 2) := by decide +kernel
theorem dX2_spreadColumn_65 : decode cX2_spreadColumn 65 = .ok (.invokevirtual 85, 3) := by decide +kernel
theorem dX2_spreadColumn_68 : decode cX2_spreadColumn 68 = .ok (.putfield 47, 3) := by decide +kernel
theorem dX2_spreadColumn_71 : decode cX2_spreadColumn 71 = .ok (.aload_n 2, 1) := by decide +kernel
theorem dX2_spreadColumn_72 : decode cX2_spreadColumn 72 = .ok (.iload_n 1, 1) := by decide +kernel
theorem dX2_spreadColumn_73 : decode cX2_spreadColumn 73 = .ok (.putfield 142, 3) := by decide +kernel
theorem dX2_spreadColumn_76 : decode cX2_spreadColumn 76 = .ok (.iinc 1 1, 3) := by decide +kernel
theorem dX2_spreadColumn_79 : decode cX2_spreadColumn 79 = .ok (.aload_n 2, 1) := by decide +kernel
theorem dX2_spreadColumn_80 : decode cX2_spreadColumn 80 = .ok (.getfield 113, 3) := by decide +kernel
theorem dX2_spreadColumn_83 : decode cX2_spreadColumn 83 = .ok (.astore_n 2, 1) := by decide +kernel
theorem dX2_spreadColumn_84 : decode cX2_spreadColumn 84 = .ok (.goto (-77), 3) := by decide +kernel
theorem dX2_spreadColumn_87 : decode cX2_spreadColumn 87 = .ok (.aload_n 0, 1) := by decide +kernel
theorem dX2_spreadColumn_88 : decode cX2_spreadColumn 88 = .ok (.iload_n 1, 1) := by decide +kernel
theorem dX2_spreadColumn_89 : decode cX2_spreadColumn 89 = .ok (.putfield 122, 3) := by decide +kernel
theorem dX2_spreadColumn_92 : decode cX2_spreadColumn 92 = .ok (.return_, 1) := by decide +kernel
theorem dX2_breakLines_0 : decode cX2_breakLines 0 = .ok (.iconst 0, 1) := by decide +kernel
theorem dX2_breakLines_1 : decode cX2_breakLines 1 = .ok (.istore_n 1, 1) := by decide +kernel
theorem dX2_breakLines_2 : decode cX2_breakLines 2 = .ok (.iconst 0, 1) := by decide +kernel
theorem dX2_breakLines_3 : decode cX2_breakLines 3 = .ok (.istore_n 2, 1) := by decide +kernel
theorem dX2_breakLines_4 : decode cX2_breakLines 4 = .ok (.aload_n 0, 1) := by decide +kernel
theorem dX2_breakLines_5 : decode cX2_breakLines 5 = .ok (.getfield 101, 3) := by decide +kernel
theorem dX2_breakLines_8 : decode cX2_breakLines 8 = .ok (.astore_n 3, 1) := by decide +kernel
theorem dX2_breakLines_9 : decode cX2_breakLines 9 = .ok (.aload_n 3, 1) := by decide +kernel
theorem dX2_breakLines_10 : decode cX2_breakLines 10 = .ok (.ifnull 90, 3) := by decide +kernel
theorem dX2_breakLines_13 : decode cX2_breakLines 13 = .ok (.aload_n 3, 1) := by decide +kernel
theorem dX2_breakLines_14 : decode cX2_breakLines 14 = .ok (.aload_n 3, 1) := by decide +kernel
theorem dX2_breakLines_15 : decode cX2_breakLines 15 = .ok (.iconst 1, 1) := by decide +kernel
theorem dX2_breakLines_16 : decode cX2_breakLines 16 = .ok (.invokestatic 145, 3) := by decide +kernel
theorem dX2_breakLines_19 : decode cX2_breakLines 19 = .ok (.invokevirtual 85, 3) := by decide +kernel
theorem dX2_breakLines_22 : decode cX2_breakLines 22 = .ok (.aload_n 3, 1) := by decide +kernel
theorem dX2_breakLines_23 : decode cX2_breakLines 23 = .ok (.invokevirtual 104, 3) := by decide +kernel
theorem dX2_breakLines_26 : decode cX2_breakLines 26 = .ok (.iadd, 1) := by decide +kernel
theorem dX2_breakLines_27 : decode cX2_breakLines 27 = .ok (.istore 4, 2) := by decide +kernel
theorem dX2_breakLines_29 : decode cX2_breakLines 29 = .ok (.aload_n 3, 1) := by decide +kernel
theorem dX2_breakLines_30 : decode cX2_breakLines 30 = .ok (.aload_n 0, 1) := by decide +kernel
theorem dX2_breakLines_31 : decode cX2_breakLines 31 = .ok (.getfield 101, 3) := by decide +kernel
theorem dX2_breakLines_34 : decode cX2_breakLines 34 = .ok (.if_acmp .ne 9, 3) := by decide +kernel
theorem dX2_breakLines_37 : decode cX2_breakLines 37 = .ok (.iload 4, 2) := by decide +kernel
theorem dX2_breakLines_39 : decode cX2_breakLines 39 = .ok (.istore_n 2, 1) := by decide +kernel
theorem dX2_breakLines_40 : decode cX2_breakLines 40 = .ok (.goto 47, 3) := by decide +kernel
theorem dX2_breakLines_43 : decode cX2_breakLines 43 = .ok (.aload_n 0, 1) := by decide +kernel
theorem dX2_breakLines_44 : decode cX2_breakLines 44 = .ok (.invokevirtual 149, 3) := by decide +kernel
theorem dX2_breakLines_47 : decode cX2_breakLines 47 = .ok (.ifCond .eq 29, 3) := by decide +kernel
theorem dX2_breakLines_50 : decode cX2_breakLines 50 = .ok (.iload_n 2, 1) := by decide +kernel
theorem dX2_breakLines_51 : decode cX2_breakLines 51 = .ok (.aload_n 0, 1) := by decide +kernel
theorem dX2_breakLines_52 : decode cX2_breakLines 52 = .ok (.iconst 4, 1) := by decide +kernel
theorem dX2_breakLines_53 : decode cX2_breakLines 53 = .ok (.invokevirtual 82, 3) := by decide +kernel
theorem dX2_breakLines_56 : decode cX2_breakLines 56 = .ok (.iadd, 1) := by decide +kernel
theorem dX2_breakLines_57 : decode cX2_breakLines 57 = .ok (.iload 4, 2) := by decide +kernel
theorem dX2_breakLines_59 : decode cX2_breakLines 59 = .ok (.iadd, 1) := by decide +kernel
theorem dX2_breakLines_60 : decode cX2_breakLines 60 = .ok (.aload_n 0, 1) := by decide +kernel
theorem dX2_breakLines_61 : decode cX2_breakLines 61 = .ok (.invokevirtual 129, 3) := by decide +kernel
theorem dX2_breakLines_64 : decode cX2_breakLines 64 = .ok (.if_icmp .le 12, 3) := by decide +kernel
theorem dX2_breakLines_67 : decode cX2_breakLines 67 = .ok (.iinc 1 1, 3) := by decide +kernel
theorem dX2_breakLines_70 : decode cX2_breakLines 70 = .ok (.iload 4, 2) := by decide +kernel
theorem dX2_breakLines_72 : decode cX2_breakLines 72 = .ok (.istore_n 2, 1) := by decide +kernel
theorem dX2_breakLines_73 : decode cX2_breakLines 73 = .ok (.goto 14, 3) := by decide +kernel
theorem dX2_breakLines_76 : decode cX2_breakLines 76 = .ok (.iload_n 2, 1) := by decide +kernel
theorem dX2_breakLines_77 : decode cX2_breakLines 77 = .ok (.aload_n 0, 1) := by decide +kernel
theorem dX2_breakLines_78 : decode cX2_breakLines 78 = .ok (.iconst 4, 1) := by decide +kernel
theorem dX2_breakLines_79 : decode cX2_breakLines 79 = .ok (.invokevirtual 82, 3) := by decide +kernel
theorem dX2_breakLines_82 : decode cX2_breakLines 82 = .ok (.iload 4, 2) := by decide +kernel
theorem dX2_breakLines_84 : decode cX2_breakLines 84 = .ok (.iadd, 1) := by decide +kernel
theorem dX2_breakLines_85 : decode cX2_breakLines 85 = .ok (.iadd, 1) := by decide +kernel
theorem dX2_breakLines_86 : decode cX2_breakLines 86 = .ok (.istore_n 2, 1) := by decide +kernel
theorem dX2_breakLines_87 : decode cX2_breakLines 87 = .ok (.aload_n 3, 1) := by decide +kernel
theorem dX2_breakLines_88 : decode cX2_breakLines 88 = .ok (.iload_n 1, 1) := by decide +kernel
theorem dX2_breakLines_89 : decode cX2_breakLines 89 = .ok (.putfield 142, 3) := by decide +kernel
theorem dX2_breakLines_92 : decode cX2_breakLines 92 = .ok (.aload_n 3, 1) := by decide +kernel
theorem dX2_breakLines_93 : decode cX2_breakLines 93 = .ok (.getfield 113, 3) := by decide +kernel
end
section
theorem dX2_breakLines_96 : decode cX2_breakLines 96 = .ok (.astore_n 3, 1) := by decide +kernel
theorem dX2_breakLines_97 : decode cX2_breakLines 97 = .ok (.goto (-88), 3) := by decide +kernel
theorem dX2_breakLines_100 : decode cX2_breakLines 100 = .ok (.aload_n 0, 1) := by decide +kernel
theorem dX2_breakLines_101 : decode cX2_breakLines 101 = .ok (.aload_n 0, 1) := by decide +kernel
theorem dX2_breakLines_102 : decode cX2_breakLines 102 = .ok (.getfield 101, 3) := by decide +kernel
theorem dX2_breakLines_105 : decode cX2_breakLines 105 = .ok (.ifnonnull 7, 3) := by decide +kernel
theorem dX2_breakLines_108 : decode cX2_breakLines 108 = .ok (.iconst 0, 1) := by decide +kernel
theorem dX2_breakLines_109 : decode cX2_breakLines 109 = .ok (.goto 6, 3) := by decide +kernel
theorem dX2_breakLines_112 : decode cX2_breakLines 112 = .ok (.iload_n 1, 1) := by decide +kernel
theorem dX2_breakLines_113 : decode cX2_breakLines 113 = .ok (.iconst 1, 1) := by decide +kernel
theorem dX2_breakLines_114 : decode cX2_breakLines 114 = .ok (.iadd, 1) := by decide +kernel
theorem dX2_breakLines_115 : decode cX2_breakLines 115 = .ok (.putfield 122, 3) := by decide +kernel
theorem dX2_breakLines_118 : decode cX2_breakLines 118 = .ok (.return_, 1) := by decide +kernel
theorem dX2_lineEnd_0 : decode cX2_lineEnd 0 = .ok (.aload_n 0, 1) := by decide +kernel
theorem dX2_lineEnd_1 : decode cX2_lineEnd 1 = .ok (.astore_n 1, 1) := by decide +kernel
theorem dX2_lineEnd_2 : decode cX2_lineEnd 2 = .ok (.aload_n 1, 1) := by decide +kernel
theorem dX2_lineEnd_3 : decode cX2_lineEnd 3 = .ok (.ifnull 22, 3) := by decide +kernel
theorem dX2_lineEnd_6 : decode cX2_lineEnd 6 = .ok (.aload_n 1, 1) := by decide +kernel
theorem dX2_lineEnd_7 : decode cX2_lineEnd 7 = .ok (.getfield 142, 3) := by decide +kernel
theorem dX2_lineEnd_10 : decode cX2_lineEnd 10 = .ok (.aload_n 0, 1) := by decide +kernel
theorem dX2_lineEnd_11 : decode cX2_lineEnd 11 = .ok (.getfield 142, 3) := by decide +kernel
theorem dX2_lineEnd_14 : decode cX2_lineEnd 14 = .ok (.if_icmp .ne 11, 3) := by decide +kernel
theorem dX2_lineEnd_17 : decode cX2_lineEnd 17 = .ok (.aload_n 1, 1) := by decide +kernel
theorem dX2_lineEnd_18 : decode cX2_lineEnd 18 = .ok (.getfield 113, 3) := by decide +kernel
theorem dX2_lineEnd_21 : decode cX2_lineEnd 21 = .ok (.astore_n 1, 1) := by decide +kernel
theorem dX2_lineEnd_22 : decode cX2_lineEnd 22 = .ok (.goto (-20), 3) := by decide +kernel
theorem dX2_lineEnd_25 : decode cX2_lineEnd 25 = .ok (.aload_n 1, 1) := by decide +kernel
theorem dX2_lineEnd_26 : decode cX2_lineEnd 26 = .ok (.areturn, 1) := by decide +kernel
theorem dX2_flexKids_0 : decode cX2_flexKids 0 = .ok (.aload_n 0, 1) := by decide +kernel
theorem dX2_flexKids_1 : decode cX2_flexKids 1 = .ok (.getfield 12, 3) := by decide +kernel
theorem dX2_flexKids_4 : decode cX2_flexKids 4 = .ok (.invokevirtual 152, 3) := by decide +kernel
theorem dX2_flexKids_7 : decode cX2_flexKids 7 = .ok (.aload_n 1, 1) := by decide +kernel
theorem dX2_flexKids_8 : decode cX2_flexKids 8 = .ok (.astore 6, 2) := by decide +kernel
theorem dX2_flexKids_10 : decode cX2_flexKids 10 = .ok (.aload 6, 2) := by decide +kernel
theorem dX2_flexKids_12 : decode cX2_flexKids 12 = .ok (.ifnull 29, 3) := by decide +kernel
theorem dX2_flexKids_15 : decode cX2_flexKids 15 = .ok (.aload 6, 2) := by decide +kernel
theorem dX2_flexKids_17 : decode cX2_flexKids 17 = .ok (.aload_n 2, 1) := by decide +kernel
theorem dX2_flexKids_18 : decode cX2_flexKids 18 = .ok (.if_acmp .eq 23, 3) := by decide +kernel
theorem dX2_flexKids_21 : decode cX2_flexKids 21 = .ok (.aload_n 0, 1) := by decide +kernel
theorem dX2_flexKids_22 : decode cX2_flexKids 22 = .ok (.getfield 12, 3) := by decide +kernel
theorem dX2_flexKids_25 : decode cX2_flexKids 25 = .ok (.aload 6, 2) := by decide +kernel
theorem dX2_flexKids_27 : decode cX2_flexKids 27 = .ok (.iload_n 3, 1) := by decide +kernel
theorem dX2_flexKids_28 : decode cX2_flexKids 28 = .ok (.invokevirtual 155, 3) := by decide +kernel
theorem dX2_flexKids_31 : decode cX2_flexKids 31 = .ok (.aload 6, 2) := by decide +kernel
theorem dX2_flexKids_33 : decode cX2_flexKids 33 = .ok (.getfield 113, 3) := by decide +kernel
theorem dX2_flexKids_36 : decode cX2_flexKids 36 = .ok (.astore 6, 2) := by decide +kernel
theorem dX2_flexKids_38 : decode cX2_flexKids 38 = .ok (.goto (-28), 3) := by decide +kernel
theorem dX2_flexKids_41 : decode cX2_flexKids 41 = .ok (.aload_n 0, 1) := by decide +kernel
theorem dX2_flexKids_42 : decode cX2_flexKids 42 = .ok (.getfield 12, 3) := by decide +kernel
theorem dX2_flexKids_45 : decode cX2_flexKids 45 = .ok (.iload 4, 2) := by decide +kernel
theorem dX2_flexKids_47 : decode cX2_flexKids 47 = .ok (.iload 5, 2) := by decide +kernel
theorem dX2_flexKids_49 : decode cX2_flexKids 49 = .ok (.invokevirtual 159, 3) := by decide +kernel
theorem dX2_flexKids_52 : decode cX2_flexKids 52 = .ok (.iconst 0, 1) := by decide +kernel
theorem dX2_flexKids_53 : decode cX2_flexKids 53 = .ok (.istore 6, 2) := by decide +kernel
theorem dX2_flexKids_55 : decode cX2_flexKids 55 = .ok (.aload_n 1, 1) := by decide +kernel
theorem dX2_flexKids_56 : decode cX2_flexKids 56 = .ok (.astore 7, 2) := by decide +kernel
theorem dX2_flexKids_58 : decode cX2_flexKids 58 = .ok (.aload 7, 2) := by decide +kernel
theorem dX2_flexKids_60 : decode cX2_flexKids 60 = .ok (.ifnull 57, 3) := by decide +kernel
theorem dX2_flexKids_63 : decode cX2_flexKids 63 = .ok (.aload 7, 2) := by decide +kernel
theorem dX2_flexKids_65 : decode cX2_flexKids 65 = .ok (.aload_n 2, 1) := by decide +kernel
theorem dX2_flexKids_66 : decode cX2_flexKids 66 = .ok (.if_acmp .eq 51, 3) := by decide +kernel
theorem dX2_flexKids_69 : decode cX2_flexKids 69 = .ok (.iload_n 3, 1) := by decide +kernel
theorem dX2_flexKids_70 : decode cX2_flexKids 70 = .ok (.ifCond .eq 20, 3) := by decide +kernel
theorem dX2_flexKids_73 : decode cX2_flexKids 73 = .ok (.aload 7, 2) := by decide +kernel
theorem dX2_flexKids_75 : decode cX2_flexKids 75 = .ok (.aload_n 0, 1) := by decide +kernel
theorem dX2_flexKids_76 : decode cX2_flexKids 76 = .ok (.getfield 12, 3) := by decide +kernel
theorem dX2_flexKids_79 : decode cX2_flexKids 79 = .ok (.iload 6, 2) := by decide +kernel
theorem dX2_flexKids_81 : decode cX2_flexKids 81 = .ok (.invokevirtual 163, 3) := by decide +kernel
theorem dX2_flexKids_84 : decode cX2_flexKids 84 = .ok (.putfield 47, 3) := by decide +kernel
theorem dX2_flexKids_87 : decode cX2_flexKids 87 = .ok (.goto 17, 3) := by decide +kernel
theorem dX2_flexKids_90 : decode cX2_flexKids 90 = .ok (.aload 7, 2) := by decide +kernel
theorem dX2_flexKids_92 : decode cX2_flexKids 92 = .ok (.aload_n 0, 1) := by decide +kernel
theorem dX2_flexKids_93 : decode cX2_flexKids 93 = .ok (.getfield 12, 3) := by decide +kernel
theorem dX2_flexKids_96 : decode cX2_flexKids 96 = .ok (.iload 6, 2) := by decide +kernel
theorem dX2_flexKids_98 : decode cX2_flexKids 98 = .ok (.invokevirtual 163, 3) := by decide +kernel
theorem dX2_flexKids_101 : decode cX2_flexKids 101 = .ok (.putfield 61, 3) := by decide +kernel
theorem dX2_flexKids_104 : decode cX2_flexKids 104 = .ok (.iinc 6 1, 3) := by decide +kernel
theorem dX2_flexKids_107 : decode cX2_flexKids 107 = .ok (.aload 7, 2) := by decide +kernel
theorem dX2_flexKids_109 : decode cX2_flexKids 109 = .ok (.getfield 113, 3) := by decide +kernel
theorem dX2_flexKids_112 : decode cX2_flexKids 112 = .ok (.astore 7, 2) := by decide +kernel
theorem dX2_flexKids_114 : decode cX2_flexKids 114 = .ok (.goto (-56), 3) := by decide +kernel
theorem dX2_flexKids_117 : decode cX2_flexKids 117 = .ok (.return_, 1) := by decide +kernel
theorem dX2_measureHeight_0 : decode cX2_measureHeight 0 = .ok (.aload_n 0, 1) := by decide +kernel
theorem dX2_measureHeight_1 : decode cX2_measureHeight 1 = .ok (.getfield 91, 3) := by decide +kernel
theorem dX2_measureHeight_4 : decode cX2_measureHeight 4 = .ok (.ifCond .ne 11, 3) := by decide +kernel
theorem dX2_measureHeight_7 : decode cX2_measureHeight 7 = .ok (.aload_n 0, 1) := by decide +kernel
theorem dX2_measureHeight_8 : decode cX2_measureHeight 8 = .ok (.aload_n 0, 1) := by decide +kernel
theorem dX2_measureHeight_9 : decode cX2_measureHeight 9 = .ok (.invokevirtual 166, 3) := by decide +kernel
theorem dX2_measureHeight_12 : decode cX2_measureHeight 12 = .ok (.putfield 122, 3) := by decide +kernel
theorem dX2_measureHeight_15 : decode cX2_measureHeight 15 = .ok (.aload_n 0, 1) := by decide +kernel
theorem dX2_measureHeight_16 : decode cX2_measureHeight 16 = .ok (.bipush 11, 2) := by decide +kernel
theorem dX2_measureHeight_18 : decode cX2_measureHeight 18 = .ok (.invokevirtual 74, 3) := by decide +kernel
theorem dX2_measureHeight_21 : decode cX2_measureHeight 21 = .ok (.istore_n 1, 1) := by decide +kernel
theorem dX2_measureHeight_22 : decode cX2_measureHeight 22 = .ok (.iload_n 1, 1) := by decide +kernel
theorem dX2_measureHeight_23 : decode cX2_measureHeight 23 = .ok (.iconst (-1), 1) := by decide +kernel
theorem dX2_measureHeight_24 : decode cX2_measureHeight 24 = .ok (.if_icmp .ne 16, 3) := by decide +kernel
theorem dX2_measureHeight_27 : decode cX2_measureHeight 27 = .ok (.aload_n 0, 1) := by decide +kernel
theorem dX2_measureHeight_28 : decode cX2_measureHeight 28 = .ok (.invokestatic 169, 3) := by decide +kernel
theorem dX2_measureHeight_31 : decode cX2_measureHeight 31 = .ok (.iconst 2, 1) := by decide +kernel
theorem dX2_measureHeight_32 : decode cX2_measureHeight 32 = .ok (.aload_n 0, 1) := by decide +kernel
theorem dX2_measureHeight_33 : decode cX2_measureHeight 33 = .ok (.iconst 5, 1) := by decide +kernel
theorem dX2_measureHeight_34 : decode cX2_measureHeight 34 = .ok (.invokevirtual 82, 3) := by decide +kernel
theorem dX2_measureHeight_37 : decode cX2_measureHeight 37 = .ok (.imul, 1) := by decide +kernel
theorem dX2_measureHeight_38 : decode cX2_measureHeight 38 = .ok (.iadd, 1) := by decide +kernel
theorem dX2_measureHeight_39 : decode cX2_measureHeight 39 = .ok (.istore_n 1, 1) := by decide +kernel
theorem dX2_measureHeight_40 : decode cX2_measureHeight 40 = .ok (.aload_n 0, 1) := by decide +kernel
theorem dX2_measureHeight_41 : decode cX2_measureHeight 41 = .ok (.aload_n 0, 1) := by decide +kernel
theorem dX2_measureHeight_42 : decode cX2_measureHeight 42 = .ok (.iload_n 1, 1) := by decide +kernel
theorem dX2_measureHeight_43 : decode cX2_measureHeight 43 = .ok (.invokevirtual 172, 3) := by decide +kernel
theorem dX2_measureHeight_46 : decode cX2_measureHeight 46 = .ok (.putfield 175, 3) := by decide +kernel
theorem dX2_measureHeight_49 : decode cX2_measureHeight 49 = .ok (.return_, 1) := by decide +kernel
theorem dX2_contentHeight_0 : decode cX2_contentHeight 0 = .ok (.aload_n 0, 1) := by decide +kernel
theorem dX2_contentHeight_1 : decode cX2_contentHeight 1 = .ok (.getfield 91, 3) := by decide +kernel
theorem dX2_contentHeight_4 : decode cX2_contentHeight 4 = .ok (.ifCond .ne 11, 3) := by decide +kernel
theorem dX2_contentHeight_7 : decode cX2_contentHeight 7 = .ok (.bipush 16, 2) := by decide +kernel
theorem dX2_contentHeight_9 : decode cX2_contentHeight 9 = .ok (.aload_n 0, 1) := by decide +kernel
theorem dX2_contentHeight_10 : decode cX2_contentHeight 10 = .ok (.getfield 122, 3) := by decide +kernel
theorem dX2_contentHeight_13 : decode cX2_contentHeight 13 = .ok (.imul, 1) := by decide +kernel
theorem dX2_contentHeight_14 : decode cX2_contentHeight 14 = .ok (.ireturn, 1) := by decide +kernel
theorem dX2_contentHeight_15 : decode cX2_contentHeight 15 = .ok (.aload_n 0, 1) := by decide +kernel
theorem dX2_contentHeight_16 : decode cX2_contentHeight 16 = .ok (.getfield 122, 3) := by decide +kernel
theorem dX2_contentHeight_19 : decode cX2_contentHeight 19 = .ok (.aload_n 0, 1) := by decide +kernel
theorem dX2_contentHeight_20 : decode cX2_contentHeight 20 = .ok (.iconst 4, 1) := by decide +kernel
theorem dX2_contentHeight_21 : decode cX2_contentHeight 21 = .ok (.invokevirtual 82, 3) := by decide +kernel
theorem dX2_contentHeight_24 : decode cX2_contentHeight 24 = .ok (.invokestatic 97, 3) := by decide +kernel
theorem dX2_contentHeight_27 : decode cX2_contentHeight 27 = .ok (.istore_n 1, 1) := by decide +kernel
theorem dX2_contentHeight_28 : decode cX2_contentHeight 28 = .ok (.aload_n 0, 1) := by decide +kernel
theorem dX2_contentHeight_29 : decode cX2_contentHeight 29 = .ok (.getfield 101, 3) := by decide +kernel
theorem dX2_contentHeight_32 : decode cX2_contentHeight 32 = .ok (.astore_n 2, 1) := by decide +kernel
theorem dX2_contentHeight_33 : decode cX2_contentHeight 33 = .ok (.iconst 0, 1) := by decide +kernel
theorem dX2_contentHeight_34 : decode cX2_contentHeight 34 = .ok (.istore_n 3, 1) := by decide +kernel
theorem dX2_contentHeight_35 : decode cX2_contentHeight 35 = .ok (.iload_n 3, 1) := by decide +kernel
theorem dX2_contentHeight_36 : decode cX2_contentHeight 36 = .ok (.aload_n 0, 1) := by decide +kernel
theorem dX2_contentHeight_37 : decode cX2_contentHeight 37 = .ok (.getfield 122, 3) := by decide +kernel
theorem dX2_contentHeight_40 : decode cX2_contentHeight 40 = .ok (.if_icmp .ge 31, 3) := by decide +kernel
theorem dX2_contentHeight_43 : decode cX2_contentHeight 43 = .ok (.aload_n 2, 1) := by decide +kernel
theorem dX2_contentHeight_44 : decode cX2_contentHeight 44 = .ok (.ifnull 27, 3) := by decide +kernel
theorem dX2_contentHeight_47 : decode cX2_contentHeight 47 = .ok (.aload_n 2, 1) := by decide +kernel
theorem dX2_contentHeight_48 : decode cX2_contentHeight 48 = .ok (.invokestatic 125, 3) := by decide +kernel
theorem dX2_contentHeight_51 : decode cX2_contentHeight 51 = .ok (.astore 4, 2) := by decide +kernel
theorem dX2_contentHeight_53 : decode cX2_contentHeight 53 = .ok (.iload_n 1, 1) := by decide +kernel
theorem dX2_contentHeight_54 : decode cX2_contentHeight 54 = .ok (.aload_n 2, 1) := by decide +kernel
theorem dX2_contentHeight_55 : decode cX2_contentHeight 55 = .ok (.aload 4, 2) := by decide +kernel
theorem dX2_contentHeight_57 : decode cX2_contentHeight 57 = .ok (.invokestatic 178, 3) := by decide +kernel
theorem dX2_contentHeight_60 : decode cX2_contentHeight 60 = .ok (.iadd, 1) := by decide +kernel
theorem dX2_contentHeight_61 : decode cX2_contentHeight 61 = .ok (.istore_n 1, 1) := by decide +kernel
theorem dX2_contentHeight_62 : decode cX2_contentHeight 62 = .ok (.aload 4, 2) := by decide +kernel
theorem dX2_contentHeight_64 : decode cX2_contentHeight 64 = .ok (.astore_n 2, 1) := by decide +kernel
theorem dX2_contentHeight_65 : decode cX2_contentHeight 65 = .ok (.iinc 3 1, 3) := by decide +kernel
theorem dX2_contentHeight_68 : decode cX2_contentHeight 68 = .ok (.goto (-33), 3) := by decide +kernel
theorem dX2_contentHeight_71 : decode cX2_contentHeight 71 = .ok (.iload_n 1, 1) := by decide +kernel
theorem dX2_contentHeight_72 : decode cX2_contentHeight 72 = .ok (.ireturn, 1) := by decide +kernel
theorem dX2_lineHeight_0 : decode cX2_lineHeight 0 = .ok (.iconst 0, 1) := by decide +kernel
theorem dX2_lineHeight_1 : decode cX2_lineHeight 1 = .ok (.istore_n 2, 1) := by decide +kernel
theorem dX2_lineHeight_2 : decode cX2_lineHeight 2 = .ok (.aload_n 0, 1) := by decide +kernel
theorem dX2_lineHeight_3 : decode cX2_lineHeight 3 = .ok (.astore_n 3, 1) := by decide +kernel
theorem dX2_lineHeight_4 : decode cX2_lineHeight 4 = .ok (.aload_n 3, 1) := by decide +kernel
theorem dX2_lineHeight_5 : decode cX2_lineHeight 5 = .ok (.ifnull 30, 3) := by decide +kernel
theorem dX2_lineHeight_8 : decode cX2_lineHeight 8 = .ok (.aload_n 3, 1) := by decide +kernel
theorem dX2_lineHeight_9 : decode cX2_lineHeight 9 = .ok (.aload_n 1, 1) := by decide +kernel
theorem dX2_lineHeight_10 : decode cX2_lineHeight 10 = .ok (.if_acmp .eq 25, 3) := by decide +kernel
theorem dX2_lineHeight_13 : decode cX2_lineHeight 13 = .ok (.iload_n 2, 1) := by decide +kernel
theorem dX2_lineHeight_14 : decode cX2_lineHeight 14 = .ok (.aload_n 3, 1) := by decide +kernel
theorem dX2_lineHeight_15 : decode cX2_lineHeight 15 = .ok (.getfield 175, 3) := by decide +kernel
theorem dX2_lineHeight_18 : decode cX2_lineHeight 18 = .ok (.aload_n 3, 1) := by decide +kernel
theorem dX2_lineHeight_19 : decode cX2_lineHeight 19 = .ok (.invokevirtual 104, 3) := by decide +kernel
theorem dX2_lineHeight_22 : decode cX2_lineHeight 22 = .ok (.iadd, 1) := by decide +kernel
theorem dX2_lineHeight_23 : decode cX2_lineHeight 23 = .ok (.invokestatic 108, 3) := by decide +kernel
theorem dX2_lineHeight_26 : decode cX2_lineHeight 26 = .ok (.istore_n 2, 1) := by decide +kernel
theorem dX2_lineHeight_27 : decode cX2_lineHeight 27 = .ok (.aload_n 3, 1) := by decide +kernel
theorem dX2_lineHeight_28 : decode cX2_lineHeight 28 = .ok (.getfield 113, 3) := by decide +kernel
theorem dX2_lineHeight_31 : decode cX2_lineHeight 31 = .ok (.astore_n 3, 1) := by decide +kernel
theorem dX2_lineHeight_32 : decode cX2_lineHeight 32 = .ok (.goto (-28), 3) := by decide +kernel
theorem dX2_lineHeight_35 : decode cX2_lineHeight 35 = .ok (.iload_n 2, 1) := by decide +kernel
theorem dX2_lineHeight_36 : decode cX2_lineHeight 36 = .ok (.ireturn, 1) := by decide +kernel
theorem dX2_placeRow_0 : decode cX2_placeRow 0 = .ok (.aload_n 0, 1) := by decide +kernel
theorem dX2_placeRow_1 : decode cX2_placeRow 1 = .ok (.getfield 182, 3) := by decide +kernel
theorem dX2_placeRow_4 : decode cX2_placeRow 4 = .ok (.aload_n 0, 1) := by decide +kernel
theorem dX2_placeRow_5 : decode cX2_placeRow 5 = .ok (.iconst 5, 1) := by decide +kernel
theorem dX2_placeRow_6 : decode cX2_placeRow 6 = .ok (.invokevirtual 82, 3) := by decide +kernel
theorem dX2_placeRow_9 : decode cX2_placeRow 9 = .ok (.iadd, 1) := by decide +kernel
theorem dX2_placeRow_10 : decode cX2_placeRow 10 = .ok (.istore_n 1, 1) := by decide +kernel
theorem dX2_placeRow_11 : decode cX2_placeRow 11 = .ok (.aload_n 0, 1) := by decide +kernel
theorem dX2_placeRow_12 : decode cX2_placeRow 12 = .ok (.getfield 101, 3) := by decide +kernel
theorem dX2_placeRow_15 : decode cX2_placeRow 15 = .ok (.astore_n 2, 1) := by decide +kernel
theorem dX2_placeRow_16 : decode cX2_placeRow 16 = .ok (.iconst 0, 1) := by decide +kernel
theorem dX2_placeRow_17 : decode cX2_placeRow 17 = .ok (.istore_n 3, 1) := by decide +kernel
theorem dX2_placeRow_18 : decode cX2_placeRow 18 = .ok (.iload_n 3, 1) := by decide +kernel
theorem dX2_placeRow_19 : decode cX2_placeRow 19 = .ok (.aload_n 0, 1) := by decide +kernel
theorem dX2_placeRow_20 : decode cX2_placeRow 20 = .ok (.getfield 122, 3) := by decide +kernel
theorem dX2_placeRow_23 : decode cX2_placeRow 23 = .ok (.if_icmp .ge 65, 3) := by decide +kernel
theorem dX2_placeRow_26 : decode cX2_placeRow 26 = .ok (.aload_n 2, 1) := by decide +kernel
theorem dX2_placeRow_27 : decode cX2_placeRow 27 = .ok (.ifnull 61, 3) := by decide +kernel
theorem dX2_placeRow_30 : decode cX2_placeRow 30 = .ok (.aload_n 2, 1) := by decide +kernel
theorem dX2_placeRow_31 : decode cX2_placeRow 31 = .ok (.invokestatic 125, 3) := by decide +kernel
theorem dX2_placeRow_34 : decode cX2_placeRow 34 = .ok (.astore 4, 2) := by decide +kernel
theorem dX2_placeRow_36 : decode cX2_placeRow 36 = .ok (.aload_n 0, 1) := by decide +kernel
theorem dX2_placeRow_37 : decode cX2_placeRow 37 = .ok (.invokevirtual 149, 3) := by decide +kernel
theorem dX2_placeRow_40 : decode cX2_placeRow 40 = .ok (.ifCond .eq 12, 3) := by decide +kernel
theorem dX2_placeRow_43 : decode cX2_placeRow 43 = .ok (.aload_n 2, 1) := by decide +kernel
theorem dX2_placeRow_44 : decode cX2_placeRow 44 = .ok (.aload 4, 2) := by decide +kernel
theorem dX2_placeRow_46 : decode cX2_placeRow 46 = .ok (.invokestatic 178, 3) := by decide +kernel
theorem dX2_placeRow_49 : decode cX2_placeRow 49 = .ok (.goto 7, 3) := by decide +kernel
theorem dX2_placeRow_52 : decode cX2_placeRow 52 = .ok (.aload_n 0, 1) := by decide +kernel
theorem dX2_placeRow_53 : decode cX2_placeRow 53 = .ok (.invokevirtual 185, 3) := by decide +kernel
theorem dX2_placeRow_56 : decode cX2_placeRow 56 = .ok (.istore 5, 2) := by decide +kernel
theorem dX2_placeRow_58 : decode cX2_placeRow 58 = .ok (.aload_n 0, 1) := by decide +kernel
theorem dX2_placeRow_59 : decode cX2_placeRow 59 = .ok (.aload_n 2, 1) := by decide +kernel
theorem dX2_placeRow_60 : decode cX2_placeRow 60 = .ok (.aload 4, 2) := by decide +kernel
theorem dX2_placeRow_62 : decode cX2_placeRow 62 = .ok (.iload_n 1, 1) := by decide +kernel
theorem dX2_placeRow_63 : decode cX2_placeRow 63 = .ok (.iload 5, 2) := by decide +kernel
theorem dX2_placeRow_65 : decode cX2_placeRow 65 = .ok (.invokestatic 188, 3) := by decide +kernel
theorem dX2_placeRow_68 : decode cX2_placeRow 68 = .ok (.iload_n 1, 1) := by decide +kernel
theorem dX2_placeRow_69 : decode cX2_placeRow 69 = .ok (.iload 5, 2) := by decide +kernel
theorem dX2_placeRow_71 : decode cX2_placeRow 71 = .ok (.aload_n 0, 1) := by decide +kernel
theorem dX2_placeRow_72 : decode cX2_placeRow 72 = .ok (.iconst 4, 1) := by decide +kernel
theorem dX2_placeRow_73 : decode cX2_placeRow 73 = .ok (.invokevirtual 82, 3) := by decide +kernel
theorem dX2_placeRow_76 : decode cX2_placeRow 76 = .ok (.iadd, 1) := by decide +kernel
theorem dX2_placeRow_77 : decode cX2_placeRow 77 = .ok (.iadd, 1) := by decide +kernel
theorem dX2_placeRow_78 : decode cX2_placeRow 78 = .ok (.istore_n 1, 1) := by decide +kernel
theorem dX2_placeRow_79 : decode cX2_placeRow 79 = .ok (.aload 4, 2) := by decide +kernel
theorem dX2_placeRow_81 : decode cX2_placeRow 81 = .ok (.astore_n 2, 1) := by decide +kernel
theorem dX2_placeRow_82 : decode cX2_placeRow 82 = .ok (.iinc 3 1, 3) := by decide +kernel
theorem dX2_placeRow_85 : decode cX2_placeRow 85 = .ok (.goto (-67), 3) := by decide +kernel
theorem dX2_placeRow_88 : decode cX2_placeRow 88 = .ok (.return_, 1) := by decide +kernel
theorem dX2_placeColumn_0 : decode cX2_placeColumn 0 = .ok (.aload_n 0, 1) := by decide +kernel
theorem dX2_placeColumn_1 : decode cX2_placeColumn 1 = .ok (.aload_n 1, 1) := by decide +kernel
theorem dX2_placeColumn_2 : decode cX2_placeColumn 2 = .ok (.getfield 101, 3) := by decide +kernel
theorem dX2_placeColumn_5 : decode cX2_placeColumn 5 = .ok (.aconst_null, 1) := by decide +kernel
theorem dX2_placeColumn_6 : decode cX2_placeColumn 6 = .ok (.iconst 0, 1) := by decide +kernel
theorem dX2_placeColumn_7 : decode cX2_placeColumn 7 = .ok (.aload_n 1, 1) := by decide +kernel
theorem dX2_placeColumn_8 : decode cX2_placeColumn 8 = .ok (.invokevirtual 185, 3) := by decide +kernel
theorem dX2_placeColumn_11 : decode cX2_placeColumn 11 = .ok (.aload_n 1, 1) := by decide +kernel
theorem dX2_placeColumn_12 : decode cX2_placeColumn 12 = .ok (.iconst 4, 1) := by decide +kernel
theorem dX2_placeColumn_13 : decode cX2_placeColumn 13 = .ok (.invokevirtual 82, 3) := by decide +kernel
theorem dX2_placeColumn_16 : decode cX2_placeColumn 16 = .ok (.invokevirtual 132, 3) := by decide +kernel
theorem dX2_placeColumn_19 : decode cX2_placeColumn 19 = .ok (.aload_n 1, 1) := by decide +kernel
theorem dX2_placeColumn_20 : decode cX2_placeColumn 20 = .ok (.invokevirtual 185, 3) := by decide +kernel
theorem dX2_placeColumn_23 : decode cX2_placeColumn 23 = .ok (.aload_n 1, 1) := by decide +kernel
theorem dX2_placeColumn_24 : decode cX2_placeColumn 24 = .ok (.getfield 94, 3) := by decide +kernel
theorem dX2_placeColumn_27 : decode cX2_placeColumn 27 = .ok (.aload_n 1, 1) := by decide +kernel
theorem dX2_placeColumn_28 : decode cX2_placeColumn 28 = .ok (.iconst 4, 1) := by decide +kernel
theorem dX2_placeColumn_29 : decode cX2_placeColumn 29 = .ok (.invokevirtual 82, 3) := by decide +kernel
theorem dX2_placeColumn_32 : decode cX2_placeColumn 32 = .ok (.invokestatic 97, 3) := by decide +kernel
theorem dX2_placeColumn_35 : decode cX2_placeColumn 35 = .ok (.isub, 1) := by decide +kernel
theorem dX2_placeColumn_36 : decode cX2_placeColumn 36 = .ok (.istore_n 2, 1) := by decide +kernel
theorem dX2_placeColumn_37 : decode cX2_placeColumn 37 = .ok (.aload_n 1, 1) := by decide +kernel
theorem dX2_placeColumn_38 : decode cX2_placeColumn 38 = .ok (.getfield 101, 3) := by decide +kernel
theorem dX2_placeColumn_41 : decode cX2_placeColumn 41 = .ok (.astore_n 3, 1) := by decide +kernel
theorem dX2_placeColumn_42 : decode cX2_placeColumn 42 = .ok (.aload_n 3, 1) := by decide +kernel
theorem dX2_placeColumn_43 : decode cX2_placeColumn 43 = .ok (.ifnull 23, 3) := by decide +kernel
theorem dX2_placeColumn_46 : decode cX2_placeColumn 46 = .ok (.iload_n 2, 1) := by decide +kernel
theorem dX2_placeColumn_47 : decode cX2_placeColumn 47 = .ok (.aload_n 3, 1) := by decide +kernel
theorem dX2_placeColumn_48 : decode cX2_placeColumn 48 = .ok (.getfield 61, 3) := by decide +kernel
theorem dX2_placeColumn_51 : decode cX2_placeColumn 51 = .ok (.aload_n 3, 1) := by decide +kernel
theorem dX2_placeColumn_52 : decode cX2_placeColumn 52 = .ok (.invokevirtual 104, 3) := by decide +kernel
theorem dX2_placeColumn_55 : decode cX2_placeColumn 55 = .ok (.iadd, 1) := by decide +kernel
theorem dX2_placeColumn_56 : decode cX2_placeColumn 56 = .ok (.isub, 1) := by decide +kernel
theorem dX2_placeColumn_57 : decode cX2_placeColumn 57 = .ok (.istore_n 2, 1) := by decide +kernel
theorem dX2_placeColumn_58 : decode cX2_placeColumn 58 = .ok (.aload_n 3, 1) := by decide +kernel
theorem dX2_placeColumn_59 : decode cX2_placeColumn 59 = .ok (.getfield 113, 3) := by decide +kernel
theorem dX2_placeColumn_62 : decode cX2_placeColumn 62 = .ok (.astore_n 3, 1) := by decide +kernel
theorem dX2_placeColumn_63 : decode cX2_placeColumn 63 = .ok (.goto (-21), 3) := by decide +kernel
theorem dX2_placeColumn_66 : decode cX2_placeColumn 66 = .ok (.aload_n 1, 1) := by decide +kernel
theorem dX2_placeColumn_67 : decode cX2_placeColumn 67 = .ok (.getfield 192, 3) := by decide +kernel
theorem dX2_placeColumn_70 : decode cX2_placeColumn 70 = .ok (.aload_n 1, 1) := by decide +kernel
theorem dX2_placeColumn_71 : decode cX2_placeColumn 71 = .ok (.iconst 5, 1) := by decide +kernel
theorem dX2_placeColumn_72 : decode cX2_placeColumn 72 = .ok (.invokevirtual 82, 3) := by decide +kernel
theorem dX2_placeColumn_75 : decode cX2_placeColumn 75 = .ok (.iadd, 1) := by decide +kernel
theorem dX2_placeColumn_76 : decode cX2_placeColumn 76 = .ok (.istore_n 3, 1) := by decide +kernel
theorem dX2_placeColumn_77 : decode cX2_placeColumn 77 = .ok (.aload_n 1, 1) := by decide +kernel
theorem dX2_placeColumn_78 : decode cX2_placeColumn 78 = .ok (.getfield 182, 3) := by decide +kernel
theorem dX2_placeColumn_81 : decode cX2_placeColumn 81 = .ok (.aload_n 1, 1) := by decide +kernel
theorem dX2_placeColumn_82 : decode cX2_placeColumn 82 = .ok (.iconst 5, 1) := by decide +kernel
theorem dX2_placeColumn_83 : decode cX2_placeColumn 83 = .ok (.invokevirtual 82, 3) := by decide +kernel
theorem dX2_placeColumn_86 : decode cX2_placeColumn 86 = .ok (.iadd, 1) := by decide +kernel
theorem dX2_placeColumn_87 : decode cX2_placeColumn 87 = .ok (.istore 4, 2) := by decide +kernel
theorem dX2_placeColumn_89 : decode cX2_placeColumn 89 = .ok (.iconst 0, 1) := by decide +kernel
theorem dX2_placeColumn_90 : decode cX2_placeColumn 90 = .ok (.istore 5, 2) := by decide +kernel
theorem dX2_placeColumn_92 : decode cX2_placeColumn 92 = .ok (.aload_n 1, 1) := by decide +kernel
theorem dX2_placeColumn_93 : decode cX2_placeColumn 93 = .ok (.getfield 101, 3) := by decide +kernel
theorem dX2_placeColumn_96 : decode cX2_placeColumn 96 = .ok (.astore 6, 2) := by decide +kernel
theorem dX2_placeColumn_98 : decode cX2_placeColumn 98 = .ok (.aload 6, 2) := by decide +kernel
theorem dX2_placeColumn_100 : decode cX2_placeColumn 100 = .ok (.ifnull 112, 3) := by decide +kernel
theorem dX2_placeColumn_103 : decode cX2_placeColumn 103 = .ok (.aload_n 1, 1) := by decide +kernel
theorem dX2_placeColumn_104 : decode cX2_placeColumn 104 = .ok (.invokevirtual 129, 3) := by decide +kernel
theorem dX2_placeColumn_107 : decode cX2_placeColumn 107 = .ok (.aload 6, 2) := by decide +kernel
theorem dX2_placeColumn_109 : decode cX2_placeColumn 109 = .ok (.getfield 47, 3) := by decide +kernel
theorem dX2_placeColumn_112 : decode cX2_placeColumn 112 = .ok (.isub, 1) := by decide +kernel
theorem dX2_placeColumn_113 : decode cX2_placeColumn 113 = .ok (.aload 6, 2) := by decide +kernel
theorem dX2_placeColumn_115 : decode cX2_placeColumn 115 = .ok (.invokevirtual 104, 3) := by decide +kernel
theorem dX2_placeColumn_118 : decode cX2_placeColumn 118 = .ok (.isub, 1) := by decide +kernel
theorem dX2_placeColumn_119 : decode cX2_placeColumn 119 = .ok (.istore 7, 2) := by decide +kernel
theorem dX2_placeColumn_121 : decode cX2_placeColumn 121 = .ok (.aload 6, 2) := by decide +kernel
theorem dX2_placeColumn_123 : decode cX2_placeColumn 123 = .ok (.iload_n 3, 1) := by decide +kernel
theorem dX2_placeColumn_124 : decode cX2_placeColumn 124 = .ok (.aload 6, 2) := by decide +kernel
theorem dX2_placeColumn_126 : decode cX2_placeColumn 126 = .ok (.invokevirtual 136, 3) := by decide +kernel
theorem dX2_placeColumn_129 : decode cX2_placeColumn 129 = .ok (.iload 7, 2) := by decide +kernel
theorem dX2_placeColumn_131 : decode cX2_placeColumn 131 = .ok (.invokestatic 195, 3) := by decide +kernel
theorem dX2_placeColumn_134 : decode cX2_placeColumn 134 = .ok (.iadd, 1) := by decide +kernel
theorem dX2_placeColumn_135 : decode cX2_placeColumn 135 = .ok (.aload 6, 2) := by decide +kernel
theorem dX2_placeColumn_137 : decode cX2_placeColumn 137 = .ok (.bipush 6, 2) := by decide +kernel
theorem dX2_placeColumn_139 : decode cX2_placeColumn 139 = .ok (.invokevirtual 82, 3) := by decide +kernel
theorem dX2_placeColumn_142 : decode cX2_placeColumn 142 = .ok (.iadd, 1) := by decide +kernel
theorem dX2_placeColumn_143 : decode cX2_placeColumn 143 = .ok (.putfield 192, 3) := by decide +kernel
theorem dX2_placeColumn_146 : decode cX2_placeColumn 146 = .ok (.aload 6, 2) := by decide +kernel
theorem dX2_placeColumn_148 : decode cX2_placeColumn 148 = .ok (.iload 4, 2) := by decide +kernel
theorem dX2_placeColumn_150 : decode cX2_placeColumn 150 = .ok (.aload_n 1, 1) := by decide +kernel
theorem dX2_placeColumn_151 : decode cX2_placeColumn 151 = .ok (.iconst 2, 1) := by decide +kernel
theorem dX2_placeColumn_152 : decode cX2_placeColumn 152 = .ok (.invokevirtual 82, 3) := by decide +kernel
theorem dX2_placeColumn_155 : decode cX2_placeColumn 155 = .ok (.iload_n 2, 1) := by decide +kernel
theorem dX2_placeColumn_156 : decode cX2_placeColumn 156 = .ok (.iload 5, 2) := by decide +kernel
theorem dX2_placeColumn_158 : decode cX2_placeColumn 158 = .ok (.aload_n 1, 1) := by decide +kernel
theorem dX2_placeColumn_159 : decode cX2_placeColumn 159 = .ok (.getfield 94, 3) := by decide +kernel
theorem dX2_placeColumn_162 : decode cX2_placeColumn 162 = .ok (.invokestatic 198, 3) := by decide +kernel
theorem dX2_placeColumn_165 : decode cX2_placeColumn 165 = .ok (.iadd, 1) := by decide +kernel
theorem dX2_placeColumn_166 : decode cX2_placeColumn 166 = .ok (.aload 6, 2) := by decide +kernel
theorem dX2_placeColumn_168 : decode cX2_placeColumn 168 = .ok (.bipush 6, 2) := by decide +kernel
theorem dX2_placeColumn_170 : decode cX2_placeColumn 170 = .ok (.invokevirtual 82, 3) := by decide +kernel
theorem dX2_placeColumn_173 : decode cX2_placeColumn 173 = .ok (.iadd, 1) := by decide +kernel
theorem dX2_placeColumn_174 : decode cX2_placeColumn 174 = .ok (.putfield 182, 3) := by decide +kernel
theorem dX2_placeColumn_177 : decode cX2_placeColumn 177 = .ok (.iload 4, 2) := by decide +kernel
theorem dX2_placeColumn_179 : decode cX2_placeColumn 179 = .ok (.aload 6, 2) := by decide +kernel
theorem dX2_placeColumn_181 : decode cX2_placeColumn 181 = .ok (.getfield 61, 3) := by decide +kernel
theorem dX2_placeColumn_184 : decode cX2_placeColumn 184 = .ok (.aload 6, 2) := by decide +kernel
theorem dX2_placeColumn_186 : decode cX2_placeColumn 186 = .ok (.invokevirtual 104, 3) := by decide +kernel
theorem dX2_placeColumn_189 : decode cX2_placeColumn 189 = .ok (.iadd, 1) := by decide +kernel
theorem dX2_placeColumn_190 : decode cX2_placeColumn 190 = .ok (.aload_n 1, 1) := by decide +kernel
theorem dX2_placeColumn_191 : decode cX2_placeColumn 191 = .ok (.iconst 4, 1) := by decide +kernel
theorem dX2_placeColumn_192 : decode cX2_placeColumn 192 = .ok (.invokevirtual 82, 3) := by decide +kernel
theorem dX2_placeColumn_195 : decode cX2_placeColumn 195 = .ok (.iadd, 1) := by decide +kernel
theorem dX2_placeColumn_196 : decode cX2_placeColumn 196 = .ok (.iadd, 1) := by decide +kernel
theorem dX2_placeColumn_197 : decode cX2_placeColumn 197 = .ok (.istore 4, 2) := by decide +kernel
theorem dX2_placeColumn_199 : decode cX2_placeColumn 199 = .ok (.iinc 5 1, 3) := by decide +kernel
theorem dX2_placeColumn_202 : decode cX2_placeColumn 202 = .ok (.aload 6, 2) := by decide +kernel
theorem dX2_placeColumn_204 : decode cX2_placeColumn 204 = .ok (.getfield 113, 3) := by decide +kernel
theorem dX2_placeColumn_207 : decode cX2_placeColumn 207 = .ok (.astore 6, 2) := by decide +kernel
theorem dX2_placeColumn_209 : decode cX2_placeColumn 209 = .ok (.goto (-111), 3) := by decide +kernel
theorem dX2_placeColumn_212 : decode cX2_placeColumn 212 = .ok (.return_, 1) := by decide +kernel
theorem dX2_placeLine_0 : decode cX2_placeLine 0 = .ok (.iconst 0, 1) := by decide +kernel
theorem dX2_placeLine_1 : decode cX2_placeLine 1 = .ok (.istore 5, 2) := by decide +kernel
theorem dX2_placeLine_3 : decode cX2_placeLine 3 = .ok (.aload_n 0, 1) := by decide +kernel
theorem dX2_placeLine_4 : decode cX2_placeLine 4 = .ok (.invokevirtual 129, 3) := by decide +kernel
theorem dX2_placeLine_7 : decode cX2_placeLine 7 = .ok (.istore 6, 2) := by decide +kernel
theorem dX2_placeLine_9 : decode cX2_placeLine 9 = .ok (.aload_n 1, 1) := by decide +kernel
theorem dX2_placeLine_10 : decode cX2_placeLine 10 = .ok (.astore 7, 2) := by decide +kernel
theorem dX2_placeLine_12 : decode cX2_placeLine 12 = .ok (.aload 7, 2) := by decide +kernel
theorem dX2_placeLine_14 : decode cX2_placeLine 14 = .ok (.ifnull 38, 3) := by decide +kernel
theorem dX2_placeLine_17 : decode cX2_placeLine 17 = .ok (.aload 7, 2) := by decide +kernel
theorem dX2_placeLine_19 : decode cX2_placeLine 19 = .ok (.aload_n 2, 1) := by decide +kernel
theorem dX2_placeLine_20 : decode cX2_placeLine 20 = .ok (.if_acmp .eq 32, 3) := by decide +kernel
theorem dX2_placeLine_23 : decode cX2_placeLine 23 = .ok (.iinc 5 1, 3) := by decide +kernel
theorem dX2_placeLine_26 : decode cX2_placeLine 26 = .ok (.iload 6, 2) := by decide +kernel
theorem dX2_placeLine_28 : decode cX2_placeLine 28 = .ok (.aload 7, 2) := by decide +kernel
theorem dX2_placeLine_30 : decode cX2_placeLine 30 = .ok (.getfield 47, 3) := by decide +kernel
theorem dX2_placeLine_33 : decode cX2_placeLine 33 = .ok (.aload 7, 2) := by decide +kernel
theorem dX2_placeLine_35 : decode cX2_placeLine 35 = .ok (.invokevirtual 104, 3) := by decide +kernel
theorem dX2_placeLine_38 : decode cX2_placeLine 38 = .ok (.iadd, 1) := by decide +kernel
theorem dX2_placeLine_39 : decode cX2_placeLine 39 = .ok (.isub, 1) := by decide +kernel
theorem dX2_placeLine_40 : decode cX2_placeLine 40 = .ok (.istore 6, 2) := by decide +kernel
theorem dX2_placeLine_42 : decode cX2_placeLine 42 = .ok (.aload 7, 2) := by decide +kernel
theorem dX2_placeLine_44 : decode cX2_placeLine 44 = .ok (.getfield 113, 3) := by decide +kernel
theorem dX2_placeLine_47 : decode cX2_placeLine 47 = .ok (.astore 7, 2) := by decide +kernel
theorem dX2_placeLine_49 : decode cX2_placeLine 49 = .ok (.goto (-37), 3) := by decide +kernel
theorem dX2_placeLine_52 : decode cX2_placeLine 52 = .ok (.iload 6, 2) := by decide +kernel
theorem dX2_placeLine_54 : decode cX2_placeLine 54 = .ok (.iload 5, 2) := by decide +kernel
theorem dX2_placeLine_56 : decode cX2_placeLine 56 = .ok (.aload_n 0, 1) := by decide +kernel
theorem dX2_placeLine_57 : decode cX2_placeLine 57 = .ok (.iconst 4, 1) := by decide +kernel
theorem dX2_placeLine_58 : decode cX2_placeLine 58 = .ok (.invokevirtual 82, 3) := by decide +kernel
theorem dX2_placeLine_61 : decode cX2_placeLine 61 = .ok (.invokestatic 97, 3) := by decide +kernel
theorem dX2_placeLine_64 : decode cX2_placeLine 64 = .ok (.isub, 1) := by decide +kernel
theorem dX2_placeLine_65 : decode cX2_placeLine 65 = .ok (.istore 6, 2) := by decide +kernel
theorem dX2_placeLine_67 : decode cX2_placeLine 67 = .ok (.aload_n 0, 1) := by decide +kernel
theorem dX2_placeLine_68 : decode cX2_placeLine 68 = .ok (.getfield 192, 3) := by decide +kernel
theorem dX2_placeLine_71 : decode cX2_placeLine 71 = .ok (.aload_n 0, 1) := by decide +kernel
theorem dX2_placeLine_72 : decode cX2_placeLine 72 = .ok (.iconst 5, 1) := by decide +kernel
theorem dX2_placeLine_73 : decode cX2_placeLine 73 = .ok (.invokevirtual 82, 3) := by decide +kernel
theorem dX2_placeLine_76 : decode cX2_placeLine 76 = .ok (.iadd, 1) := by decide +kernel
theorem dX2_placeLine_77 : decode cX2_placeLine 77 = .ok (.istore 7, 2) := by decide +kernel
theorem dX2_placeLine_79 : decode cX2_placeLine 79 = .ok (.iconst 0, 1) := by decide +kernel
theorem dX2_placeLine_80 : decode cX2_placeLine 80 = .ok (.istore 8, 2) := by decide +kernel
theorem dX2_placeLine_82 : decode cX2_placeLine 82 = .ok (.aload_n 1, 1) := by decide +kernel
theorem dX2_placeLine_83 : decode cX2_placeLine 83 = .ok (.astore 9, 2) := by decide +kernel
theorem dX2_placeLine_85 : decode cX2_placeLine 85 = .ok (.aload 9, 2) := by decide +kernel
theorem dX2_placeLine_87 : decode cX2_placeLine 87 = .ok (.ifnull 127, 3) := by decide +kernel
theorem dX2_placeLine_90 : decode cX2_placeLine 90 = .ok (.aload 9, 2) := by decide +kernel
theorem dX2_placeLine_92 : decode cX2_placeLine 92 = .ok (.aload_n 2, 1) := by decide +kernel
theorem dX2_placeLine_93 : decode cX2_placeLine 93 = .ok (.if_acmp .eq 121, 3) := by decide +kernel
theorem dX2_placeLine_96 : decode cX2_placeLine 96 = .ok (.aload 9, 2) := by decide +kernel
theorem dX2_placeLine_98 : decode cX2_placeLine 98 = .ok (.aload 9, 2) := by decide +kernel
theorem dX2_placeLine_100 : decode cX2_placeLine 100 = .ok (.iload 4, 2) := by decide +kernel
theorem dX2_placeLine_102 : decode cX2_placeLine 102 = .ok (.invokestatic 202, 3) := by decide +kernel
theorem dX2_placeLine_105 : decode cX2_placeLine 105 = .ok (.putfield 61, 3) := by decide +kernel
theorem dX2_placeLine_108 : decode cX2_placeLine 108 = .ok (.iload 4, 2) := by decide +kernel
theorem dX2_placeLine_110 : decode cX2_placeLine 110 = .ok (.aload 9, 2) := by decide +kernel
theorem dX2_placeLine_112 : decode cX2_placeLine 112 = .ok (.getfield 61, 3) := by decide +kernel
theorem dX2_placeLine_115 : decode cX2_placeLine 115 = .ok (.isub, 1) := by decide +kernel
theorem dX2_placeLine_116 : decode cX2_placeLine 116 = .ok (.aload 9, 2) := by decide +kernel
theorem dX2_placeLine_118 : decode cX2_placeLine 118 = .ok (.invokevirtual 104, 3) := by decide +kernel
theorem dX2_placeLine_121 : decode cX2_placeLine 121 = .ok (.isub, 1) := by decide +kernel
theorem dX2_placeLine_122 : decode cX2_placeLine 122 = .ok (.istore 10, 2) := by decide +kernel
theorem dX2_placeLine_124 : decode cX2_placeLine 124 = .ok (.aload 9, 2) := by decide +kernel
theorem dX2_placeLine_126 : decode cX2_placeLine 126 = .ok (.iload 7, 2) := by decide +kernel
theorem dX2_placeLine_128 : decode cX2_placeLine 128 = .ok (.aload_n 0, 1) := by decide +kernel
theorem dX2_placeLine_129 : decode cX2_placeLine 129 = .ok (.iconst 2, 1) := by decide +kernel
theorem dX2_placeLine_130 : decode cX2_placeLine 130 = .ok (.invokevirtual 82, 3) := by decide +kernel
theorem dX2_placeLine_133 : decode cX2_placeLine 133 = .ok (.iload 6, 2) := by decide +kernel
theorem dX2_placeLine_135 : decode cX2_placeLine 135 = .ok (.iload 8, 2) := by decide +kernel
theorem dX2_placeLine_137 : decode cX2_placeLine 137 = .ok (.iload 5, 2) := by decide +kernel
theorem dX2_placeLine_139 : decode cX2_placeLine 139 = .ok (.invokestatic 198, 3) := by decide +kernel
theorem dX2_placeLine_142 : decode cX2_placeLine 142 = .ok (.iadd, 1) := by decide +kernel
theorem dX2_placeLine_143 : decode cX2_placeLine 143 = .ok (.aload 9, 2) := by decide +kernel
theorem dX2_placeLine_145 : decode cX2_placeLine 145 = .ok (.bipush 6, 2) := by decide +kernel
theorem dX2_placeLine_147 : decode cX2_placeLine 147 = .ok (.invokevirtual 82, 3) := by decide +kernel
theorem dX2_placeLine_150 : decode cX2_placeLine 150 = .ok (.iadd, 1) := by decide +kernel
theorem dX2_placeLine_151 : decode cX2_placeLine 151 = .ok (.putfield 192, 3) := by decide +kernel
theorem dX2_placeLine_154 : decode cX2_placeLine 154 = .ok (.aload 9, 2) := by decide +kernel
theorem dX2_placeLine_156 : decode cX2_placeLine 156 = .ok (.iload_n 3, 1) := by decide +kernel
theorem dX2_placeLine_157 : decode cX2_placeLine 157 = .ok (.aload 9, 2) := by decide +kernel
theorem dX2_placeLine_159 : decode cX2_placeLine 159 = .ok (.invokevirtual 136, 3) := by decide +kernel
theorem dX2_placeLine_162 : decode cX2_placeLine 162 = .ok (.iload 10, 2) := by decide +kernel
theorem dX2_placeLine_164 : decode cX2_placeLine 164 = .ok (.invokestatic 195, 3) := by decide +kernel
theorem dX2_placeLine_167 : decode cX2_placeLine 167 = .ok (.iadd, 1) := by decide +kernel
theorem dX2_placeLine_168 : decode cX2_placeLine 168 = .ok (.aload 9, 2) := by decide +kernel
theorem dX2_placeLine_170 : decode cX2_placeLine 170 = .ok (.bipush 6, 2) := by decide +kernel
theorem dX2_placeLine_172 : decode cX2_placeLine 172 = .ok (.invokevirtual 82, 3) := by decide +kernel
theorem dX2_placeLine_175 : decode cX2_placeLine 175 = .ok (.iadd, 1) := by decide +kernel
theorem dX2_placeLine_176 : decode cX2_placeLine 176 = .ok (.putfield 182, 3) := by decide +kernel
theorem dX2_placeLine_179 : decode cX2_placeLine 179 = .ok (.iload 7, 2) := by decide +kernel
theorem dX2_placeLine_181 : decode cX2_placeLine 181 = .ok (.aload 9, 2) := by decide +kernel
theorem dX2_placeLine_183 : decode cX2_placeLine 183 = .ok (.getfield 47, 3) := by decide +kernel
theorem dX2_placeLine_186 : decode cX2_placeLine 186 = .ok (.aload 9, 2) := by decide +kernel
theorem dX2_placeLine_188 : decode cX2_placeLine 188 = .ok (.invokevirtual 104, 3) := by decide +kernel
theorem dX2_placeLine_191 : decode cX2_placeLine 191 = .ok (.iadd, 1) := by decide +kernel
theorem dX2_placeLine_192 : decode cX2_placeLine 192 = .ok (.aload_n 0, 1) := by decide +kernel
theorem dX2_placeLine_193 : decode cX2_placeLine 193 = .ok (.iconst 4, 1) := by decide +kernel
theorem dX2_placeLine_194 : decode cX2_placeLine 194 = .ok (.invokevirtual 82, 3) := by decide +kernel
theorem dX2_placeLine_197 : decode cX2_placeLine 197 = .ok (.iadd, 1) := by decide +kernel
theorem dX2_placeLine_198 : decode cX2_placeLine 198 = .ok (.iadd, 1) := by decide +kernel
theorem dX2_placeLine_199 : decode cX2_placeLine 199 = .ok (.istore 7, 2) := by decide +kernel
theorem dX2_placeLine_201 : decode cX2_placeLine 201 = .ok (.iinc 8 1, 3) := by decide +kernel
theorem dX2_placeLine_204 : decode cX2_placeLine 204 = .ok (.aload 9, 2) := by decide +kernel
theorem dX2_placeLine_206 : decode cX2_placeLine 206 = .ok (.getfield 113, 3) := by decide +kernel
theorem dX2_placeLine_209 : decode cX2_placeLine 209 = .ok (.astore 9, 2) := by decide +kernel
theorem dX2_placeLine_211 : decode cX2_placeLine 211 = .ok (.goto (-126), 3) := by decide +kernel
theorem dX2_placeLine_214 : decode cX2_placeLine 214 = .ok (.return_, 1) := by decide +kernel
theorem dX2_heightInLine_0 : decode cX2_heightInLine 0 = .ok (.aload_n 0, 1) := by decide +kernel
theorem dX2_heightInLine_1 : decode cX2_heightInLine 1 = .ok (.bipush 11, 2) := by decide +kernel
theorem dX2_heightInLine_3 : decode cX2_heightInLine 3 = .ok (.invokevirtual 82, 3) := by decide +kernel
theorem dX2_heightInLine_6 : decode cX2_heightInLine 6 = .ok (.istore_n 2, 1) := by decide +kernel
theorem dX2_heightInLine_7 : decode cX2_heightInLine 7 = .ok (.iload_n 2, 1) := by decide +kernel
theorem dX2_heightInLine_8 : decode cX2_heightInLine 8 = .ok (.iconst (-1), 1) := by decide +kernel
theorem dX2_heightInLine_9 : decode cX2_heightInLine 9 = .ok (.if_icmp .ne 29, 3) := by decide +kernel
theorem dX2_heightInLine_12 : decode cX2_heightInLine 12 = .ok (.aload_n 0, 1) := by decide +kernel
theorem dX2_heightInLine_13 : decode cX2_heightInLine 13 = .ok (.invokevirtual 136, 3) := by decide +kernel
theorem dX2_heightInLine_16 : decode cX2_heightInLine 16 = .ok (.iconst 3, 1) := by decide +kernel
theorem dX2_heightInLine_17 : decode cX2_heightInLine 17 = .ok (.if_icmp .ne 16, 3) := by decide +kernel
theorem dX2_heightInLine_20 : decode cX2_heightInLine 20 = .ok (.iload_n 1, 1) := by decide +kernel
theorem dX2_heightInLine_21 : decode cX2_heightInLine 21 = .ok (.aload_n 0, 1) := by decide +kernel
theorem dX2_heightInLine_22 : decode cX2_heightInLine 22 = .ok (.invokevirtual 104, 3) := by decide +kernel
theorem dX2_heightInLine_25 : decode cX2_heightInLine 25 = .ok (.isub, 1) := by decide +kernel
theorem dX2_heightInLine_26 : decode cX2_heightInLine 26 = .ok (.iconst 0, 1) := by decide +kernel
theorem dX2_heightInLine_27 : decode cX2_heightInLine 27 = .ok (.invokestatic 108, 3) := by decide +kernel
theorem dX2_heightInLine_30 : decode cX2_heightInLine 30 = .ok (.goto 7, 3) := by decide +kernel
theorem dX2_heightInLine_33 : decode cX2_heightInLine 33 = .ok (.aload_n 0, 1) := by decide +kernel
theorem dX2_heightInLine_34 : decode cX2_heightInLine 34 = .ok (.getfield 175, 3) := by decide +kernel
theorem dX2_heightInLine_37 : decode cX2_heightInLine 37 = .ok (.istore_n 2, 1) := by decide +kernel
theorem dX2_heightInLine_38 : decode cX2_heightInLine 38 = .ok (.aload_n 0, 1) := by decide +kernel
theorem dX2_heightInLine_39 : decode cX2_heightInLine 39 = .ok (.iload_n 2, 1) := by decide +kernel
theorem dX2_heightInLine_40 : decode cX2_heightInLine 40 = .ok (.invokevirtual 172, 3) := by decide +kernel
theorem dX2_heightInLine_43 : decode cX2_heightInLine 43 = .ok (.ireturn, 1) := by decide +kernel
theorem dX2_justifyShift_0 : decode cX2_justifyShift 0 = .ok (.iload_n 1, 1) := by decide +kernel
theorem dX2_justifyShift_1 : decode cX2_justifyShift 1 = .ok (.ifCond .le 8, 3) := by decide +kernel
theorem dX2_justifyShift_4 : decode cX2_justifyShift 4 = .ok (.iload_n 3, 1) := by decide +kernel
theorem dX2_justifyShift_5 : decode cX2_justifyShift 5 = .ok (.iconst 1, 1) := by decide +kernel
theorem dX2_justifyShift_6 : decode cX2_justifyShift 6 = .ok (.if_icmp .ge 5, 3) := by decide +kernel
theorem dX2_justifyShift_9 : decode cX2_justifyShift 9 = .ok (.iconst 0, 1) := by decide +kernel
theorem dX2_justifyShift_10 : decode cX2_justifyShift 10 = .ok (.ireturn, 1) := by decide +kernel
theorem dX2_justifyShift_11 : decode cX2_justifyShift 11 = .ok (.iload_n 0, 1) := by decide +kernel
theorem dX2_justifyShift_12 : decode cX2_justifyShift 12 = .ok (.tableswitch 65 1 4 #[32, 34, 38, 55], 32) := by decide +kernel
theorem dX2_justifyShift_44 : decode cX2_justifyShift 44 = .ok (.iload_n 1, 1) := by decide +kernel
theorem dX2_justifyShift_45 : decode cX2_justifyShift 45 = .ok (.ireturn, 1) := by decide +kernel
theorem dX2_justifyShift_46 : decode cX2_justifyShift 46 = .ok (.iload_n 1, 1) := by decide +kernel
theorem dX2_justifyShift_47 : decode cX2_justifyShift 47 = .ok (.iconst 2, 1) := by decide +kernel
theorem dX2_justifyShift_48 : decode cX2_justifyShift 48 = .ok (.idiv, 1) := by decide +kernel
theorem dX2_justifyShift_49 : decode cX2_justifyShift 49 = .ok (.ireturn, 1) := by decide +kernel
theorem dX2_justifyShift_50 : decode cX2_justifyShift 50 = .ok (.iload_n 3, 1) := by decide +kernel
theorem dX2_justifyShift_51 : decode cX2_justifyShift 51 = .ok (.iconst 1, 1) := by decide +kernel
theorem dX2_justifyShift_52 : decode cX2_justifyShift 52 = .ok (.if_icmp .le 13, 3) := by decide +kernel
theorem dX2_justifyShift_55 : decode cX2_justifyShift 55 = .ok (.iload_n 1, 1) := by decide +kernel
theorem dX2_justifyShift_56 : decode cX2_justifyShift 56 = .ok (.iload_n 2, 1) := by decide +kernel
theorem dX2_justifyShift_57 : decode cX2_justifyShift 57 = .ok (.imul, 1) := by decide +kernel
theorem dX2_justifyShift_58 : decode cX2_justifyShift 58 = .ok (.iload_n 3, 1) := by decide +kernel
theorem dX2_justifyShift_59 : decode cX2_justifyShift 59 = .ok (.iconst 1, 1) := by decide +kernel
theorem dX2_justifyShift_60 : decode cX2_justifyShift 60 = .ok (.isub, 1) := by decide +kernel
theorem dX2_justifyShift_61 : decode cX2_justifyShift 61 = .ok (.idiv, 1) := by decide +kernel
theorem dX2_justifyShift_62 : decode cX2_justifyShift 62 = .ok (.goto 4, 3) := by decide +kernel
theorem dX2_justifyShift_65 : decode cX2_justifyShift 65 = .ok (.iconst 0, 1) := by decide +kernel
theorem dX2_justifyShift_66 : decode cX2_justifyShift 66 = .ok (.ireturn, 1) := by decide +kernel
theorem dX2_justifyShift_67 : decode cX2_justifyShift 67 = .ok (.iload_n 1, 1) := by decide +kernel
theorem dX2_justifyShift_68 : decode cX2_justifyShift 68 = .ok (.iload_n 2, 1) := by decide +kernel
theorem dX2_justifyShift_69 : decode cX2_justifyShift 69 = .ok (.iconst 1, 1) := by decide +kernel
theorem dX2_justifyShift_70 : decode cX2_justifyShift 70 = .ok (.iadd, 1) := by decide +kernel
theorem dX2_justifyShift_71 : decode cX2_justifyShift 71 = .ok (.imul, 1) := by decide +kernel
theorem dX2_justifyShift_72 : decode cX2_justifyShift 72 = .ok (.iload_n 3, 1) := by decide +kernel
theorem dX2_justifyShift_73 : decode cX2_justifyShift 73 = .ok (.iconst 1, 1) := by decide +kernel
theorem dX2_justifyShift_74 : decode cX2_justifyShift 74 = .ok (.iadd, 1) := by decide +kernel
theorem dX2_justifyShift_75 : decode cX2_justifyShift 75 = .ok (.idiv, 1) := by decide +kernel
theorem dX2_justifyShift_76 : decode cX2_justifyShift 76 = .ok (.ireturn, 1) := by decide +kernel
theorem dX2_justifyShift_77 : decode cX2_justifyShift 77 = .ok (.iconst 0, 1) := by decide +kernel
theorem dX2_justifyShift_78 : decode cX2_justifyShift 78 = .ok (.ireturn, 1) := by decide +kernel
theorem dX2_alignShift_0 : decode cX2_alignShift 0 = .ok (.iload_n 1, 1) := by decide +kernel
theorem dX2_alignShift_1 : decode cX2_alignShift 1 = .ok (.ifCond .gt 5, 3) := by decide +kernel
theorem dX2_alignShift_4 : decode cX2_alignShift 4 = .ok (.iconst 0, 1) := by decide +kernel
theorem dX2_alignShift_5 : decode cX2_alignShift 5 = .ok (.ireturn, 1) := by decide +kernel
theorem dX2_alignShift_6 : decode cX2_alignShift 6 = .ok (.iload_n 0, 1) := by decide +kernel
theorem dX2_alignShift_7 : decode cX2_alignShift 7 = .ok (.lookupswitch 31 #[(1, 25), (2, 27)], 25) := by decide +kernel
theorem dX2_alignShift_32 : decode cX2_alignShift 32 = .ok (.iload_n 1, 1) := by decide +kernel
theorem dX2_alignShift_33 : decode cX2_alignShift 33 = .ok (.ireturn, 1) := by decide +kernel
theorem dX2_alignShift_34 : decode cX2_alignShift 34 = .ok (.iload_n 1, 1) := by decide +kernel
theorem dX2_alignShift_35 : decode cX2_alignShift 35 = .ok (.iconst 2, 1) := by decide +kernel
theorem dX2_alignShift_36 : decode cX2_alignShift 36 = .ok (.idiv, 1) := by decide +kernel
theorem dX2_alignShift_37 : decode cX2_alignShift 37 = .ok (.ireturn, 1) := by decide +kernel
theorem dX2_alignShift_38 : decode cX2_alignShift 38 = .ok (.iconst 0, 1) := by decide +kernel
theorem dX2_alignShift_39 : decode cX2_alignShift 39 = .ok (.ireturn, 1) := by decide +kernel
theorem dX2_kidsOverflow_0 : decode cX2_kidsOverflow 0 = .ok (.iconst 0, 1) := by decide +kernel
theorem dX2_kidsOverflow_1 : decode cX2_kidsOverflow 1 = .ok (.istore_n 1, 1) := by decide +kernel
theorem dX2_kidsOverflow_2 : decode cX2_kidsOverflow 2 = .ok (.iconst 0, 1) := by decide +kernel
theorem dX2_kidsOverflow_3 : decode cX2_kidsOverflow 3 = .ok (.istore_n 2, 1) := by decide +kernel
theorem dX2_kidsOverflow_4 : decode cX2_kidsOverflow 4 = .ok (.aload_n 0, 1) := by decide +kernel
theorem dX2_kidsOverflow_5 : decode cX2_kidsOverflow 5 = .ok (.getfield 101, 3) := by decide +kernel
theorem dX2_kidsOverflow_8 : decode cX2_kidsOverflow 8 = .ok (.astore_n 3, 1) := by decide +kernel
theorem dX2_kidsOverflow_9 : decode cX2_kidsOverflow 9 = .ok (.aload_n 3, 1) := by decide +kernel
theorem dX2_kidsOverflow_10 : decode cX2_kidsOverflow 10 = .ok (.ifnull 83, 3) := by decide +kernel
theorem dX2_kidsOverflow_13 : decode cX2_kidsOverflow 13 = .ok (.aload_n 3, 1) := by decide +kernel
theorem dX2_kidsOverflow_14 : decode cX2_kidsOverflow 14 = .ok (.getfield 192, 3) := by decide +kernel
theorem dX2_kidsOverflow_17 : decode cX2_kidsOverflow 17 = .ok (.aload_n 3, 1) := by decide +kernel
theorem dX2_kidsOverflow_18 : decode cX2_kidsOverflow 18 = .ok (.getfield 47, 3) := by decide +kernel
theorem dX2_kidsOverflow_21 : decode cX2_kidsOverflow 21 = .ok (.iadd, 1) := by decide +kernel
theorem dX2_kidsOverflow_22 : decode cX2_kidsOverflow 22 = .ok (.aload_n 3, 1) := by decide +kernel
theorem dX2_kidsOverflow_23 : decode cX2_kidsOverflow 23 = .ok (.bipush 6, 2) := by decide +kernel
theorem dX2_kidsOverflow_25 : decode cX2_kidsOverflow 25 = .ok (.invokevirtual 82, 3) := by decide +kernel
theorem dX2_kidsOverflow_28 : decode cX2_kidsOverflow 28 = .ok (.iadd, 1) := by decide +kernel
theorem dX2_kidsOverflow_29 : decode cX2_kidsOverflow 29 = .ok (.aload_n 0, 1) := by decide +kernel
theorem dX2_kidsOverflow_30 : decode cX2_kidsOverflow 30 = .ok (.getfield 192, 3) := by decide +kernel
theorem dX2_kidsOverflow_33 : decode cX2_kidsOverflow 33 = .ok (.aload_n 0, 1) := by decide +kernel
theorem dX2_kidsOverflow_34 : decode cX2_kidsOverflow 34 = .ok (.getfield 47, 3) := by decide +kernel
theorem dX2_kidsOverflow_37 : decode cX2_kidsOverflow 37 = .ok (.iadd, 1) := by decide +kernel
theorem dX2_kidsOverflow_38 : decode cX2_kidsOverflow 38 = .ok (.aload_n 0, 1) := by decide +kernel
theorem dX2_kidsOverflow_39 : decode cX2_kidsOverflow 39 = .ok (.iconst 5, 1) := by decide +kernel
theorem dX2_kidsOverflow_40 : decode cX2_kidsOverflow 40 = .ok (.invokevirtual 82, 3) := by decide +kernel
theorem dX2_kidsOverflow_43 : decode cX2_kidsOverflow 43 = .ok (.isub, 1) := by decide +kernel
theorem dX2_kidsOverflow_44 : decode cX2_kidsOverflow 44 = .ok (.if_icmp .le 5, 3) := by decide +kernel
theorem dX2_kidsOverflow_47 : decode cX2_kidsOverflow 47 = .ok (.iconst 1, 1) := by decide +kernel
theorem dX2_kidsOverflow_48 : decode cX2_kidsOverflow 48 = .ok (.istore_n 1, 1) := by decide +kernel
theorem dX2_kidsOverflow_49 : decode cX2_kidsOverflow 49 = .ok (.aload_n 3, 1) := by decide +kernel
theorem dX2_kidsOverflow_50 : decode cX2_kidsOverflow 50 = .ok (.getfield 182, 3) := by decide +kernel
theorem dX2_kidsOverflow_53 : decode cX2_kidsOverflow 53 = .ok (.aload_n 3, 1) := by decide +kernel
theorem dX2_kidsOverflow_54 : decode cX2_kidsOverflow 54 = .ok (.getfield 61, 3) := by decide +kernel
theorem dX2_kidsOverflow_57 : decode cX2_kidsOverflow 57 = .ok (.iadd, 1) := by decide +kernel
theorem dX2_kidsOverflow_58 : decode cX2_kidsOverflow 58 = .ok (.aload_n 3, 1) := by decide +kernel
theorem dX2_kidsOverflow_59 : decode cX2_kidsOverflow 59 = .ok (.bipush 6, 2) := by decide +kernel
theorem dX2_kidsOverflow_61 : decode cX2_kidsOverflow 61 = .ok (.invokevirtual 82, 3) := by decide +kernel
theorem dX2_kidsOverflow_64 : decode cX2_kidsOverflow 64 = .ok (.iadd, 1) := by decide +kernel
theorem dX2_kidsOverflow_65 : decode cX2_kidsOverflow 65 = .ok (.aload_n 0, 1) := by decide +kernel
theorem dX2_kidsOverflow_66 : decode cX2_kidsOverflow 66 = .ok (.getfield 182, 3) := by decide +kernel
theorem dX2_kidsOverflow_69 : decode cX2_kidsOverflow 69 = .ok (.aload_n 0, 1) := by decide +kernel
theorem dX2_kidsOverflow_70 : decode cX2_kidsOverflow 70 = .ok (.getfield 61, 3) := by decide +kernel
theorem dX2_kidsOverflow_73 : decode cX2_kidsOverflow 73 = .ok (.iadd, 1) := by decide +kernel
theorem dX2_kidsOverflow_74 : decode cX2_kidsOverflow 74 = .ok (.aload_n 0, 1) := by decide +kernel
theorem dX2_kidsOverflow_75 : decode cX2_kidsOverflow 75 = .ok (.iconst 5, 1) := by decide +kernel
theorem dX2_kidsOverflow_76 : decode cX2_kidsOverflow 76 = .ok (.invokevirtual 82, 3) := by decide +kernel
theorem dX2_kidsOverflow_79 : decode cX2_kidsOverflow 79 = .ok (.isub, 1) := by decide +kernel
theorem dX2_kidsOverflow_80 : decode cX2_kidsOverflow 80 = .ok (.if_icmp .le 5, 3) := by decide +kernel
theorem dX2_kidsOverflow_83 : decode cX2_kidsOverflow 83 = .ok (.iconst 2, 1) := by decide +kernel
theorem dX2_kidsOverflow_84 : decode cX2_kidsOverflow 84 = .ok (.istore_n 2, 1) := by decide +kernel
theorem dX2_kidsOverflow_85 : decode cX2_kidsOverflow 85 = .ok (.aload_n 3, 1) := by decide +kernel
theorem dX2_kidsOverflow_86 : decode cX2_kidsOverflow 86 = .ok (.getfield 113, 3) := by decide +kernel
theorem dX2_kidsOverflow_89 : decode cX2_kidsOverflow 89 = .ok (.astore_n 3, 1) := by decide +kernel
theorem dX2_kidsOverflow_90 : decode cX2_kidsOverflow 90 = .ok (.goto (-81), 3) := by decide +kernel
theorem dX2_kidsOverflow_93 : decode cX2_kidsOverflow 93 = .ok (.iload_n 1, 1) := by decide +kernel
theorem dX2_kidsOverflow_94 : decode cX2_kidsOverflow 94 = .ok (.iload_n 2, 1) := by decide +kernel
theorem dX2_kidsOverflow_95 : decode cX2_kidsOverflow 95 = .ok (.iadd, 1) := by decide +kernel
theorem dX2_kidsOverflow_96 : decode cX2_kidsOverflow 96 = .ok (.ireturn, 1) := by decide +kernel
theorem dX2_textOverflow_0 : decode cX2_textOverflow 0 = .ok (.aload_n 0, 1) := by decide +kernel
theorem dX2_textOverflow_1 : decode cX2_textOverflow 1 = .ok (.bipush 19, 2) := by decide +kernel
theorem dX2_textOverflow_3 : decode cX2_textOverflow 3 = .ok (.invokevirtual 82, 3) := by decide +kernel
theorem dX2_textOverflow_6 : decode cX2_textOverflow 6 = .ok (.ifCond .le 16, 3) := by decide +kernel
theorem dX2_textOverflow_9 : decode cX2_textOverflow 9 = .ok (.aload_n 0, 1) := by decide +kernel
theorem dX2_textOverflow_10 : decode cX2_textOverflow 10 = .ok (.invokevirtual 129, 3) := by decide +kernel
theorem dX2_textOverflow_13 : decode cX2_textOverflow 13 = .ok (.bipush 8, 2) := by decide +kernel
theorem dX2_textOverflow_15 : decode cX2_textOverflow 15 = .ok (.if_icmp .ge 7, 3) := by decide +kernel
theorem dX2_textOverflow_18 : decode cX2_textOverflow 18 = .ok (.iconst 1, 1) := by decide +kernel
theorem dX2_textOverflow_19 : decode cX2_textOverflow 19 = .ok (.goto 4, 3) := by decide +kernel
theorem dX2_textOverflow_22 : decode cX2_textOverflow 22 = .ok (.iconst 0, 1) := by decide +kernel
theorem dX2_textOverflow_23 : decode cX2_textOverflow 23 = .ok (.istore_n 1, 1) := by decide +kernel
theorem dX2_textOverflow_24 : decode cX2_textOverflow 24 = .ok (.bipush 16, 2) := by decide +kernel
theorem dX2_textOverflow_26 : decode cX2_textOverflow 26 = .ok (.aload_n 0, 1) := by decide +kernel
theorem dX2_textOverflow_27 : decode cX2_textOverflow 27 = .ok (.getfield 122, 3) := by decide +kernel
theorem dX2_textOverflow_30 : decode cX2_textOverflow 30 = .ok (.imul, 1) := by decide +kernel
theorem dX2_textOverflow_31 : decode cX2_textOverflow 31 = .ok (.aload_n 0, 1) := by decide +kernel
theorem dX2_textOverflow_32 : decode cX2_textOverflow 32 = .ok (.invokevirtual 185, 3) := by decide +kernel
theorem dX2_textOverflow_35 : decode cX2_textOverflow 35 = .ok (.if_icmp .le 7, 3) := by decide +kernel
theorem dX2_textOverflow_38 : decode cX2_textOverflow 38 = .ok (.iconst 1, 1) := by decide +kernel
theorem dX2_textOverflow_39 : decode cX2_textOverflow 39 = .ok (.goto 4, 3) := by decide +kernel
theorem dX2_textOverflow_42 : decode cX2_textOverflow 42 = .ok (.iconst 0, 1) := by decide +kernel
theorem dX2_textOverflow_43 : decode cX2_textOverflow 43 = .ok (.istore_n 2, 1) := by decide +kernel
theorem dX2_textOverflow_44 : decode cX2_textOverflow 44 = .ok (.iload_n 1, 1) := by decide +kernel
theorem dX2_textOverflow_45 : decode cX2_textOverflow 45 = .ok (.ifCond .eq 7, 3) := by decide +kernel
theorem dX2_textOverflow_48 : decode cX2_textOverflow 48 = .ok (.iconst 1, 1) := by decide +kernel
theorem dX2_textOverflow_49 : decode cX2_textOverflow 49 = .ok (.goto 4, 3) := by decide +kernel
theorem dX2_textOverflow_52 : decode cX2_textOverflow 52 = .ok (.iconst 0, 1) := by decide +kernel
theorem dX2_textOverflow_53 : decode cX2_textOverflow 53 = .ok (.iload_n 2, 1) := by decide +kernel
theorem dX2_textOverflow_54 : decode cX2_textOverflow 54 = .ok (.ifCond .eq 7, 3) := by decide +kernel
theorem dX2_textOverflow_57 : decode cX2_textOverflow 57 = .ok (.iconst 2, 1) := by decide +kernel
theorem dX2_textOverflow_58 : decode cX2_textOverflow 58 = .ok (.goto 4, 3) := by decide +kernel
theorem dX2_textOverflow_61 : decode cX2_textOverflow 61 = .ok (.iconst 0, 1) := by decide +kernel
theorem dX2_textOverflow_62 : decode cX2_textOverflow 62 = .ok (.iadd, 1) := by decide +kernel
theorem dX2_textOverflow_63 : decode cX2_textOverflow 63 = .ok (.ireturn, 1) := by decide +kernel
theorem dX2_topmostAt_0 : decode cX2_topmostAt 0 = .ok (.iconst (-1), 1) := by decide +kernel
theorem dX2_topmostAt_1 : decode cX2_topmostAt 1 = .ok (.istore_n 3, 1) := by decide +kernel
theorem dX2_topmostAt_2 : decode cX2_topmostAt 2 = .ok (.aload_n 0, 1) := by decide +kernel
theorem dX2_topmostAt_3 : decode cX2_topmostAt 3 = .ok (.getfield 22, 3) := by decide +kernel
theorem dX2_topmostAt_6 : decode cX2_topmostAt 6 = .ok (.getfield 39, 3) := by decide +kernel
theorem dX2_topmostAt_9 : decode cX2_topmostAt 9 = .ok (.astore 4, 2) := by decide +kernel
theorem dX2_topmostAt_11 : decode cX2_topmostAt 11 = .ok (.iconst 0, 1) := by decide +kernel
theorem dX2_topmostAt_12 : decode cX2_topmostAt 12 = .ok (.istore 5, 2) := by decide +kernel
theorem dX2_topmostAt_14 : decode cX2_topmostAt 14 = .ok (.iload 5, 2) := by decide +kernel
theorem dX2_topmostAt_16 : decode cX2_topmostAt 16 = .ok (.bipush 40, 2) := by decide +kernel
theorem dX2_topmostAt_18 : decode cX2_topmostAt 18 = .ok (.if_icmp .ge 37, 3) := by decide +kernel
theorem dX2_topmostAt_21 : decode cX2_topmostAt 21 = .ok (.aload 4, 2) := by decide +kernel
theorem dX2_topmostAt_23 : decode cX2_topmostAt 23 = .ok (.ifnull 32, 3) := by decide +kernel
theorem dX2_topmostAt_26 : decode cX2_topmostAt 26 = .ok (.aload 4, 2) := by decide +kernel
theorem dX2_topmostAt_28 : decode cX2_topmostAt 28 = .ok (.iload_n 1, 1) := by decide +kernel
theorem dX2_topmostAt_29 : decode cX2_topmostAt 29 = .ok (.iload_n 2, 1) := by decide +kernel
theorem dX2_topmostAt_30 : decode cX2_topmostAt 30 = .ok (.invokevirtual 206, 3) := by decide +kernel
theorem dX2_topmostAt_33 : decode cX2_topmostAt 33 = .ok (.ifCond .eq 9, 3) := by decide +kernel
theorem dX2_topmostAt_36 : decode cX2_topmostAt 36 = .ok (.aload 4, 2) := by decide +kernel
theorem dX2_topmostAt_38 : decode cX2_topmostAt 38 = .ok (.getfield 210, 3) := by decide +kernel
theorem dX2_topmostAt_41 : decode cX2_topmostAt 41 = .ok (.istore_n 3, 1) := by decide +kernel
theorem dX2_topmostAt_42 : decode cX2_topmostAt 42 = .ok (.aload 4, 2) := by decide +kernel
theorem dX2_topmostAt_44 : decode cX2_topmostAt 44 = .ok (.invokestatic 213, 3) := by decide +kernel
theorem dX2_topmostAt_47 : decode cX2_topmostAt 47 = .ok (.astore 4, 2) := by decide +kernel
theorem dX2_topmostAt_49 : decode cX2_topmostAt 49 = .ok (.iinc 5 1, 3) := by decide +kernel
theorem dX2_topmostAt_52 : decode cX2_topmostAt 52 = .ok (.goto (-38), 3) := by decide +kernel
theorem dX2_topmostAt_55 : decode cX2_topmostAt 55 = .ok (.iload_n 3, 1) := by decide +kernel
theorem dX2_topmostAt_56 : decode cX2_topmostAt 56 = .ok (.ireturn, 1) := by decide +kernel
theorem dX2_paintedAfter_0 : decode cX2_paintedAfter 0 = .ok (.aload_n 0, 1) := by decide +kernel
theorem dX2_paintedAfter_1 : decode cX2_paintedAfter 1 = .ok (.getfield 101, 3) := by decide +kernel
theorem dX2_paintedAfter_4 : decode cX2_paintedAfter 4 = .ok (.ifnull 8, 3) := by decide +kernel
theorem dX2_paintedAfter_7 : decode cX2_paintedAfter 7 = .ok (.aload_n 0, 1) := by decide +kernel
theorem dX2_paintedAfter_8 : decode cX2_paintedAfter 8 = .ok (.getfield 101, 3) := by decide +kernel
theorem dX2_paintedAfter_11 : decode cX2_paintedAfter 11 = .ok (.areturn, 1) := by decide +kernel
theorem dX2_paintedAfter_12 : decode cX2_paintedAfter 12 = .ok (.aload_n 0, 1) := by decide +kernel
theorem dX2_paintedAfter_13 : decode cX2_paintedAfter 13 = .ok (.astore_n 1, 1) := by decide +kernel
theorem dX2_paintedAfter_14 : decode cX2_paintedAfter 14 = .ok (.aload_n 1, 1) := by decide +kernel
theorem dX2_paintedAfter_15 : decode cX2_paintedAfter 15 = .ok (.ifnull 18, 3) := by decide +kernel
theorem dX2_paintedAfter_18 : decode cX2_paintedAfter 18 = .ok (.aload_n 1, 1) := by decide +kernel
theorem dX2_paintedAfter_19 : decode cX2_paintedAfter 19 = .ok (.getfield 113, 3) := by decide +kernel
theorem dX2_paintedAfter_22 : decode cX2_paintedAfter 22 = .ok (.ifnonnull 11, 3) := by decide +kernel
theorem dX2_paintedAfter_25 : decode cX2_paintedAfter 25 = .ok (.aload_n 1, 1) := by decide +kernel
theorem dX2_paintedAfter_26 : decode cX2_paintedAfter 26 = .ok (.getfield 216, 3) := by decide +kernel
theorem dX2_paintedAfter_29 : decode cX2_paintedAfter 29 = .ok (.astore_n 1, 1) := by decide +kernel
theorem dX2_paintedAfter_30 : decode cX2_paintedAfter 30 = .ok (.goto (-16), 3) := by decide +kernel
theorem dX2_paintedAfter_33 : decode cX2_paintedAfter 33 = .ok (.aload_n 1, 1) := by decide +kernel
theorem dX2_paintedAfter_34 : decode cX2_paintedAfter 34 = .ok (.ifnonnull 7, 3) := by decide +kernel
theorem dX2_paintedAfter_37 : decode cX2_paintedAfter 37 = .ok (.aconst_null, 1) := by decide +kernel
theorem dX2_paintedAfter_38 : decode cX2_paintedAfter 38 = .ok (.goto 7, 3) := by decide +kernel
theorem dX2_paintedAfter_41 : decode cX2_paintedAfter 41 = .ok (.aload_n 1, 1) := by decide +kernel
theorem dX2_paintedAfter_42 : decode cX2_paintedAfter 42 = .ok (.getfield 113, 3) := by decide +kernel
theorem dX2_paintedAfter_45 : decode cX2_paintedAfter 45 = .ok (.areturn, 1) := by decide +kernel
theorem dX2_narrowestFor_0 : decode cX2_narrowestFor 0 = .ok (.aload_n 1, 1) := by decide +kernel
theorem dX2_narrowestFor_1 : decode cX2_narrowestFor 1 = .ok (.invokestatic 219, 3) := by decide +kernel
theorem dX2_narrowestFor_4 : decode cX2_narrowestFor 4 = .ok (.ifCond .ne 17, 3) := by decide +kernel
theorem dX2_narrowestFor_7 : decode cX2_narrowestFor 7 = .ok (.aload_n 1, 1) := by decide +kernel
theorem dX2_narrowestFor_8 : decode cX2_narrowestFor 8 = .ok (.getfield 122, 3) := by decide +kernel
theorem dX2_narrowestFor_11 : decode cX2_narrowestFor 11 = .ok (.iload_n 2, 1) := by decide +kernel
theorem dX2_narrowestFor_12 : decode cX2_narrowestFor 12 = .ok (.if_icmp .gt 7, 3) := by decide +kernel
theorem dX2_narrowestFor_15 : decode cX2_narrowestFor 15 = .ok (.iconst 0, 1) := by decide +kernel
theorem dX2_narrowestFor_16 : decode cX2_narrowestFor 16 = .ok (.goto 4, 3) := by decide +kernel
theorem dX2_narrowestFor_19 : decode cX2_narrowestFor 19 = .ok (.iconst (-1), 1) := by decide +kernel
theorem dX2_narrowestFor_20 : decode cX2_narrowestFor 20 = .ok (.ireturn, 1) := by decide +kernel
theorem dX2_narrowestFor_21 : decode cX2_narrowestFor 21 = .ok (.iload_n 2, 1) := by decide +kernel
theorem dX2_narrowestFor_22 : decode cX2_narrowestFor 22 = .ok (.iconst 1, 1) := by decide +kernel
theorem dX2_narrowestFor_23 : decode cX2_narrowestFor 23 = .ok (.if_icmp .ge 5, 3) := by decide +kernel
theorem dX2_narrowestFor_26 : decode cX2_narrowestFor 26 = .ok (.iconst (-1), 1) := by decide +kernel
theorem dX2_narrowestFor_27 : decode cX2_narrowestFor 27 = .ok (.ireturn, 1) := by decide +kernel
theorem dX2_narrowestFor_28 : decode cX2_narrowestFor 28 = .ok (.aload_n 1, 1) := by decide +kernel
theorem dX2_narrowestFor_29 : decode cX2_narrowestFor 29 = .ok (.astore_n 3, 1) := by decide +kernel
theorem dX2_narrowestFor_30 : decode cX2_narrowestFor 30 = .ok (.aload_n 3, 1) := by decide +kernel
theorem dX2_narrowestFor_31 : decode cX2_narrowestFor 31 = .ok (.ifnull 26, 3) := by decide +kernel
theorem dX2_narrowestFor_34 : decode cX2_narrowestFor 34 = .ok (.aload_n 3, 1) := by decide +kernel
theorem dX2_narrowestFor_35 : decode cX2_narrowestFor 35 = .ok (.getfield 216, 3) := by decide +kernel
theorem dX2_narrowestFor_38 : decode cX2_narrowestFor 38 = .ok (.ifnull 19, 3) := by decide +kernel
theorem dX2_narrowestFor_41 : decode cX2_narrowestFor 41 = .ok (.aload_n 3, 1) := by decide +kernel
theorem dX2_narrowestFor_42 : decode cX2_narrowestFor 42 = .ok (.getfield 216, 3) := by decide +kernel
theorem dX2_narrowestFor_45 : decode cX2_narrowestFor 45 = .ok (.aload_n 3, 1) := by decide +kernel
theorem dX2_narrowestFor_46 : decode cX2_narrowestFor 46 = .ok (.putfield 223, 3) := by decide +kernel
theorem dX2_narrowestFor_49 : decode cX2_narrowestFor 49 = .ok (.aload_n 3, 1) := by decide +kernel
theorem dX2_narrowestFor_50 : decode cX2_narrowestFor 50 = .ok (.getfield 216, 3) := by decide +kernel
theorem dX2_narrowestFor_53 : decode cX2_narrowestFor 53 = .ok (.astore_n 3, 1) := by decide +kernel
theorem dX2_narrowestFor_54 : decode cX2_narrowestFor 54 = .ok (.goto (-24), 3) := by decide +kernel
theorem dX2_narrowestFor_57 : decode cX2_narrowestFor 57 = .ok (.iconst 0, 1) := by decide +kernel
theorem dX2_narrowestFor_58 : decode cX2_narrowestFor 58 = .ok (.istore_n 3, 1) := by decide +kernel
theorem dX2_narrowestFor_59 : decode cX2_narrowestFor 59 = .ok (.iload_n 3, 1) := by decide +kernel
theorem dX2_narrowestFor_60 : decode cX2_narrowestFor 60 = .ok (.sipush 2000, 3) := by decide +kernel
theorem dX2_narrowestFor_63 : decode cX2_narrowestFor 63 = .ok (.if_icmp .gt 21, 3) := by decide +kernel
theorem dX2_narrowestFor_66 : decode cX2_narrowestFor 66 = .ok (.aload_n 0, 1) := by decide +kernel
theorem dX2_narrowestFor_67 : decode cX2_narrowestFor 67 = .ok (.aload_n 1, 1) := by decide +kernel
theorem dX2_narrowestFor_68 : decode cX2_narrowestFor 68 = .ok (.iload_n 3, 1) := by decide +kernel
theorem dX2_narrowestFor_69 : decode cX2_narrowestFor 69 = .ok (.invokevirtual 226, 3) := by decide +kernel
theorem dX2_narrowestFor_72 : decode cX2_narrowestFor 72 = .ok (.iload_n 2, 1) := by decide +kernel
theorem dX2_narrowestFor_73 : decode cX2_narrowestFor 73 = .ok (.if_icmp .gt 5, 3) := by decide +kernel
theorem dX2_narrowestFor_76 : decode cX2_narrowestFor 76 = .ok (.iload_n 3, 1) := by decide +kernel
theorem dX2_narrowestFor_77 : decode cX2_narrowestFor 77 = .ok (.ireturn, 1) := by decide +kernel
theorem dX2_narrowestFor_78 : decode cX2_narrowestFor 78 = .ok (.iinc 3 1, 3) := by decide +kernel
theorem dX2_narrowestFor_81 : decode cX2_narrowestFor 81 = .ok (.goto (-22), 3) := by decide +kernel
theorem dX2_narrowestFor_84 : decode cX2_narrowestFor 84 = .ok (.iconst (-1), 1) := by decide +kernel
theorem dX2_narrowestFor_85 : decode cX2_narrowestFor 85 = .ok (.ireturn, 1) := by decide +kernel
theorem dX2_linesVary_0 : decode cX2_linesVary 0 = .ok (.aload_n 0, 1) := by decide +kernel
theorem dX2_linesVary_1 : decode cX2_linesVary 1 = .ok (.getfield 91, 3) := by decide +kernel
theorem dX2_linesVary_4 : decode cX2_linesVary 4 = .ok (.ifCond .ne 18, 3) := by decide +kernel
theorem dX2_linesVary_7 : decode cX2_linesVary 7 = .ok (.aload_n 0, 1) := by decide +kernel
theorem dX2_linesVary_8 : decode cX2_linesVary 8 = .ok (.bipush 19, 2) := by decide +kernel
theorem dX2_linesVary_10 : decode cX2_linesVary 10 = .ok (.invokevirtual 82, 3) := by decide +kernel
theorem dX2_linesVary_13 : decode cX2_linesVary 13 = .ok (.ifCond .le 7, 3) := by decide +kernel
theorem dX2_linesVary_16 : decode cX2_linesVary 16 = .ok (.iconst 1, 1) := by decide +kernel
theorem dX2_linesVary_17 : decode cX2_linesVary 17 = .ok (.goto 4, 3) := by decide +kernel
theorem dX2_linesVary_20 : decode cX2_linesVary 20 = .ok (.iconst 0, 1) := by decide +kernel
theorem dX2_linesVary_21 : decode cX2_linesVary 21 = .ok (.ireturn, 1) := by decide +kernel
theorem dX2_linesVary_22 : decode cX2_linesVary 22 = .ok (.aload_n 0, 1) := by decide +kernel
theorem dX2_linesVary_23 : decode cX2_linesVary 23 = .ok (.invokevirtual 64, 3) := by decide +kernel
theorem dX2_linesVary_26 : decode cX2_linesVary 26 = .ok (.ifCond .ne 22, 3) := by decide +kernel
theorem dX2_linesVary_29 : decode cX2_linesVary 29 = .ok (.aload_n 0, 1) := by decide +kernel
theorem dX2_linesVary_30 : decode cX2_linesVary 30 = .ok (.invokevirtual 149, 3) := by decide +kernel
theorem dX2_linesVary_33 : decode cX2_linesVary 33 = .ok (.ifCond .eq 15, 3) := by decide +kernel
theorem dX2_linesVary_36 : decode cX2_linesVary 36 = .ok (.aload_n 0, 1) := by decide +kernel
theorem dX2_linesVary_37 : decode cX2_linesVary 37 = .ok (.getfield 94, 3) := by decide +kernel
theorem dX2_linesVary_40 : decode cX2_linesVary 40 = .ok (.iconst 1, 1) := by decide +kernel
theorem dX2_linesVary_41 : decode cX2_linesVary 41 = .ok (.if_icmp .le 7, 3) := by decide +kernel
theorem dX2_linesVary_44 : decode cX2_linesVary 44 = .ok (.iconst 1, 1) := by decide +kernel
theorem dX2_linesVary_45 : decode cX2_linesVary 45 = .ok (.goto 4, 3) := by decide +kernel
theorem dX2_linesVary_48 : decode cX2_linesVary 48 = .ok (.iconst 0, 1) := by decide +kernel
theorem dX2_linesVary_49 : decode cX2_linesVary 49 = .ok (.ireturn, 1) := by decide +kernel
theorem dX2_linesAt_0 : decode cX2_linesAt 0 = .ok (.aload_n 0, 1) := by decide +kernel
theorem dX2_linesAt_1 : decode cX2_linesAt 1 = .ok (.getfield 22, 3) := by decide +kernel
theorem dX2_linesAt_4 : decode cX2_linesAt 4 = .ok (.getfield 39, 3) := by decide +kernel
theorem dX2_linesAt_7 : decode cX2_linesAt 7 = .ok (.iload_n 2, 1) := by decide +kernel
theorem dX2_linesAt_8 : decode cX2_linesAt 8 = .ok (.putfield 47, 3) := by decide +kernel
theorem dX2_linesAt_11 : decode cX2_linesAt 11 = .ok (.aload_n 0, 1) := by decide +kernel
theorem dX2_linesAt_12 : decode cX2_linesAt 12 = .ok (.getfield 22, 3) := by decide +kernel
theorem dX2_linesAt_15 : decode cX2_linesAt 15 = .ok (.getfield 39, 3) := by decide +kernel
theorem dX2_linesAt_18 : decode cX2_linesAt 18 = .ok (.astore_n 3, 1) := by decide +kernel
theorem dX2_linesAt_19 : decode cX2_linesAt 19 = .ok (.aload_n 3, 1) := by decide +kernel
theorem dX2_linesAt_20 : decode cX2_linesAt 20 = .ok (.ifnull 21, 3) := by decide +kernel
theorem dX2_linesAt_23 : decode cX2_linesAt 23 = .ok (.aload_n 3, 1) := by decide +kernel
theorem dX2_linesAt_24 : decode cX2_linesAt 24 = .ok (.aload_n 1, 1) := by decide +kernel
theorem dX2_linesAt_25 : decode cX2_linesAt 25 = .ok (.if_acmp .eq 16, 3) := by decide +kernel
theorem dX2_linesAt_28 : decode cX2_linesAt 28 = .ok (.aload_n 0, 1) := by decide +kernel
theorem dX2_linesAt_29 : decode cX2_linesAt 29 = .ok (.aload_n 3, 1) := by decide +kernel
theorem dX2_linesAt_30 : decode cX2_linesAt 30 = .ok (.invokevirtual 52, 3) := by decide +kernel
theorem dX2_linesAt_33 : decode cX2_linesAt 33 = .ok (.aload_n 3, 1) := by decide +kernel
theorem dX2_linesAt_34 : decode cX2_linesAt 34 = .ok (.getfield 223, 3) := by decide +kernel
theorem dX2_linesAt_37 : decode cX2_linesAt 37 = .ok (.astore_n 3, 1) := by decide +kernel
theorem dX2_linesAt_38 : decode cX2_linesAt 38 = .ok (.goto (-19), 3) := by decide +kernel
theorem dX2_linesAt_41 : decode cX2_linesAt 41 = .ok (.aload_n 1, 1) := by decide +kernel
theorem dX2_linesAt_42 : decode cX2_linesAt 42 = .ok (.getfield 91, 3) := by decide +kernel
theorem dX2_linesAt_45 : decode cX2_linesAt 45 = .ok (.ifCond .ne 8, 3) := by decide +kernel
theorem dX2_linesAt_48 : decode cX2_linesAt 48 = .ok (.aload_n 1, 1) := by decide +kernel
theorem dX2_linesAt_49 : decode cX2_linesAt 49 = .ok (.invokevirtual 166, 3) := by decide +kernel
theorem dX2_linesAt_52 : decode cX2_linesAt 52 = .ok (.ireturn, 1) := by decide +kernel
theorem dX2_linesAt_53 : decode cX2_linesAt 53 = .ok (.aload_n 1, 1) := by decide +kernel
theorem dX2_linesAt_54 : decode cX2_linesAt 54 = .ok (.invokestatic 119, 3) := by decide +kernel
theorem dX2_linesAt_57 : decode cX2_linesAt 57 = .ok (.aload_n 1, 1) := by decide +kernel
theorem dX2_linesAt_58 : decode cX2_linesAt 58 = .ok (.getfield 122, 3) := by decide +kernel
theorem dX2_linesAt_61 : decode cX2_linesAt 61 = .ok (.ireturn, 1) := by decide +kernel
theorem dX3_init_0 : decode cX3_init 0 = .ok (.aload_n 0, 1) := by decide +kernel
theorem dX3_init_1 : decode cX3_init 1 = .ok (.invokespecial 3, 3) := by decide +kernel
theorem dX3_init_4 : decode cX3_init 4 = .ok (.aload_n 0, 1) := by decide +kernel
theorem dX3_init_5 : decode cX3_init 5 = .ok (.bipush 40, 2) := by decide +kernel
theorem dX3_init_7 : decode cX3_init 7 = .ok (.newarray .boolean, 2) := by decide +kernel
theorem dX3_init_9 : decode cX3_init 9 = .ok (.putfield 9, 3) := by decide +kernel
theorem dX3_init_12 : decode cX3_init 12 = .ok (.aload_n 0, 1) := by decide +kernel
theorem dX3_init_13 : decode cX3_init 13 = .ok (.bipush 40, 2) := by decide +kernel
theorem dX3_init_15 : decode cX3_init 15 = .ok (.newarray .int, 2) := by decide +kernel
theorem dX3_init_17 : decode cX3_init 17 = .ok (.putfield 15, 3) := by decide +kernel
theorem dX3_init_20 : decode cX3_init 20 = .ok (.aload_n 0, 1) := by decide +kernel
theorem dX3_init_21 : decode cX3_init 21 = .ok (.bipush 40, 2) := by decide +kernel
theorem dX3_init_23 : decode cX3_init 23 = .ok (.bipush 20, 2) := by decide +kernel
theorem dX3_init_25 : decode cX3_init 25 = .ok (.multianewarray 19 2, 4) := by decide +kernel
theorem dX3_init_29 : decode cX3_init 29 = .ok (.putfield 21, 3) := by decide +kernel
theorem dX3_init_32 : decode cX3_init 32 = .ok (.return_, 1) := by decide +kernel
theorem dX4_init_0 : decode cX4_init 0 = .ok (.aload_n 0, 1) := by decide +kernel
theorem dX4_init_1 : decode cX4_init 1 = .ok (.invokespecial 3, 3) := by decide +kernel
theorem dX4_init_4 : decode cX4_init 4 = .ok (.aload_n 0, 1) := by decide +kernel
theorem dX4_init_5 : decode cX4_init 5 = .ok (.bipush 40, 2) := by decide +kernel
theorem dX4_init_7 : decode cX4_init 7 = .ok (.anewarray 9, 3) := by decide +kernel
theorem dX4_init_10 : decode cX4_init 10 = .ok (.putfield 11, 3) := by decide +kernel
theorem dX4_init_13 : decode cX4_init 13 = .ok (.aload_n 0, 1) := by decide +kernel
theorem dX4_init_14 : decode cX4_init 14 = .ok (.new 9, 3) := by decide +kernel
theorem dX4_init_17 : decode cX4_init 17 = .ok (.dup, 1) := by decide +kernel
theorem dX4_init_18 : decode cX4_init 18 = .ok (.iconst 0, 1) := by decide +kernel
theorem dX4_init_19 : decode cX4_init 19 = .ok (.invokespecial 17, 3) := by decide +kernel
theorem dX4_init_22 : decode cX4_init 22 = .ok (.putfield 20, 3) := by decide +kernel
theorem dX4_init_25 : decode cX4_init 25 = .ok (.aload_n 0, 1) := by decide +kernel
theorem dX4_init_26 : decode cX4_init 26 = .ok (.iconst 1, 1) := by decide +kernel
theorem dX4_init_27 : decode cX4_init 27 = .ok (.putfield 24, 3) := by decide +kernel
theorem dX4_init_30 : decode cX4_init 30 = .ok (.aload_n 0, 1) := by decide +kernel
theorem dX4_init_31 : decode cX4_init 31 = .ok (.sipush 800, 3) := by decide +kernel
theorem dX4_init_34 : decode cX4_init 34 = .ok (.putfield 28, 3) := by decide +kernel
theorem dX4_init_37 : decode cX4_init 37 = .ok (.aload_n 0, 1) := by decide +kernel
theorem dX4_init_38 : decode cX4_init 38 = .ok (.sipush 600, 3) := by decide +kernel
theorem dX4_init_41 : decode cX4_init 41 = .ok (.putfield 31, 3) := by decide +kernel
theorem dX4_init_44 : decode cX4_init 44 = .ok (.aload_n 0, 1) := by decide +kernel
theorem dX4_init_45 : decode cX4_init 45 = .ok (.getfield 11, 3) := by decide +kernel
theorem dX4_init_48 : decode cX4_init 48 = .ok (.iconst 0, 1) := by decide +kernel
theorem dX4_init_49 : decode cX4_init 49 = .ok (.aload_n 0, 1) := by decide +kernel
theorem dX4_init_50 : decode cX4_init 50 = .ok (.getfield 20, 3) := by decide +kernel
theorem dX4_init_53 : decode cX4_init 53 = .ok (.aastore, 1) := by decide +kernel
theorem dX4_init_54 : decode cX4_init 54 = .ok (.iconst 1, 1) := by decide +kernel
theorem dX4_init_55 : decode cX4_init 55 = .ok (.istore_n 1, 1) := by decide +kernel
theorem dX4_init_56 : decode cX4_init 56 = .ok (.iload_n 1, 1) := by decide +kernel
theorem dX4_init_57 : decode cX4_init 57 = .ok (.bipush 40, 2) := by decide +kernel
theorem dX4_init_59 : decode cX4_init 59 = .ok (.if_icmp .ge 23, 3) := by decide +kernel
theorem dX4_init_62 : decode cX4_init 62 = .ok (.aload_n 0, 1) := by decide +kernel
theorem dX4_init_63 : decode cX4_init 63 = .ok (.getfield 11, 3) := by decide +kernel
theorem dX4_init_66 : decode cX4_init 66 = .ok (.iload_n 1, 1) := by decide +kernel
theorem dX4_init_67 : decode cX4_init 67 = .ok (.new 9, 3) := by decide +kernel
theorem dX4_init_70 : decode cX4_init 70 = .ok (.dup, 1) := by decide +kernel
theorem dX4_init_71 : decode cX4_init 71 = .ok (.iload_n 1, 1) := by decide +kernel
theorem dX4_init_72 : decode cX4_init 72 = .ok (.invokespecial 17, 3) := by decide +kernel
theorem dX4_init_75 : decode cX4_init 75 = .ok (.aastore, 1) := by decide +kernel
theorem dX4_init_76 : decode cX4_init 76 = .ok (.iinc 1 1, 3) := by decide +kernel
theorem dX4_init_79 : decode cX4_init 79 = .ok (.goto (-23), 3) := by decide +kernel
theorem dX4_init_82 : decode cX4_init 82 = .ok (.aload_n 0, 1) := by decide +kernel
theorem dX4_init_83 : decode cX4_init 83 = .ok (.getfield 20, 3) := by decide +kernel
theorem dX4_init_86 : decode cX4_init 86 = .ok (.aconst_null, 1) := by decide +kernel
theorem dX4_init_87 : decode cX4_init 87 = .ok (.invokevirtual 34, 3) := by decide +kernel
theorem dX4_init_90 : decode cX4_init 90 = .ok (.return_, 1) := by decide +kernel
theorem dX4_at_0 : decode cX4_at 0 = .ok (.iload_n 1, 1) := by decide +kernel
theorem dX4_at_1 : decode cX4_at 1 = .ok (.ifCond .lt 18, 3) := by decide +kernel
theorem dX4_at_4 : decode cX4_at 4 = .ok (.iload_n 1, 1) := by decide +kernel
theorem dX4_at_5 : decode cX4_at 5 = .ok (.bipush 40, 2) := by decide +kernel
theorem dX4_at_7 : decode cX4_at 7 = .ok (.if_icmp .ge 12, 3) := by decide +kernel
theorem dX4_at_10 : decode cX4_at 10 = .ok (.aload_n 0, 1) := by decide +kernel
theorem dX4_at_11 : decode cX4_at 11 = .ok (.getfield 11, 3) := by decide +kernel
theorem dX4_at_14 : decode cX4_at 14 = .ok (.iload_n 1, 1) := by decide +kernel
theorem dX4_at_15 : decode cX4_at 15 = .ok (.aaload, 1) := by decide +kernel
theorem dX4_at_16 : decode cX4_at 16 = .ok (.goto 4, 3) := by decide +kernel
theorem dX4_at_19 : decode cX4_at 19 = .ok (.aconst_null, 1) := by decide +kernel
theorem dX4_at_20 : decode cX4_at 20 = .ok (.areturn, 1) := by decide +kernel
theorem dX4_shownAt_0 : decode cX4_shownAt 0 = .ok (.aload_n 0, 1) := by decide +kernel
theorem dX4_shownAt_1 : decode cX4_shownAt 1 = .ok (.iload_n 1, 1) := by decide +kernel
theorem dX4_shownAt_2 : decode cX4_shownAt 2 = .ok (.invokevirtual 38, 3) := by decide +kernel
theorem dX4_shownAt_5 : decode cX4_shownAt 5 = .ok (.astore_n 2, 1) := by decide +kernel
theorem dX4_shownAt_6 : decode cX4_shownAt 6 = .ok (.aload_n 2, 1) := by decide +kernel
theorem dX4_shownAt_7 : decode cX4_shownAt 7 = .ok (.ifnull 21, 3) := by decide +kernel
theorem dX4_shownAt_10 : decode cX4_shownAt 10 = .ok (.aload_n 2, 1) := by decide +kernel
theorem dX4_shownAt_11 : decode cX4_shownAt 11 = .ok (.getfield 42, 3) := by decide +kernel
theorem dX4_shownAt_14 : decode cX4_shownAt 14 = .ok (.ifCond .eq 14, 3) := by decide +kernel
theorem dX4_shownAt_17 : decode cX4_shownAt 17 = .ok (.aload_n 2, 1) := by decide +kernel
theorem dX4_shownAt_18 : decode cX4_shownAt 18 = .ok (.getfield 46, 3) := by decide +kernel
theorem dX4_shownAt_21 : decode cX4_shownAt 21 = .ok (.ifCond .eq 7, 3) := by decide +kernel
theorem dX4_shownAt_24 : decode cX4_shownAt 24 = .ok (.aload_n 2, 1) := by decide +kernel
theorem dX4_shownAt_25 : decode cX4_shownAt 25 = .ok (.goto 4, 3) := by decide +kernel
theorem dX4_shownAt_28 : decode cX4_shownAt 28 = .ok (.aconst_null, 1) := by decide +kernel
theorem dX4_shownAt_29 : decode cX4_shownAt 29 = .ok (.areturn, 1) := by decide +kernel
theorem dX4_isFull_0 : decode cX4_isFull 0 = .ok (.aload_n 0, 1) := by decide +kernel
theorem dX4_isFull_1 : decode cX4_isFull 1 = .ok (.getfield 24, 3) := by decide +kernel
theorem dX4_isFull_4 : decode cX4_isFull 4 = .ok (.bipush 40, 2) := by decide +kernel
theorem dX4_isFull_6 : decode cX4_isFull 6 = .ok (.if_icmp .lt 7, 3) := by decide +kernel
theorem dX4_isFull_9 : decode cX4_isFull 9 = .ok (.iconst 1, 1) := by decide +kernel
theorem dX4_isFull_10 : decode cX4_isFull 10 = .ok (.goto 4, 3) := by decide +kernel
theorem dX4_isFull_13 : decode cX4_isFull 13 = .ok (.iconst 0, 1) := by decide +kernel
theorem dX4_isFull_14 : decode cX4_isFull 14 = .ok (.ireturn, 1) := by decide +kernel
theorem dX4_append_0 : decode cX4_append 0 = .ok (.aload_n 0, 1) := by decide +kernel
theorem dX4_append_1 : decode cX4_append 1 = .ok (.aload_n 0, 1) := by decide +kernel
theorem dX4_append_2 : decode cX4_append 2 = .ok (.getfield 24, 3) := by decide +kernel
theorem dX4_append_5 : decode cX4_append 5 = .ok (.invokevirtual 38, 3) := by decide +kernel
theorem dX4_append_8 : decode cX4_append 8 = .ok (.astore_n 2, 1) := by decide +kernel
theorem dX4_append_9 : decode cX4_append 9 = .ok (.aload_n 2, 1) := by decide +kernel
theorem dX4_append_10 : decode cX4_append 10 = .ok (.ifnonnull 5, 3) := by decide +kernel
theorem dX4_append_13 : decode cX4_append 13 = .ok (.iconst (-1), 1) := by decide +kernel
theorem dX4_append_14 : decode cX4_append 14 = .ok (.ireturn, 1) := by decide +kernel
theorem dX4_append_15 : decode cX4_append 15 = .ok (.aload_n 2, 1) := by decide +kernel
theorem dX4_append_16 : decode cX4_append 16 = .ok (.aload_n 1, 1) := by decide +kernel
theorem dX4_append_17 : decode cX4_append 17 = .ok (.invokevirtual 34, 3) := by decide +kernel
theorem dX4_append_20 : decode cX4_append 20 = .ok (.aload_n 0, 1) := by decide +kernel
theorem dX4_append_21 : decode cX4_append 21 = .ok (.dup, 1) := by decide +kernel
theorem dX4_append_22 : decode cX4_append 22 = .ok (.getfield 24, 3) := by decide +kernel
theorem dX4_append_25 : decode cX4_append 25 = .ok (.iconst 1, 1) := by decide +kernel
theorem dX4_append_26 : decode cX4_append 26 = .ok (.iadd, 1) := by decide +kernel
theorem dX4_append_27 : decode cX4_append 27 = .ok (.putfield 24, 3) := by decide +kernel
theorem dX4_append_30 : decode cX4_append 30 = .ok (.aload_n 2, 1) := by decide +kernel
theorem dX4_append_31 : decode cX4_append 31 = .ok (.getfield 49, 3) := by decide +kernel
theorem dX4_append_34 : decode cX4_append 34 = .ok (.ireturn, 1) := by decide +kernel
theorem dX4_cut_0 : decode cX4_cut 0 = .ok (.aload_n 1, 1) := by decide +kernel
theorem dX4_cut_1 : decode cX4_cut 1 = .ok (.iconst 0, 1) := by decide +kernel
theorem dX4_cut_2 : decode cX4_cut 2 = .ok (.putfield 42, 3) := by decide +kernel
theorem dX4_cut_5 : decode cX4_cut 5 = .ok (.iconst 1, 1) := by decide +kernel
theorem dX4_cut_6 : decode cX4_cut 6 = .ok (.istore_n 2, 1) := by decide +kernel
theorem dX4_cut_7 : decode cX4_cut 7 = .ok (.aload_n 1, 1) := by decide +kernel
theorem dX4_cut_8 : decode cX4_cut 8 = .ok (.getfield 49, 3) := by decide +kernel
theorem dX4_cut_11 : decode cX4_cut 11 = .ok (.iconst 1, 1) := by decide +kernel
theorem dX4_cut_12 : decode cX4_cut 12 = .ok (.iadd, 1) := by decide +kernel
theorem dX4_cut_13 : decode cX4_cut 13 = .ok (.istore_n 3, 1) := by decide +kernel
theorem dX4_cut_14 : decode cX4_cut 14 = .ok (.iload_n 3, 1) := by decide +kernel
theorem dX4_cut_15 : decode cX4_cut 15 = .ok (.bipush 40, 2) := by decide +kernel
theorem dX4_cut_17 : decode cX4_cut 17 = .ok (.if_icmp .ge 57, 3) := by decide +kernel
theorem dX4_cut_20 : decode cX4_cut 20 = .ok (.aload_n 0, 1) := by decide +kernel
theorem dX4_cut_21 : decode cX4_cut 21 = .ok (.iload_n 3, 1) := by decide +kernel
theorem dX4_cut_22 : decode cX4_cut 22 = .ok (.invokevirtual 38, 3) := by decide +kernel
theorem dX4_cut_25 : decode cX4_cut 25 = .ok (.astore 4, 2) := by decide +kernel
theorem dX4_cut_27 : decode cX4_cut 27 = .ok (.aload 4, 2) := by decide +kernel
theorem dX4_cut_29 : decode cX4_cut 29 = .ok (.ifnull 39, 3) := by decide +kernel
theorem dX4_cut_32 : decode cX4_cut 32 = .ok (.aload 4, 2) := by decide +kernel
theorem dX4_cut_34 : decode cX4_cut 34 = .ok (.getfield 42, 3) := by decide +kernel
theorem dX4_cut_37 : decode cX4_cut 37 = .ok (.ifCond .eq 31, 3) := by decide +kernel
theorem dX4_cut_40 : decode cX4_cut 40 = .ok (.aload 4, 2) := by decide +kernel
theorem dX4_cut_42 : decode cX4_cut 42 = .ok (.getfield 52, 3) := by decide +kernel
theorem dX4_cut_45 : decode cX4_cut 45 = .ok (.ifnull 23, 3) := by decide +kernel
theorem dX4_cut_48 : decode cX4_cut 48 = .ok (.aload 4, 2) := by decide +kernel
theorem dX4_cut_50 : decode cX4_cut 50 = .ok (.getfield 52, 3) := by decide +kernel
theorem dX4_cut_53 : decode cX4_cut 53 = .ok (.getfield 42, 3) := by decide +kernel
theorem dX4_cut_56 : decode cX4_cut 56 = .ok (.ifCond .ne 12, 3) := by decide +kernel
theorem dX4_cut_59 : decode cX4_cut 59 = .ok (.aload 4, 2) := by decide +kernel
theorem dX4_cut_61 : decode cX4_cut 61 = .ok (.iconst 0, 1) := by decide +kernel
theorem dX4_cut_62 : decode cX4_cut 62 = .ok (.putfield 42, 3) := by decide +kernel
theorem dX4_cut_65 : decode cX4_cut 65 = .ok (.iinc 2 1, 3) := by decide +kernel
theorem dX4_cut_68 : decode cX4_cut 68 = .ok (.iinc 3 1, 3) := by decide +kernel
theorem dX4_cut_71 : decode cX4_cut 71 = .ok (.goto (-57), 3) := by decide +kernel
theorem dX4_cut_74 : decode cX4_cut 74 = .ok (.iload_n 2, 1) := by decide +kernel
theorem dX4_cut_75 : decode cX4_cut 75 = .ok (.ireturn, 1) := by decide +kernel
theorem dX4_count_0 : decode cX4_count 0 = .ok (.iconst 0, 1) := by decide +kernel
theorem dX4_count_1 : decode cX4_count 1 = .ok (.istore_n 1, 1) := by decide +kernel
theorem dX4_count_2 : decode cX4_count 2 = .ok (.iconst 0, 1) := by decide +kernel
theorem dX4_count_3 : decode cX4_count 3 = .ok (.istore_n 2, 1) := by decide +kernel
theorem dX4_count_4 : decode cX4_count 4 = .ok (.iload_n 2, 1) := by decide +kernel
theorem dX4_count_5 : decode cX4_count 5 = .ok (.bipush 40, 2) := by decide +kernel
theorem dX4_count_7 : decode cX4_count 7 = .ok (.if_icmp .ge 29, 3) := by decide +kernel
theorem dX4_count_10 : decode cX4_count 10 = .ok (.aload_n 0, 1) := by decide +kernel
theorem dX4_count_11 : decode cX4_count 11 = .ok (.iload_n 2, 1) := by decide +kernel
theorem dX4_count_12 : decode cX4_count 12 = .ok (.invokevirtual 38, 3) := by decide +kernel
theorem dX4_count_15 : decode cX4_count 15 = .ok (.astore_n 3, 1) := by decide +kernel
theorem dX4_count_16 : decode cX4_count 16 = .ok (.aload_n 3, 1) := by decide +kernel
theorem dX4_count_17 : decode cX4_count 17 = .ok (.ifnull 13, 3) := by decide +kernel
theorem dX4_count_20 : decode cX4_count 20 = .ok (.aload_n 3, 1) := by decide +kernel
theorem dX4_count_21 : decode cX4_count 21 = .ok (.getfield 42, 3) := by decide +kernel
theorem dX4_count_24 : decode cX4_count 24 = .ok (.ifCond .eq 6, 3) := by decide +kernel
theorem dX4_count_27 : decode cX4_count 27 = .ok (.iinc 1 1, 3) := by decide +kernel
theorem dX4_count_30 : decode cX4_count 30 = .ok (.iinc 2 1, 3) := by decide +kernel
theorem dX4_count_33 : decode cX4_count 33 = .ok (.goto (-29), 3) := by decide +kernel
theorem dX4_count_36 : decode cX4_count 36 = .ok (.iload_n 1, 1) := by decide +kernel
theorem dX4_count_37 : decode cX4_count 37 = .ok (.ireturn, 1) := by decide +kernel
theorem dX4_link_0 : decode cX4_link 0 = .ok (.iconst 0, 1) := by decide +kernel
theorem dX4_link_1 : decode cX4_link 1 = .ok (.istore_n 1, 1) := by decide +kernel
theorem dX4_link_2 : decode cX4_link 2 = .ok (.iload_n 1, 1) := by decide +kernel
theorem dX4_link_3 : decode cX4_link 3 = .ok (.bipush 40, 2) := by decide +kernel
theorem dX4_link_5 : decode cX4_link 5 = .ok (.if_icmp .ge 23, 3) := by decide +kernel
theorem dX4_link_8 : decode cX4_link 8 = .ok (.aload_n 0, 1) := by decide +kernel
theorem dX4_link_9 : decode cX4_link 9 = .ok (.iload_n 1, 1) := by decide +kernel
theorem dX4_link_10 : decode cX4_link 10 = .ok (.invokevirtual 38, 3) := by decide +kernel
theorem dX4_link_13 : decode cX4_link 13 = .ok (.astore_n 2, 1) := by decide +kernel
theorem dX4_link_14 : decode cX4_link 14 = .ok (.aload_n 2, 1) := by decide +kernel
theorem dX4_link_15 : decode cX4_link 15 = .ok (.ifnull 7, 3) := by decide +kernel
theorem dX4_link_18 : decode cX4_link 18 = .ok (.aload_n 2, 1) := by decide +kernel
theorem dX4_link_19 : decode cX4_link 19 = .ok (.invokevirtual 55, 3) := by decide +kernel
theorem dX4_link_22 : decode cX4_link 22 = .ok (.iinc 1 1, 3) := by decide +kernel
theorem dX4_link_25 : decode cX4_link 25 = .ok (.goto (-23), 3) := by decide +kernel
theorem dX4_link_28 : decode cX4_link 28 = .ok (.aload_n 0, 1) := by decide +kernel
theorem dX4_link_29 : decode cX4_link 29 = .ok (.getfield 20, 3) := by decide +kernel
theorem dX4_link_32 : decode cX4_link 32 = .ok (.iconst 1, 1) := by decide +kernel
theorem dX4_link_33 : decode cX4_link 33 = .ok (.putfield 46, 3) := by decide +kernel
theorem dX4_link_36 : decode cX4_link 36 = .ok (.iconst 1, 1) := by decide +kernel
theorem dX4_link_37 : decode cX4_link 37 = .ok (.istore_n 1, 1) := by decide +kernel
theorem dX4_link_38 : decode cX4_link 38 = .ok (.iload_n 1, 1) := by decide +kernel
theorem dX4_link_39 : decode cX4_link 39 = .ok (.bipush 40, 2) := by decide +kernel
theorem dX4_link_41 : decode cX4_link 41 = .ok (.if_icmp .ge 69, 3) := by decide +kernel
theorem dX4_link_44 : decode cX4_link 44 = .ok (.aload_n 0, 1) := by decide +kernel
theorem dX4_link_45 : decode cX4_link 45 = .ok (.iload_n 1, 1) := by decide +kernel
theorem dX4_link_46 : decode cX4_link 46 = .ok (.invokevirtual 38, 3) := by decide +kernel
theorem dX4_link_49 : decode cX4_link 49 = .ok (.astore_n 2, 1) := by decide +kernel
theorem dX4_link_50 : decode cX4_link 50 = .ok (.aload_n 2, 1) := by decide +kernel
theorem dX4_link_51 : decode cX4_link 51 = .ok (.ifnull 53, 3) := by decide +kernel
theorem dX4_link_54 : decode cX4_link 54 = .ok (.aload_n 2, 1) := by decide +kernel
theorem dX4_link_55 : decode cX4_link 55 = .ok (.getfield 42, 3) := by decide +kernel
theorem dX4_link_58 : decode cX4_link 58 = .ok (.ifCond .eq 46, 3) := by decide +kernel
theorem dX4_link_61 : decode cX4_link 61 = .ok (.aload_n 2, 1) := by decide +kernel
theorem dX4_link_62 : decode cX4_link 62 = .ok (.getfield 52, 3) := by decide +kernel
theorem dX4_link_65 : decode cX4_link 65 = .ok (.ifnull 39, 3) := by decide +kernel
theorem dX4_link_68 : decode cX4_link 68 = .ok (.aload_n 2, 1) := by decide +kernel
theorem dX4_link_69 : decode cX4_link 69 = .ok (.getfield 52, 3) := by decide +kernel
theorem dX4_link_72 : decode cX4_link 72 = .ok (.iconst 1, 1) := by decide +kernel
theorem dX4_link_73 : decode cX4_link 73 = .ok (.putfield 58, 3) := by decide +kernel
theorem dX4_link_76 : decode cX4_link 76 = .ok (.aload_n 2, 1) := by decide +kernel
theorem dX4_link_77 : decode cX4_link 77 = .ok (.bipush 18, 2) := by decide +kernel
theorem dX4_link_79 : decode cX4_link 79 = .ok (.invokevirtual 61, 3) := by decide +kernel
theorem dX4_link_82 : decode cX4_link 82 = .ok (.ifCond .ne 22, 3) := by decide +kernel
theorem dX4_link_85 : decode cX4_link 85 = .ok (.aload_n 2, 1) := by decide +kernel
theorem dX4_link_86 : decode cX4_link 86 = .ok (.aload_n 2, 1) := by decide +kernel
theorem dX4_link_87 : decode cX4_link 87 = .ok (.getfield 52, 3) := by decide +kernel
theorem dX4_link_90 : decode cX4_link 90 = .ok (.getfield 46, 3) := by decide +kernel
theorem dX4_link_93 : decode cX4_link 93 = .ok (.putfield 46, 3) := by decide +kernel
theorem dX4_link_96 : decode cX4_link 96 = .ok (.aload_n 2, 1) := by decide +kernel
theorem dX4_link_97 : decode cX4_link 97 = .ok (.getfield 52, 3) := by decide +kernel
theorem dX4_link_100 : decode cX4_link 100 = .ok (.aload_n 2, 1) := by decide +kernel
theorem dX4_link_101 : decode cX4_link 101 = .ok (.invokevirtual 65, 3) := by decide +kernel
theorem dX4_link_104 : decode cX4_link 104 = .ok (.iinc 1 1, 3) := by decide +kernel
theorem dX4_link_107 : decode cX4_link 107 = .ok (.goto (-69), 3) := by decide +kernel
theorem dX4_link_110 : decode cX4_link 110 = .ok (.return_, 1) := by decide +kernel
theorem dX4_copyTo_0 : decode cX4_copyTo 0 = .ok (.aload_n 1, 1) := by decide +kernel
theorem dX4_copyTo_1 : decode cX4_copyTo 1 = .ok (.aload_n 0, 1) := by decide +kernel
theorem dX4_copyTo_2 : decode cX4_copyTo 2 = .ok (.getfield 24, 3) := by decide +kernel
theorem dX4_copyTo_5 : decode cX4_copyTo 5 = .ok (.putfield 68, 3) := by decide +kernel
theorem dX4_copyTo_8 : decode cX4_copyTo 8 = .ok (.aload_n 1, 1) := by decide +kernel
theorem dX4_copyTo_9 : decode cX4_copyTo 9 = .ok (.aload_n 0, 1) := by decide +kernel
theorem dX4_copyTo_10 : decode cX4_copyTo 10 = .ok (.getfield 28, 3) := by decide +kernel
theorem dX4_copyTo_13 : decode cX4_copyTo 13 = .ok (.putfield 71, 3) := by decide +kernel
theorem dX4_copyTo_16 : decode cX4_copyTo 16 = .ok (.aload_n 1, 1) := by decide +kernel
theorem dX4_copyTo_17 : decode cX4_copyTo 17 = .ok (.aload_n 0, 1) := by decide +kernel
theorem dX4_copyTo_18 : decode cX4_copyTo 18 = .ok (.getfield 31, 3) := by decide +kernel
theorem dX4_copyTo_21 : decode cX4_copyTo 21 = .ok (.putfield 72, 3) := by decide +kernel
theorem dX4_copyTo_24 : decode cX4_copyTo 24 = .ok (.iconst 0, 1) := by decide +kernel
theorem dX4_copyTo_25 : decode cX4_copyTo 25 = .ok (.istore_n 2, 1) := by decide +kernel
theorem dX4_copyTo_26 : decode cX4_copyTo 26 = .ok (.iload_n 2, 1) := by decide +kernel
theorem dX4_copyTo_27 : decode cX4_copyTo 27 = .ok (.bipush 40, 2) := by decide +kernel
theorem dX4_copyTo_29 : decode cX4_copyTo 29 = .ok (.if_icmp .ge 56, 3) := by decide +kernel
theorem dX4_copyTo_32 : decode cX4_copyTo 32 = .ok (.aload_n 0, 1) := by decide +kernel
theorem dX4_copyTo_33 : decode cX4_copyTo 33 = .ok (.iload_n 2, 1) := by decide +kernel
theorem dX4_copyTo_34 : decode cX4_copyTo 34 = .ok (.invokevirtual 38, 3) := by decide +kernel
theorem dX4_copyTo_37 : decode cX4_copyTo 37 = .ok (.astore_n 3, 1) := by decide +kernel
theorem dX4_copyTo_38 : decode cX4_copyTo 38 = .ok (.aload_n 3, 1) := by decide +kernel
theorem dX4_copyTo_39 : decode cX4_copyTo 39 = .ok (.ifnull 40, 3) := by decide +kernel
theorem dX4_copyTo_42 : decode cX4_copyTo 42 = .ok (.aload_n 1, 1) := by decide +kernel
theorem dX4_copyTo_43 : decode cX4_copyTo 43 = .ok (.getfield 73, 3) := by decide +kernel
theorem dX4_copyTo_46 : decode cX4_copyTo 46 = .ok (.iload_n 2, 1) := by decide +kernel
theorem dX4_copyTo_47 : decode cX4_copyTo 47 = .ok (.aload_n 3, 1) := by decide +kernel
theorem dX4_copyTo_48 : decode cX4_copyTo 48 = .ok (.getfield 42, 3) := by decide +kernel
theorem dX4_copyTo_51 : decode cX4_copyTo 51 = .ok (.bastore, 1) := by decide +kernel
theorem dX4_copyTo_52 : decode cX4_copyTo 52 = .ok (.aload_n 1, 1) := by decide +kernel
theorem dX4_copyTo_53 : decode cX4_copyTo 53 = .ok (.getfield 76, 3) := by decide +kernel
theorem dX4_copyTo_56 : decode cX4_copyTo 56 = .ok (.iload_n 2, 1) := by decide +kernel
theorem dX4_copyTo_57 : decode cX4_copyTo 57 = .ok (.aload_n 3, 1) := by decide +kernel
theorem dX4_copyTo_58 : decode cX4_copyTo 58 = .ok (.invokevirtual 80, 3) := by decide +kernel
theorem dX4_copyTo_61 : decode cX4_copyTo 61 = .ok (.iastore, 1) := by decide +kernel
theorem dX4_copyTo_62 : decode cX4_copyTo 62 = .ok (.aload_n 3, 1) := by decide +kernel
theorem dX4_copyTo_63 : decode cX4_copyTo 63 = .ok (.getfield 84, 3) := by decide +kernel
theorem dX4_copyTo_66 : decode cX4_copyTo 66 = .ok (.iconst 0, 1) := by decide +kernel
theorem dX4_copyTo_67 : decode cX4_copyTo 67 = .ok (.aload_n 1, 1) := by decide +kernel
theorem dX4_copyTo_68 : decode cX4_copyTo 68 = .ok (.getfield 87, 3) := by decide +kernel
theorem dX4_copyTo_71 : decode cX4_copyTo 71 = .ok (.iload_n 2, 1) := by decide +kernel
theorem dX4_copyTo_72 : decode cX4_copyTo 72 = .ok (.aaload, 1) := by decide +kernel
theorem dX4_copyTo_73 : decode cX4_copyTo 73 = .ok (.iconst 0, 1) := by decide +kernel
theorem dX4_copyTo_74 : decode cX4_copyTo 74 = .ok (.bipush 20, 2) := by decide +kernel
theorem dX4_copyTo_76 : decode cX4_copyTo 76 = .ok (.invokestatic 91, 3) := by decide +kernel
theorem dX4_copyTo_79 : decode cX4_copyTo 79 = .ok (.iinc 2 1, 3) := by decide +kernel
theorem dX4_copyTo_82 : decode cX4_copyTo 82 = .ok (.goto (-56), 3) := by decide +kernel
theorem dX4_copyTo_85 : decode cX4_copyTo 85 = .ok (.return_, 1) := by decide +kernel
theorem dX4_takeFrom_0 : decode cX4_takeFrom 0 = .ok (.aload_n 0, 1) := by decide +kernel
theorem dX4_takeFrom_1 : decode cX4_takeFrom 1 = .ok (.aload_n 1, 1) := by decide +kernel
theorem dX4_takeFrom_2 : decode cX4_takeFrom 2 = .ok (.getfield 68, 3) := by decide +kernel
theorem dX4_takeFrom_5 : decode cX4_takeFrom 5 = .ok (.putfield 24, 3) := by decide +kernel
theorem dX4_takeFrom_8 : decode cX4_takeFrom 8 = .ok (.aload_n 0, 1) := by decide +kernel
theorem dX4_takeFrom_9 : decode cX4_takeFrom 9 = .ok (.aload_n 1, 1) := by decide +kernel
theorem dX4_takeFrom_10 : decode cX4_takeFrom 10 = .ok (.getfield 71, 3) := by decide +kernel
theorem dX4_takeFrom_13 : decode cX4_takeFrom 13 = .ok (.putfield 28, 3) := by decide +kernel
theorem dX4_takeFrom_16 : decode cX4_takeFrom 16 = .ok (.aload_n 0, 1) := by decide +kernel
theorem dX4_takeFrom_17 : decode cX4_takeFrom 17 = .ok (.aload_n 1, 1) := by decide +kernel
theorem dX4_takeFrom_18 : decode cX4_takeFrom 18 = .ok (.getfield 72, 3) := by decide +kernel
theorem dX4_takeFrom_21 : decode cX4_takeFrom 21 = .ok (.putfield 31, 3) := by decide +kernel
theorem dX4_takeFrom_24 : decode cX4_takeFrom 24 = .ok (.iconst 0, 1) := by decide +kernel
theorem dX4_takeFrom_25 : decode cX4_takeFrom 25 = .ok (.istore_n 2, 1) := by decide +kernel
theorem dX4_takeFrom_26 : decode cX4_takeFrom 26 = .ok (.iload_n 2, 1) := by decide +kernel
theorem dX4_takeFrom_27 : decode cX4_takeFrom 27 = .ok (.bipush 40, 2) := by decide +kernel
theorem dX4_takeFrom_29 : decode cX4_takeFrom 29 = .ok (.if_icmp .ge 60, 3) := by decide +kernel
theorem dX4_takeFrom_32 : decode cX4_takeFrom 32 = .ok (.aload_n 0, 1) := by decide +kernel
theorem dX4_takeFrom_33 : decode cX4_takeFrom 33 = .ok (.iload_n 2, 1) := by decide +kernel
theorem dX4_takeFrom_34 : decode cX4_takeFrom 34 = .ok (.invokevirtual 38, 3) := by decide +kernel
theorem dX4_takeFrom_37 : decode cX4_takeFrom 37 = .ok (.astore_n 3, 1) := by decide +kernel
theorem dX4_takeFrom_38 : decode cX4_takeFrom 38 = .ok (.aload_n 3, 1) := by decide +kernel
theorem dX4_takeFrom_39 : decode cX4_takeFrom 39 = .ok (.ifnull 44, 3) := by decide +kernel
theorem dX4_takeFrom_42 : decode cX4_takeFrom 42 = .ok (.aload_n 3, 1) := by decide +kernel
theorem dX4_takeFrom_43 : decode cX4_takeFrom 43 = .ok (.aload_n 1, 1) := by decide +kernel
theorem dX4_takeFrom_44 : decode cX4_takeFrom 44 = .ok (.getfield 73, 3) := by decide +kernel
theorem dX4_takeFrom_47 : decode cX4_takeFrom 47 = .ok (.iload_n 2, 1) := by decide +kernel
theorem dX4_takeFrom_48 : decode cX4_takeFrom 48 = .ok (.baload, 1) := by decide +kernel
theorem dX4_takeFrom_49 : decode cX4_takeFrom 49 = .ok (.putfield 42, 3) := by decide +kernel
theorem dX4_takeFrom_52 : decode cX4_takeFrom 52 = .ok (.aload_n 3, 1) := by decide +kernel
theorem dX4_takeFrom_53 : decode cX4_takeFrom 53 = .ok (.aload_n 0, 1) := by decide +kernel
theorem dX4_takeFrom_54 : decode cX4_takeFrom 54 = .ok (.aload_n 1, 1) := by decide +kernel
theorem dX4_takeFrom_55 : decode cX4_takeFrom 55 = .ok (.getfield 76, 3) := by decide +kernel
theorem dX4_takeFrom_58 : decode cX4_takeFrom 58 = .ok (.iload_n 2, 1) := by decide +kernel
theorem dX4_takeFrom_59 : decode cX4_takeFrom 59 = .ok (.iaload, 1) := by decide +kernel
theorem dX4_takeFrom_60 : decode cX4_takeFrom 60 = .ok (.invokevirtual 38, 3) := by decide +kernel
theorem dX4_takeFrom_63 : decode cX4_takeFrom 63 = .ok (.putfield 52, 3) := by decide +kernel
theorem dX4_takeFrom_66 : decode cX4_takeFrom 66 = .ok (.aload_n 1, 1) := by decide +kernel
theorem dX4_takeFrom_67 : decode cX4_takeFrom 67 = .ok (.getfield 87, 3) := by decide +kernel
theorem dX4_takeFrom_70 : decode cX4_takeFrom 70 = .ok (.iload_n 2, 1) := by decide +kernel
theorem dX4_takeFrom_71 : decode cX4_takeFrom 71 = .ok (.aaload, 1) := by decide +kernel
theorem dX4_takeFrom_72 : decode cX4_takeFrom 72 = .ok (.iconst 0, 1) := by decide +kernel
end
section
theorem dX4_takeFrom_73 : decode cX4_takeFrom 73 = .ok (.aload_n 3, 1) := by decide +kernel
theorem dX4_takeFrom_74 : decode cX4_takeFrom 74 = .ok (.getfield 84, 3) := by decide +kernel
theorem dX4_takeFrom_77 : decode cX4_takeFrom 77 = .ok (.iconst 0, 1) := by decide +kernel
theorem dX4_takeFrom_78 : decode cX4_takeFrom 78 = .ok (.bipush 20, 2) := by decide +kernel
theorem dX4_takeFrom_80 : decode cX4_takeFrom 80 = .ok (.invokestatic 91, 3) := by decide +kernel
theorem dX4_takeFrom_83 : decode cX4_takeFrom 83 = .ok (.iinc 2 1, 3) := by decide +kernel
theorem dX4_takeFrom_86 : decode cX4_takeFrom 86 = .ok (.goto (-60), 3) := by decide +kernel
theorem dX4_takeFrom_89 : decode cX4_takeFrom 89 = .ok (.return_, 1) := by decide +kernel
theorem dX5_init_0 : decode cX5_init 0 = .ok (.aload_n 0, 1) := by decide +kernel
theorem dX5_init_1 : decode cX5_init 1 = .ok (.invokespecial 1, 3) := by decide +kernel
theorem dX5_init_4 : decode cX5_init 4 = .ok (.aload_n 0, 1) := by decide +kernel
theorem dX5_init_5 : decode cX5_init 5 = .ok (.new 7, 3) := by decide +kernel
theorem dX5_init_8 : decode cX5_init 8 = .ok (.dup, 1) := by decide +kernel
theorem dX5_init_9 : decode cX5_init 9 = .ok (.invokespecial 9, 3) := by decide +kernel
theorem dX5_init_12 : decode cX5_init 12 = .ok (.putfield 10, 3) := by decide +kernel
theorem dX5_init_15 : decode cX5_init 15 = .ok (.aload_n 0, 1) := by decide +kernel
theorem dX5_init_16 : decode cX5_init 16 = .ok (.new 16, 3) := by decide +kernel
theorem dX5_init_19 : decode cX5_init 19 = .ok (.dup, 1) := by decide +kernel
theorem dX5_init_20 : decode cX5_init 20 = .ok (.aload_n 0, 1) := by decide +kernel
theorem dX5_init_21 : decode cX5_init 21 = .ok (.getfield 10, 3) := by decide +kernel
theorem dX5_init_24 : decode cX5_init 24 = .ok (.invokespecial 18, 3) := by decide +kernel
theorem dX5_init_27 : decode cX5_init 27 = .ok (.putfield 21, 3) := by decide +kernel
theorem dX5_init_30 : decode cX5_init 30 = .ok (.aload_n 0, 1) := by decide +kernel
theorem dX5_init_31 : decode cX5_init 31 = .ok (.iconst 2, 1) := by decide +kernel
theorem dX5_init_32 : decode cX5_init 32 = .ok (.anewarray 25, 3) := by decide +kernel
theorem dX5_init_35 : decode cX5_init 35 = .ok (.putfield 27, 3) := by decide +kernel
theorem dX5_init_38 : decode cX5_init 38 = .ok (.return_, 1) := by decide +kernel
theorem dX5_add_0 : decode cX5_add 0 = .ok (.aload_n 0, 1) := by decide +kernel
theorem dX5_add_1 : decode cX5_add 1 = .ok (.iload_n 1, 1) := by decide +kernel
theorem dX5_add_2 : decode cX5_add 2 = .ok (.invokevirtual 31, 3) := by decide +kernel
theorem dX5_add_5 : decode cX5_add 5 = .ok (.astore_n 2, 1) := by decide +kernel
theorem dX5_add_6 : decode cX5_add 6 = .ok (.aload_n 0, 1) := by decide +kernel
theorem dX5_add_7 : decode cX5_add 7 = .ok (.getfield 10, 3) := by decide +kernel
theorem dX5_add_10 : decode cX5_add 10 = .ok (.invokevirtual 35, 3) := by decide +kernel
theorem dX5_add_13 : decode cX5_add 13 = .ok (.ifCond .eq 13, 3) := by decide +kernel
theorem dX5_add_16 : decode cX5_add 16 = .ok (.new 39, 3) := by decide +kernel
theorem dX5_add_19 : decode cX5_add 19 = .ok (.dup, 1) := by decide +kernel
theorem dX5_add_20 : decode cX5_add 20 = .ok (.ldc 41, 2) := by decide +kernel
theorem dX5_add_22 : decode cX5_add 22 = .ok (.invokespecial 43, 3) := by decide +kernel
theorem dX5_add_25 : decode cX5_add 25 = .ok (.athrow, 1) := by decide +kernel
theorem dX5_add_26 : decode cX5_add 26 = .ok (.aload_n 0, 1) := by decide +kernel
theorem dX5_add_27 : decode cX5_add 27 = .ok (.getfield 21, 3) := by decide +kernel
theorem dX5_add_30 : decode cX5_add 30 = .ok (.iconst 1, 1) := by decide +kernel
theorem dX5_add_31 : decode cX5_add 31 = .ok (.putfield 46, 3) := by decide +kernel
theorem dX5_add_34 : decode cX5_add 34 = .ok (.aload_n 0, 1) := by decide +kernel
theorem dX5_add_35 : decode cX5_add 35 = .ok (.getfield 10, 3) := by decide +kernel
theorem dX5_add_38 : decode cX5_add 38 = .ok (.aload_n 2, 1) := by decide +kernel
theorem dX5_add_39 : decode cX5_add 39 = .ok (.invokevirtual 50, 3) := by decide +kernel
theorem dX5_add_42 : decode cX5_add 42 = .ok (.ireturn, 1) := by decide +kernel
theorem dX5_remove_0 : decode cX5_remove 0 = .ok (.aload_n 0, 1) := by decide +kernel
theorem dX5_remove_1 : decode cX5_remove 1 = .ok (.iload_n 1, 1) := by decide +kernel
theorem dX5_remove_2 : decode cX5_remove 2 = .ok (.invokevirtual 31, 3) := by decide +kernel
theorem dX5_remove_5 : decode cX5_remove 5 = .ok (.astore_n 2, 1) := by decide +kernel
theorem dX5_remove_6 : decode cX5_remove 6 = .ok (.aload_n 2, 1) := by decide +kernel
theorem dX5_remove_7 : decode cX5_remove 7 = .ok (.invokevirtual 54, 3) := by decide +kernel
theorem dX5_remove_10 : decode cX5_remove 10 = .ok (.ifCond .eq 13, 3) := by decide +kernel
theorem dX5_remove_13 : decode cX5_remove 13 = .ok (.new 59, 3) := by decide +kernel
theorem dX5_remove_16 : decode cX5_remove 16 = .ok (.dup, 1) := by decide +kernel
theorem dX5_remove_17 : decode cX5_remove 17 = .ok (.ldc 61, 2) := by decide +kernel
theorem dX5_remove_19 : decode cX5_remove 19 = .ok (.invokespecial 63, 3) := by decide +kernel
theorem dX5_remove_22 : decode cX5_remove 22 = .ok (.athrow, 1) := by decide +kernel
theorem dX5_remove_23 : decode cX5_remove 23 = .ok (.aload_n 0, 1) := by decide +kernel
theorem dX5_remove_24 : decode cX5_remove 24 = .ok (.getfield 21, 3) := by decide +kernel
theorem dX5_remove_27 : decode cX5_remove 27 = .ok (.iconst 1, 1) := by decide +kernel
theorem dX5_remove_28 : decode cX5_remove 28 = .ok (.putfield 46, 3) := by decide +kernel
theorem dX5_remove_31 : decode cX5_remove 31 = .ok (.aload_n 0, 1) := by decide +kernel
theorem dX5_remove_32 : decode cX5_remove 32 = .ok (.getfield 10, 3) := by decide +kernel
theorem dX5_remove_35 : decode cX5_remove 35 = .ok (.aload_n 2, 1) := by decide +kernel
theorem dX5_remove_36 : decode cX5_remove 36 = .ok (.invokevirtual 64, 3) := by decide +kernel
theorem dX5_remove_39 : decode cX5_remove 39 = .ok (.ireturn, 1) := by decide +kernel
theorem dX5_boxes_0 : decode cX5_boxes 0 = .ok (.aload_n 0, 1) := by decide +kernel
theorem dX5_boxes_1 : decode cX5_boxes 1 = .ok (.getfield 10, 3) := by decide +kernel
theorem dX5_boxes_4 : decode cX5_boxes 4 = .ok (.invokevirtual 67, 3) := by decide +kernel
theorem dX5_boxes_7 : decode cX5_boxes 7 = .ok (.ireturn, 1) := by decide +kernel
theorem dX5_parent_0 : decode cX5_parent 0 = .ok (.aload_n 0, 1) := by decide +kernel
theorem dX5_parent_1 : decode cX5_parent 1 = .ok (.iload_n 1, 1) := by decide +kernel
theorem dX5_parent_2 : decode cX5_parent 2 = .ok (.invokevirtual 31, 3) := by decide +kernel
theorem dX5_parent_5 : decode cX5_parent 5 = .ok (.invokevirtual 71, 3) := by decide +kernel
theorem dX5_parent_8 : decode cX5_parent 8 = .ok (.ireturn, 1) := by decide +kernel
theorem dX5_child_0 : decode cX5_child 0 = .ok (.aload_n 0, 1) := by decide +kernel
theorem dX5_child_1 : decode cX5_child 1 = .ok (.iload_n 1, 1) := by decide +kernel
theorem dX5_child_2 : decode cX5_child 2 = .ok (.invokevirtual 31, 3) := by decide +kernel
theorem dX5_child_5 : decode cX5_child 5 = .ok (.astore_n 3, 1) := by decide +kernel
theorem dX5_child_6 : decode cX5_child 6 = .ok (.aload_n 0, 1) := by decide +kernel
theorem dX5_child_7 : decode cX5_child 7 = .ok (.getfield 21, 3) := by decide +kernel
theorem dX5_child_10 : decode cX5_child 10 = .ok (.invokevirtual 74, 3) := by decide +kernel
theorem dX5_child_13 : decode cX5_child 13 = .ok (.iload_n 2, 1) := by decide +kernel
theorem dX5_child_14 : decode cX5_child 14 = .ok (.iconst (-1), 1) := by decide +kernel
theorem dX5_child_15 : decode cX5_child 15 = .ok (.if_icmp .ne 8, 3) := by decide +kernel
theorem dX5_child_18 : decode cX5_child 18 = .ok (.aload_n 3, 1) := by decide +kernel
theorem dX5_child_19 : decode cX5_child 19 = .ok (.getfield 77, 3) := by decide +kernel
theorem dX5_child_22 : decode cX5_child 22 = .ok (.ireturn, 1) := by decide +kernel
theorem dX5_child_23 : decode cX5_child 23 = .ok (.iconst 0, 1) := by decide +kernel
theorem dX5_child_24 : decode cX5_child 24 = .ok (.istore 4, 2) := by decide +kernel
theorem dX5_child_26 : decode cX5_child 26 = .ok (.aload_n 3, 1) := by decide +kernel
theorem dX5_child_27 : decode cX5_child 27 = .ok (.getfield 81, 3) := by decide +kernel
theorem dX5_child_30 : decode cX5_child 30 = .ok (.astore 5, 2) := by decide +kernel
theorem dX5_child_32 : decode cX5_child 32 = .ok (.aload 5, 2) := by decide +kernel
theorem dX5_child_34 : decode cX5_child 34 = .ok (.ifnull 28, 3) := by decide +kernel
theorem dX5_child_37 : decode cX5_child 37 = .ok (.iload 4, 2) := by decide +kernel
theorem dX5_child_39 : decode cX5_child 39 = .ok (.iload_n 2, 1) := by decide +kernel
theorem dX5_child_40 : decode cX5_child 40 = .ok (.if_icmp .ne 9, 3) := by decide +kernel
theorem dX5_child_43 : decode cX5_child 43 = .ok (.aload 5, 2) := by decide +kernel
theorem dX5_child_45 : decode cX5_child 45 = .ok (.getfield 85, 3) := by decide +kernel
theorem dX5_child_48 : decode cX5_child 48 = .ok (.ireturn, 1) := by decide +kernel
theorem dX5_child_49 : decode cX5_child 49 = .ok (.iinc 4 1, 3) := by decide +kernel
theorem dX5_child_52 : decode cX5_child 52 = .ok (.aload 5, 2) := by decide +kernel
theorem dX5_child_54 : decode cX5_child 54 = .ok (.getfield 88, 3) := by decide +kernel
theorem dX5_child_57 : decode cX5_child 57 = .ok (.astore 5, 2) := by decide +kernel
theorem dX5_child_59 : decode cX5_child 59 = .ok (.goto (-27), 3) := by decide +kernel
theorem dX5_child_62 : decode cX5_child 62 = .ok (.iconst (-1), 1) := by decide +kernel
theorem dX5_child_63 : decode cX5_child 63 = .ok (.ireturn, 1) := by decide +kernel
theorem dX5_set_0 : decode cX5_set 0 = .ok (.aload_n 0, 1) := by decide +kernel
theorem dX5_set_1 : decode cX5_set 1 = .ok (.iload_n 1, 1) := by decide +kernel
theorem dX5_set_2 : decode cX5_set 2 = .ok (.invokevirtual 31, 3) := by decide +kernel
theorem dX5_set_5 : decode cX5_set 5 = .ok (.astore 4, 2) := by decide +kernel
theorem dX5_set_7 : decode cX5_set 7 = .ok (.iload_n 2, 1) := by decide +kernel
theorem dX5_set_8 : decode cX5_set 8 = .ok (.invokestatic 91, 3) := by decide +kernel
theorem dX5_set_11 : decode cX5_set 11 = .ok (.ifCond .ne 13, 3) := by decide +kernel
theorem dX5_set_14 : decode cX5_set 14 = .ok (.new 59, 3) := by decide +kernel
theorem dX5_set_17 : decode cX5_set 17 = .ok (.dup, 1) := by decide +kernel
theorem dX5_set_18 : decode cX5_set 18 = .ok (.ldc 95, 2) := by decide +kernel
theorem dX5_set_20 : decode cX5_set 20 = .ok (.invokespecial 63, 3) := by decide +kernel
theorem dX5_set_23 : decode cX5_set 23 = .ok (.athrow, 1) := by decide +kernel
theorem dX5_set_24 : decode cX5_set 24 = .ok (.iload_n 3, 1) := by decide +kernel
theorem dX5_set_25 : decode cX5_set 25 = .ok (.getstatic 97, 3) := by decide +kernel
theorem dX5_set_28 : decode cX5_set 28 = .ok (.iload_n 2, 1) := by decide +kernel
theorem dX5_set_29 : decode cX5_set 29 = .ok (.iaload, 1) := by decide +kernel
theorem dX5_set_30 : decode cX5_set 30 = .ok (.if_icmp .lt 12, 3) := by decide +kernel
theorem dX5_set_33 : decode cX5_set 33 = .ok (.iload_n 3, 1) := by decide +kernel
theorem dX5_set_34 : decode cX5_set 34 = .ok (.getstatic 101, 3) := by decide +kernel
theorem dX5_set_37 : decode cX5_set 37 = .ok (.iload_n 2, 1) := by decide +kernel
theorem dX5_set_38 : decode cX5_set 38 = .ok (.iaload, 1) := by decide +kernel
theorem dX5_set_39 : decode cX5_set 39 = .ok (.if_icmp .le 13, 3) := by decide +kernel
theorem dX5_set_42 : decode cX5_set 42 = .ok (.new 59, 3) := by decide +kernel
theorem dX5_set_45 : decode cX5_set 45 = .ok (.dup, 1) := by decide +kernel
theorem dX5_set_46 : decode cX5_set 46 = .ok (.ldc 104, 2) := by decide +kernel
theorem dX5_set_48 : decode cX5_set 48 = .ok (.invokespecial 63, 3) := by decide +kernel
theorem dX5_set_51 : decode cX5_set 51 = .ok (.athrow, 1) := by decide +kernel
theorem dX5_set_52 : decode cX5_set 52 = .ok (.aload_n 0, 1) := by decide +kernel
theorem dX5_set_53 : decode cX5_set 53 = .ok (.getfield 21, 3) := by decide +kernel
theorem dX5_set_56 : decode cX5_set 56 = .ok (.iconst 1, 1) := by decide +kernel
theorem dX5_set_57 : decode cX5_set 57 = .ok (.putfield 46, 3) := by decide +kernel
theorem dX5_set_60 : decode cX5_set 60 = .ok (.aload 4, 2) := by decide +kernel
theorem dX5_set_62 : decode cX5_set 62 = .ok (.iload_n 2, 1) := by decide +kernel
theorem dX5_set_63 : decode cX5_set 63 = .ok (.iload_n 3, 1) := by decide +kernel
theorem dX5_set_64 : decode cX5_set 64 = .ok (.invokevirtual 106, 3) := by decide +kernel
theorem dX5_set_67 : decode cX5_set 67 = .ok (.ireturn, 1) := by decide +kernel
theorem dX5_get_0 : decode cX5_get 0 = .ok (.aload_n 0, 1) := by decide +kernel
theorem dX5_get_1 : decode cX5_get 1 = .ok (.iload_n 1, 1) := by decide +kernel
theorem dX5_get_2 : decode cX5_get 2 = .ok (.invokevirtual 31, 3) := by decide +kernel
theorem dX5_get_5 : decode cX5_get 5 = .ok (.astore_n 3, 1) := by decide +kernel
theorem dX5_get_6 : decode cX5_get 6 = .ok (.iload_n 2, 1) := by decide +kernel
theorem dX5_get_7 : decode cX5_get 7 = .ok (.invokestatic 91, 3) := by decide +kernel
theorem dX5_get_10 : decode cX5_get 10 = .ok (.ifCond .ne 13, 3) := by decide +kernel
theorem dX5_get_13 : decode cX5_get 13 = .ok (.new 59, 3) := by decide +kernel
theorem dX5_get_16 : decode cX5_get 16 = .ok (.dup, 1) := by decide +kernel
theorem dX5_get_17 : decode cX5_get 17 = .ok (.ldc 95, 2) := by decide +kernel
theorem dX5_get_19 : decode cX5_get 19 = .ok (.invokespecial 63, 3) := by decide +kernel
theorem dX5_get_22 : decode cX5_get 22 = .ok (.athrow, 1) := by decide +kernel
theorem dX5_get_23 : decode cX5_get 23 = .ok (.aload_n 3, 1) := by decide +kernel
theorem dX5_get_24 : decode cX5_get 24 = .ok (.iload_n 2, 1) := by decide +kernel
theorem dX5_get_25 : decode cX5_get 25 = .ok (.invokevirtual 110, 3) := by decide +kernel
theorem dX5_get_28 : decode cX5_get 28 = .ok (.ireturn, 1) := by decide +kernel
theorem dX5_copyStyle_0 : decode cX5_copyStyle 0 = .ok (.aload_n 0, 1) := by decide +kernel
theorem dX5_copyStyle_1 : decode cX5_copyStyle 1 = .ok (.iload_n 1, 1) := by decide +kernel
theorem dX5_copyStyle_2 : decode cX5_copyStyle 2 = .ok (.invokevirtual 31, 3) := by decide +kernel
theorem dX5_copyStyle_5 : decode cX5_copyStyle 5 = .ok (.astore_n 3, 1) := by decide +kernel
theorem dX5_copyStyle_6 : decode cX5_copyStyle 6 = .ok (.aload_n 0, 1) := by decide +kernel
theorem dX5_copyStyle_7 : decode cX5_copyStyle 7 = .ok (.iload_n 2, 1) := by decide +kernel
theorem dX5_copyStyle_8 : decode cX5_copyStyle 8 = .ok (.invokevirtual 31, 3) := by decide +kernel
theorem dX5_copyStyle_11 : decode cX5_copyStyle 11 = .ok (.astore 4, 2) := by decide +kernel
theorem dX5_copyStyle_13 : decode cX5_copyStyle 13 = .ok (.aload_n 0, 1) := by decide +kernel
theorem dX5_copyStyle_14 : decode cX5_copyStyle 14 = .ok (.getfield 21, 3) := by decide +kernel
theorem dX5_copyStyle_17 : decode cX5_copyStyle 17 = .ok (.iconst 1, 1) := by decide +kernel
theorem dX5_copyStyle_18 : decode cX5_copyStyle 18 = .ok (.putfield 46, 3) := by decide +kernel
theorem dX5_copyStyle_21 : decode cX5_copyStyle 21 = .ok (.iconst 0, 1) := by decide +kernel
theorem dX5_copyStyle_22 : decode cX5_copyStyle 22 = .ok (.istore 5, 2) := by decide +kernel
theorem dX5_copyStyle_24 : decode cX5_copyStyle 24 = .ok (.iconst 0, 1) := by decide +kernel
theorem dX5_copyStyle_25 : decode cX5_copyStyle 25 = .ok (.istore 6, 2) := by decide +kernel
theorem dX5_copyStyle_27 : decode cX5_copyStyle 27 = .ok (.iload 6, 2) := by decide +kernel
theorem dX5_copyStyle_29 : decode cX5_copyStyle 29 = .ok (.bipush 20, 2) := by decide +kernel
theorem dX5_copyStyle_31 : decode cX5_copyStyle 31 = .ok (.if_icmp .ge 55, 3) := by decide +kernel
theorem dX5_copyStyle_34 : decode cX5_copyStyle 34 = .ok (.iload 6, 2) := by decide +kernel
theorem dX5_copyStyle_36 : decode cX5_copyStyle 36 = .ok (.bipush 17, 2) := by decide +kernel
theorem dX5_copyStyle_38 : decode cX5_copyStyle 38 = .ok (.if_icmp .eq 42, 3) := by decide +kernel
theorem dX5_copyStyle_41 : decode cX5_copyStyle 41 = .ok (.iload 6, 2) := by decide +kernel
theorem dX5_copyStyle_43 : decode cX5_copyStyle 43 = .ok (.bipush 18, 2) := by decide +kernel
theorem dX5_copyStyle_45 : decode cX5_copyStyle 45 = .ok (.if_icmp .eq 35, 3) := by decide +kernel
theorem dX5_copyStyle_48 : decode cX5_copyStyle 48 = .ok (.iload 6, 2) := by decide +kernel
theorem dX5_copyStyle_50 : decode cX5_copyStyle 50 = .ok (.bipush 19, 2) := by decide +kernel
theorem dX5_copyStyle_52 : decode cX5_copyStyle 52 = .ok (.if_icmp .eq 28, 3) := by decide +kernel
theorem dX5_copyStyle_55 : decode cX5_copyStyle 55 = .ok (.aload_n 3, 1) := by decide +kernel
theorem dX5_copyStyle_56 : decode cX5_copyStyle 56 = .ok (.iload 6, 2) := by decide +kernel
theorem dX5_copyStyle_58 : decode cX5_copyStyle 58 = .ok (.invokevirtual 110, 3) := by decide +kernel
theorem dX5_copyStyle_61 : decode cX5_copyStyle 61 = .ok (.istore 7, 2) := by decide +kernel
theorem dX5_copyStyle_63 : decode cX5_copyStyle 63 = .ok (.aload 4, 2) := by decide +kernel
theorem dX5_copyStyle_65 : decode cX5_copyStyle 65 = .ok (.iload 6, 2) := by decide +kernel
theorem dX5_copyStyle_67 : decode cX5_copyStyle 67 = .ok (.iload 7, 2) := by decide +kernel
theorem dX5_copyStyle_69 : decode cX5_copyStyle 69 = .ok (.invokevirtual 106, 3) := by decide +kernel
theorem dX5_copyStyle_72 : decode cX5_copyStyle 72 = .ok (.iload 7, 2) := by decide +kernel
theorem dX5_copyStyle_74 : decode cX5_copyStyle 74 = .ok (.if_icmp .eq 6, 3) := by decide +kernel
theorem dX5_copyStyle_77 : decode cX5_copyStyle 77 = .ok (.iinc 5 1, 3) := by decide +kernel
theorem dX5_copyStyle_80 : decode cX5_copyStyle 80 = .ok (.iinc 6 1, 3) := by decide +kernel
theorem dX5_copyStyle_83 : decode cX5_copyStyle 83 = .ok (.goto (-56), 3) := by decide +kernel
theorem dX5_copyStyle_86 : decode cX5_copyStyle 86 = .ok (.iload 5, 2) := by decide +kernel
theorem dX5_copyStyle_88 : decode cX5_copyStyle 88 = .ok (.ireturn, 1) := by decide +kernel
theorem dX5_viewport_0 : decode cX5_viewport 0 = .ok (.iload_n 1, 1) := by decide +kernel
theorem dX5_viewport_1 : decode cX5_viewport 1 = .ok (.invokestatic 114, 3) := by decide +kernel
theorem dX5_viewport_4 : decode cX5_viewport 4 = .ok (.ifCond .eq 10, 3) := by decide +kernel
theorem dX5_viewport_7 : decode cX5_viewport 7 = .ok (.iload_n 2, 1) := by decide +kernel
theorem dX5_viewport_8 : decode cX5_viewport 8 = .ok (.invokestatic 114, 3) := by decide +kernel
theorem dX5_viewport_11 : decode cX5_viewport 11 = .ok (.ifCond .ne 13, 3) := by decide +kernel
theorem dX5_viewport_14 : decode cX5_viewport 14 = .ok (.new 59, 3) := by decide +kernel
theorem dX5_viewport_17 : decode cX5_viewport 17 = .ok (.dup, 1) := by decide +kernel
theorem dX5_viewport_18 : decode cX5_viewport 18 = .ok (.ldc 117, 2) := by decide +kernel
theorem dX5_viewport_20 : decode cX5_viewport 20 = .ok (.invokespecial 63, 3) := by decide +kernel
theorem dX5_viewport_23 : decode cX5_viewport 23 = .ok (.athrow, 1) := by decide +kernel
theorem dX5_viewport_24 : decode cX5_viewport 24 = .ok (.aload_n 0, 1) := by decide +kernel
theorem dX5_viewport_25 : decode cX5_viewport 25 = .ok (.getfield 21, 3) := by decide +kernel
theorem dX5_viewport_28 : decode cX5_viewport 28 = .ok (.iconst 1, 1) := by decide +kernel
theorem dX5_viewport_29 : decode cX5_viewport 29 = .ok (.putfield 46, 3) := by decide +kernel
theorem dX5_viewport_32 : decode cX5_viewport 32 = .ok (.aload_n 0, 1) := by decide +kernel
theorem dX5_viewport_33 : decode cX5_viewport 33 = .ok (.getfield 10, 3) := by decide +kernel
theorem dX5_viewport_36 : decode cX5_viewport 36 = .ok (.iload_n 1, 1) := by decide +kernel
theorem dX5_viewport_37 : decode cX5_viewport 37 = .ok (.putfield 119, 3) := by decide +kernel
theorem dX5_viewport_40 : decode cX5_viewport 40 = .ok (.aload_n 0, 1) := by decide +kernel
theorem dX5_viewport_41 : decode cX5_viewport 41 = .ok (.getfield 10, 3) := by decide +kernel
theorem dX5_viewport_44 : decode cX5_viewport 44 = .ok (.iload_n 2, 1) := by decide +kernel
theorem dX5_viewport_45 : decode cX5_viewport 45 = .ok (.putfield 122, 3) := by decide +kernel
theorem dX5_viewport_48 : decode cX5_viewport 48 = .ok (.return_, 1) := by decide +kernel
theorem dX5_x_0 : decode cX5_x 0 = .ok (.aload_n 0, 1) := by decide +kernel
theorem dX5_x_1 : decode cX5_x 1 = .ok (.aload_n 0, 1) := by decide +kernel
theorem dX5_x_2 : decode cX5_x 2 = .ok (.iload_n 1, 1) := by decide +kernel
theorem dX5_x_3 : decode cX5_x 3 = .ok (.invokevirtual 31, 3) := by decide +kernel
theorem dX5_x_6 : decode cX5_x 6 = .ok (.invokevirtual 125, 3) := by decide +kernel
theorem dX5_x_9 : decode cX5_x 9 = .ok (.getfield 129, 3) := by decide +kernel
theorem dX5_x_12 : decode cX5_x 12 = .ok (.ireturn, 1) := by decide +kernel
theorem dX5_y_0 : decode cX5_y 0 = .ok (.aload_n 0, 1) := by decide +kernel
theorem dX5_y_1 : decode cX5_y 1 = .ok (.aload_n 0, 1) := by decide +kernel
theorem dX5_y_2 : decode cX5_y 2 = .ok (.iload_n 1, 1) := by decide +kernel
theorem dX5_y_3 : decode cX5_y 3 = .ok (.invokevirtual 31, 3) := by decide +kernel
theorem dX5_y_6 : decode cX5_y 6 = .ok (.invokevirtual 125, 3) := by decide +kernel
theorem dX5_y_9 : decode cX5_y 9 = .ok (.getfield 132, 3) := by decide +kernel
theorem dX5_y_12 : decode cX5_y 12 = .ok (.ireturn, 1) := by decide +kernel
theorem dX5_width_0 : decode cX5_width 0 = .ok (.aload_n 0, 1) := by decide +kernel
theorem dX5_width_1 : decode cX5_width 1 = .ok (.aload_n 0, 1) := by decide +kernel
theorem dX5_width_2 : decode cX5_width 2 = .ok (.iload_n 1, 1) := by decide +kernel
theorem dX5_width_3 : decode cX5_width 3 = .ok (.invokevirtual 31, 3) := by decide +kernel
theorem dX5_width_6 : decode cX5_width 6 = .ok (.invokevirtual 125, 3) := by decide +kernel
theorem dX5_width_9 : decode cX5_width 9 = .ok (.getfield 135, 3) := by decide +kernel
theorem dX5_width_12 : decode cX5_width 12 = .ok (.ireturn, 1) := by decide +kernel
theorem dX5_height_0 : decode cX5_height 0 = .ok (.aload_n 0, 1) := by decide +kernel
theorem dX5_height_1 : decode cX5_height 1 = .ok (.aload_n 0, 1) := by decide +kernel
theorem dX5_height_2 : decode cX5_height 2 = .ok (.iload_n 1, 1) := by decide +kernel
theorem dX5_height_3 : decode cX5_height 3 = .ok (.invokevirtual 31, 3) := by decide +kernel
theorem dX5_height_6 : decode cX5_height 6 = .ok (.invokevirtual 125, 3) := by decide +kernel
theorem dX5_height_9 : decode cX5_height 9 = .ok (.getfield 138, 3) := by decide +kernel
theorem dX5_height_12 : decode cX5_height 12 = .ok (.ireturn, 1) := by decide +kernel
theorem dX5_naturalWidth_0 : decode cX5_naturalWidth 0 = .ok (.aload_n 0, 1) := by decide +kernel
theorem dX5_naturalWidth_1 : decode cX5_naturalWidth 1 = .ok (.aload_n 0, 1) := by decide +kernel
theorem dX5_naturalWidth_2 : decode cX5_naturalWidth 2 = .ok (.iload_n 1, 1) := by decide +kernel
theorem dX5_naturalWidth_3 : decode cX5_naturalWidth 3 = .ok (.invokevirtual 31, 3) := by decide +kernel
theorem dX5_naturalWidth_6 : decode cX5_naturalWidth 6 = .ok (.invokevirtual 125, 3) := by decide +kernel
theorem dX5_naturalWidth_9 : decode cX5_naturalWidth 9 = .ok (.getfield 141, 3) := by decide +kernel
theorem dX5_naturalWidth_12 : decode cX5_naturalWidth 12 = .ok (.ireturn, 1) := by decide +kernel
theorem dX5_naturalHeight_0 : decode cX5_naturalHeight 0 = .ok (.aload_n 0, 1) := by decide +kernel
theorem dX5_naturalHeight_1 : decode cX5_naturalHeight 1 = .ok (.aload_n 0, 1) := by decide +kernel
theorem dX5_naturalHeight_2 : decode cX5_naturalHeight 2 = .ok (.iload_n 1, 1) := by decide +kernel
theorem dX5_naturalHeight_3 : decode cX5_naturalHeight 3 = .ok (.invokevirtual 31, 3) := by decide +kernel
theorem dX5_naturalHeight_6 : decode cX5_naturalHeight 6 = .ok (.invokevirtual 125, 3) := by decide +kernel
theorem dX5_naturalHeight_9 : decode cX5_naturalHeight 9 = .ok (.getfield 144, 3) := by decide +kernel
theorem dX5_naturalHeight_12 : decode cX5_naturalHeight 12 = .ok (.ireturn, 1) := by decide +kernel
theorem dX5_lines_0 : decode cX5_lines 0 = .ok (.aload_n 0, 1) := by decide +kernel
theorem dX5_lines_1 : decode cX5_lines 1 = .ok (.aload_n 0, 1) := by decide +kernel
theorem dX5_lines_2 : decode cX5_lines 2 = .ok (.iload_n 1, 1) := by decide +kernel
theorem dX5_lines_3 : decode cX5_lines 3 = .ok (.invokevirtual 31, 3) := by decide +kernel
theorem dX5_lines_6 : decode cX5_lines 6 = .ok (.invokevirtual 125, 3) := by decide +kernel
theorem dX5_lines_9 : decode cX5_lines 9 = .ok (.getfield 147, 3) := by decide +kernel
theorem dX5_lines_12 : decode cX5_lines 12 = .ok (.ireturn, 1) := by decide +kernel
theorem dX5_lineOf_0 : decode cX5_lineOf 0 = .ok (.aload_n 0, 1) := by decide +kernel
theorem dX5_lineOf_1 : decode cX5_lineOf 1 = .ok (.aload_n 0, 1) := by decide +kernel
theorem dX5_lineOf_2 : decode cX5_lineOf 2 = .ok (.iload_n 1, 1) := by decide +kernel
theorem dX5_lineOf_3 : decode cX5_lineOf 3 = .ok (.invokevirtual 31, 3) := by decide +kernel
theorem dX5_lineOf_6 : decode cX5_lineOf 6 = .ok (.invokevirtual 125, 3) := by decide +kernel
theorem dX5_lineOf_9 : decode cX5_lineOf 9 = .ok (.getfield 150, 3) := by decide +kernel
theorem dX5_lineOf_12 : decode cX5_lineOf 12 = .ok (.ireturn, 1) := by decide +kernel
theorem dX5_overflow_0 : decode cX5_overflow 0 = .ok (.aload_n 0, 1) := by decide +kernel
theorem dX5_overflow_1 : decode cX5_overflow 1 = .ok (.aload_n 0, 1) := by decide +kernel
theorem dX5_overflow_2 : decode cX5_overflow 2 = .ok (.iload_n 1, 1) := by decide +kernel
theorem dX5_overflow_3 : decode cX5_overflow 3 = .ok (.invokevirtual 31, 3) := by decide +kernel
theorem dX5_overflow_6 : decode cX5_overflow 6 = .ok (.invokevirtual 125, 3) := by decide +kernel
theorem dX5_overflow_9 : decode cX5_overflow 9 = .ok (.astore_n 2, 1) := by decide +kernel
theorem dX5_overflow_10 : decode cX5_overflow 10 = .ok (.aload_n 2, 1) := by decide +kernel
theorem dX5_overflow_11 : decode cX5_overflow 11 = .ok (.getfield 153, 3) := by decide +kernel
theorem dX5_overflow_14 : decode cX5_overflow 14 = .ok (.ifCond .eq 10, 3) := by decide +kernel
theorem dX5_overflow_17 : decode cX5_overflow 17 = .ok (.aload_n 2, 1) := by decide +kernel
theorem dX5_overflow_18 : decode cX5_overflow 18 = .ok (.invokestatic 156, 3) := by decide +kernel
theorem dX5_overflow_21 : decode cX5_overflow 21 = .ok (.goto 7, 3) := by decide +kernel
theorem dX5_overflow_24 : decode cX5_overflow 24 = .ok (.aload_n 2, 1) := by decide +kernel
theorem dX5_overflow_25 : decode cX5_overflow 25 = .ok (.invokestatic 159, 3) := by decide +kernel
theorem dX5_overflow_28 : decode cX5_overflow 28 = .ok (.ireturn, 1) := by decide +kernel
theorem dX5_hit_0 : decode cX5_hit 0 = .ok (.aload_n 0, 1) := by decide +kernel
theorem dX5_hit_1 : decode cX5_hit 1 = .ok (.getfield 21, 3) := by decide +kernel
theorem dX5_hit_4 : decode cX5_hit 4 = .ok (.invokevirtual 74, 3) := by decide +kernel
theorem dX5_hit_7 : decode cX5_hit 7 = .ok (.aload_n 0, 1) := by decide +kernel
theorem dX5_hit_8 : decode cX5_hit 8 = .ok (.getfield 21, 3) := by decide +kernel
theorem dX5_hit_11 : decode cX5_hit 11 = .ok (.iload_n 1, 1) := by decide +kernel
theorem dX5_hit_12 : decode cX5_hit 12 = .ok (.iload_n 2, 1) := by decide +kernel
theorem dX5_hit_13 : decode cX5_hit 13 = .ok (.invokevirtual 162, 3) := by decide +kernel
theorem dX5_hit_16 : decode cX5_hit 16 = .ok (.ireturn, 1) := by decide +kernel
theorem dX5_widthFor_0 : decode cX5_widthFor 0 = .ok (.aload_n 0, 1) := by decide +kernel
theorem dX5_widthFor_1 : decode cX5_widthFor 1 = .ok (.iload_n 1, 1) := by decide +kernel
theorem dX5_widthFor_2 : decode cX5_widthFor 2 = .ok (.invokevirtual 31, 3) := by decide +kernel
theorem dX5_widthFor_5 : decode cX5_widthFor 5 = .ok (.astore_n 3, 1) := by decide +kernel
theorem dX5_widthFor_6 : decode cX5_widthFor 6 = .ok (.iload_n 2, 1) := by decide +kernel
theorem dX5_widthFor_7 : decode cX5_widthFor 7 = .ok (.ifCond .lt 9, 3) := by decide +kernel
theorem dX5_widthFor_10 : decode cX5_widthFor 10 = .ok (.iload_n 2, 1) := by decide +kernel
theorem dX5_widthFor_11 : decode cX5_widthFor 11 = .ok (.bipush 100, 2) := by decide +kernel
theorem dX5_widthFor_13 : decode cX5_widthFor 13 = .ok (.if_icmp .le 13, 3) := by decide +kernel
theorem dX5_widthFor_16 : decode cX5_widthFor 16 = .ok (.new 59, 3) := by decide +kernel
theorem dX5_widthFor_19 : decode cX5_widthFor 19 = .ok (.dup, 1) := by decide +kernel
theorem dX5_widthFor_20 : decode cX5_widthFor 20 = .ok (.ldc 165, 2) := by decide +kernel
theorem dX5_widthFor_22 : decode cX5_widthFor 22 = .ok (.invokespecial 63, 3) := by decide +kernel
theorem dX5_widthFor_25 : decode cX5_widthFor 25 = .ok (.athrow, 1) := by decide +kernel
theorem dX5_widthFor_26 : decode cX5_widthFor 26 = .ok (.aload_n 0, 1) := by decide +kernel
theorem dX5_widthFor_27 : decode cX5_widthFor 27 = .ok (.aload_n 3, 1) := by decide +kernel
theorem dX5_widthFor_28 : decode cX5_widthFor 28 = .ok (.invokevirtual 125, 3) := by decide +kernel
theorem dX5_widthFor_31 : decode cX5_widthFor 31 = .ok (.pop, 1) := by decide +kernel
theorem dX5_widthFor_32 : decode cX5_widthFor 32 = .ok (.aload_n 0, 1) := by decide +kernel
theorem dX5_widthFor_33 : decode cX5_widthFor 33 = .ok (.getfield 21, 3) := by decide +kernel
theorem dX5_widthFor_36 : decode cX5_widthFor 36 = .ok (.iconst 1, 1) := by decide +kernel
theorem dX5_widthFor_37 : decode cX5_widthFor 37 = .ok (.putfield 46, 3) := by decide +kernel
theorem dX5_widthFor_40 : decode cX5_widthFor 40 = .ok (.aload_n 0, 1) := by decide +kernel
theorem dX5_widthFor_41 : decode cX5_widthFor 41 = .ok (.getfield 21, 3) := by decide +kernel
theorem dX5_widthFor_44 : decode cX5_widthFor 44 = .ok (.aload_n 3, 1) := by decide +kernel
theorem dX5_widthFor_45 : decode cX5_widthFor 45 = .ok (.iload_n 2, 1) := by decide +kernel
theorem dX5_widthFor_46 : decode cX5_widthFor 46 = .ok (.invokevirtual 167, 3) := by decide +kernel
theorem dX5_widthFor_49 : decode cX5_widthFor 49 = .ok (.ireturn, 1) := by decide +kernel
theorem dX5_save_0 : decode cX5_save 0 = .ok (.iload_n 1, 1) := by decide +kernel
theorem dX5_save_1 : decode cX5_save 1 = .ok (.ifCond .lt 8, 3) := by decide +kernel
theorem dX5_save_4 : decode cX5_save 4 = .ok (.iload_n 1, 1) := by decide +kernel
theorem dX5_save_5 : decode cX5_save 5 = .ok (.iconst 2, 1) := by decide +kernel
theorem dX5_save_6 : decode cX5_save 6 = .ok (.if_icmp .lt 13, 3) := by decide +kernel
theorem dX5_save_9 : decode cX5_save 9 = .ok (.new 59, 3) := by decide +kernel
theorem dX5_save_12 : decode cX5_save 12 = .ok (.dup, 1) := by decide +kernel
theorem dX5_save_13 : decode cX5_save 13 = .ok (.ldc 171, 2) := by decide +kernel
theorem dX5_save_15 : decode cX5_save 15 = .ok (.invokespecial 63, 3) := by decide +kernel
theorem dX5_save_18 : decode cX5_save 18 = .ok (.athrow, 1) := by decide +kernel
theorem dX5_save_19 : decode cX5_save 19 = .ok (.aload_n 0, 1) := by decide +kernel
theorem dX5_save_20 : decode cX5_save 20 = .ok (.getfield 27, 3) := by decide +kernel
theorem dX5_save_23 : decode cX5_save 23 = .ok (.iload_n 1, 1) := by decide +kernel
theorem dX5_save_24 : decode cX5_save 24 = .ok (.aaload, 1) := by decide +kernel
theorem dX5_save_25 : decode cX5_save 25 = .ok (.astore_n 2, 1) := by decide +kernel
theorem dX5_save_26 : decode cX5_save 26 = .ok (.aload_n 2, 1) := by decide +kernel
theorem dX5_save_27 : decode cX5_save 27 = .ok (.ifnonnull 18, 3) := by decide +kernel
theorem dX5_save_30 : decode cX5_save 30 = .ok (.new 25, 3) := by decide +kernel
theorem dX5_save_33 : decode cX5_save 33 = .ok (.dup, 1) := by decide +kernel
theorem dX5_save_34 : decode cX5_save 34 = .ok (.invokespecial 173, 3) := by decide +kernel
theorem dX5_save_37 : decode cX5_save 37 = .ok (.astore_n 2, 1) := by decide +kernel
theorem dX5_save_38 : decode cX5_save 38 = .ok (.aload_n 0, 1) := by decide +kernel
theorem dX5_save_39 : decode cX5_save 39 = .ok (.getfield 27, 3) := by decide +kernel
theorem dX5_save_42 : decode cX5_save 42 = .ok (.iload_n 1, 1) := by decide +kernel
theorem dX5_save_43 : decode cX5_save 43 = .ok (.aload_n 2, 1) := by decide +kernel
theorem dX5_save_44 : decode cX5_save 44 = .ok (.aastore, 1) := by decide +kernel
theorem dX5_save_45 : decode cX5_save 45 = .ok (.aload_n 0, 1) := by decide +kernel
theorem dX5_save_46 : decode cX5_save 46 = .ok (.getfield 10, 3) := by decide +kernel
theorem dX5_save_49 : decode cX5_save 49 = .ok (.aload_n 2, 1) := by decide +kernel
theorem dX5_save_50 : decode cX5_save 50 = .ok (.invokevirtual 174, 3) := by decide +kernel
theorem dX5_save_53 : decode cX5_save 53 = .ok (.return_, 1) := by decide +kernel
theorem dX5_restore_0 : decode cX5_restore 0 = .ok (.iload_n 1, 1) := by decide +kernel
theorem dX5_restore_1 : decode cX5_restore 1 = .ok (.ifCond .lt 8, 3) := by decide +kernel
theorem dX5_restore_4 : decode cX5_restore 4 = .ok (.iload_n 1, 1) := by decide +kernel
theorem dX5_restore_5 : decode cX5_restore 5 = .ok (.iconst 2, 1) := by decide +kernel
theorem dX5_restore_6 : decode cX5_restore 6 = .ok (.if_icmp .lt 13, 3) := by decide +kernel
theorem dX5_restore_9 : decode cX5_restore 9 = .ok (.new 59, 3) := by decide +kernel
theorem dX5_restore_12 : decode cX5_restore 12 = .ok (.dup, 1) := by decide +kernel
theorem dX5_restore_13 : decode cX5_restore 13 = .ok (.ldc 171, 2) := by decide +kernel
theorem dX5_restore_15 : decode cX5_restore 15 = .ok (.invokespecial 63, 3) := by decide +kernel
theorem dX5_restore_18 : decode cX5_restore 18 = .ok (.athrow, 1) := by decide +kernel
theorem dX5_restore_19 : decode cX5_restore 19 = .ok (.aload_n 0, 1) := by decide +kernel
theorem dX5_restore_20 : decode cX5_restore 20 = .ok (.getfield 27, 3) := by decide +kernel
theorem dX5_restore_23 : decode cX5_restore 23 = .ok (.iload_n 1, 1) := by decide +kernel
theorem dX5_restore_24 : decode cX5_restore 24 = .ok (.aaload, 1) := by decide +kernel
theorem dX5_restore_25 : decode cX5_restore 25 = .ok (.astore_n 2, 1) := by decide +kernel
theorem dX5_restore_26 : decode cX5_restore 26 = .ok (.aload_n 2, 1) := by decide +kernel
theorem dX5_restore_27 : decode cX5_restore 27 = .ok (.ifnonnull 13, 3) := by decide +kernel
theorem dX5_restore_30 : decode cX5_restore 30 = .ok (.new 39, 3) := by decide +kernel
theorem dX5_restore_33 : decode cX5_restore 33 = .ok (.dup, 1) := by decide +kernel
theorem dX5_restore_34 : decode cX5_restore 34 = .ok (.ldc 178, 2) := by decide +kernel
theorem dX5_restore_36 : decode cX5_restore 36 = .ok (.invokespecial 43, 3) := by decide +kernel
theorem dX5_restore_39 : decode cX5_restore 39 = .ok (.athrow, 1) := by decide +kernel
theorem dX5_restore_40 : decode cX5_restore 40 = .ok (.aload_n 0, 1) := by decide +kernel
theorem dX5_restore_41 : decode cX5_restore 41 = .ok (.getfield 21, 3) := by decide +kernel
theorem dX5_restore_44 : decode cX5_restore 44 = .ok (.iconst 1, 1) := by decide +kernel
theorem dX5_restore_45 : decode cX5_restore 45 = .ok (.putfield 46, 3) := by decide +kernel
theorem dX5_restore_48 : decode cX5_restore 48 = .ok (.aload_n 0, 1) := by decide +kernel
theorem dX5_restore_49 : decode cX5_restore 49 = .ok (.getfield 10, 3) := by decide +kernel
theorem dX5_restore_52 : decode cX5_restore 52 = .ok (.aload_n 2, 1) := by decide +kernel
theorem dX5_restore_53 : decode cX5_restore 53 = .ok (.invokevirtual 180, 3) := by decide +kernel
theorem dX5_restore_56 : decode cX5_restore 56 = .ok (.return_, 1) := by decide +kernel
theorem dX5_existing_0 : decode cX5_existing 0 = .ok (.aload_n 0, 1) := by decide +kernel
theorem dX5_existing_1 : decode cX5_existing 1 = .ok (.getfield 10, 3) := by decide +kernel
theorem dX5_existing_4 : decode cX5_existing 4 = .ok (.iload_n 1, 1) := by decide +kernel
theorem dX5_existing_5 : decode cX5_existing 5 = .ok (.invokevirtual 183, 3) := by decide +kernel
theorem dX5_existing_8 : decode cX5_existing 8 = .ok (.astore_n 2, 1) := by decide +kernel
theorem dX5_existing_9 : decode cX5_existing 9 = .ok (.aload_n 2, 1) := by decide +kernel
theorem dX5_existing_10 : decode cX5_existing 10 = .ok (.ifnull 10, 3) := by decide +kernel
theorem dX5_existing_13 : decode cX5_existing 13 = .ok (.aload_n 2, 1) := by decide +kernel
theorem dX5_existing_14 : decode cX5_existing 14 = .ok (.getfield 186, 3) := by decide +kernel
theorem dX5_existing_17 : decode cX5_existing 17 = .ok (.ifCond .ne 13, 3) := by decide +kernel
theorem dX5_existing_20 : decode cX5_existing 20 = .ok (.new 189, 3) := by decide +kernel
theorem dX5_existing_23 : decode cX5_existing 23 = .ok (.dup, 1) := by decide +kernel
theorem dX5_existing_24 : decode cX5_existing 24 = .ok (.ldc 191, 2) := by decide +kernel
theorem dX5_existing_26 : decode cX5_existing 26 = .ok (.invokespecial 193, 3) := by decide +kernel
theorem dX5_existing_29 : decode cX5_existing 29 = .ok (.athrow, 1) := by decide +kernel
theorem dX5_existing_30 : decode cX5_existing 30 = .ok (.aload_n 2, 1) := by decide +kernel
theorem dX5_existing_31 : decode cX5_existing 31 = .ok (.areturn, 1) := by decide +kernel
theorem dX5_laidOut_0 : decode cX5_laidOut 0 = .ok (.aload_n 0, 1) := by decide +kernel
theorem dX5_laidOut_1 : decode cX5_laidOut 1 = .ok (.getfield 21, 3) := by decide +kernel
theorem dX5_laidOut_4 : decode cX5_laidOut 4 = .ok (.invokevirtual 74, 3) := by decide +kernel
theorem dX5_laidOut_7 : decode cX5_laidOut 7 = .ok (.aload_n 1, 1) := by decide +kernel
theorem dX5_laidOut_8 : decode cX5_laidOut 8 = .ok (.getfield 194, 3) := by decide +kernel
theorem dX5_laidOut_11 : decode cX5_laidOut 11 = .ok (.ifCond .ne 13, 3) := by decide +kernel
theorem dX5_laidOut_14 : decode cX5_laidOut 14 = .ok (.new 39, 3) := by decide +kernel
theorem dX5_laidOut_17 : decode cX5_laidOut 17 = .ok (.dup, 1) := by decide +kernel
theorem dX5_laidOut_18 : decode cX5_laidOut 18 = .ok (.ldc 197, 2) := by decide +kernel
theorem dX5_laidOut_20 : decode cX5_laidOut 20 = .ok (.invokespecial 43, 3) := by decide +kernel
theorem dX5_laidOut_23 : decode cX5_laidOut 23 = .ok (.athrow, 1) := by decide +kernel
theorem dX5_laidOut_24 : decode cX5_laidOut 24 = .ok (.aload_n 1, 1) := by decide +kernel
theorem dX5_laidOut_25 : decode cX5_laidOut 25 = .ok (.areturn, 1) := by decide +kernel
theorem dX5_isProperty_0 : decode cX5_isProperty 0 = .ok (.iload_n 0, 1) := by decide +kernel
theorem dX5_isProperty_1 : decode cX5_isProperty 1 = .ok (.ifCond .lt 13, 3) := by decide +kernel
theorem dX5_isProperty_4 : decode cX5_isProperty 4 = .ok (.iload_n 0, 1) := by decide +kernel
theorem dX5_isProperty_5 : decode cX5_isProperty 5 = .ok (.bipush 20, 2) := by decide +kernel
theorem dX5_isProperty_7 : decode cX5_isProperty 7 = .ok (.if_icmp .ge 7, 3) := by decide +kernel
theorem dX5_isProperty_10 : decode cX5_isProperty 10 = .ok (.iconst 1, 1) := by decide +kernel
theorem dX5_isProperty_11 : decode cX5_isProperty 11 = .ok (.goto 4, 3) := by decide +kernel
theorem dX5_isProperty_14 : decode cX5_isProperty 14 = .ok (.iconst 0, 1) := by decide +kernel
theorem dX5_isProperty_15 : decode cX5_isProperty 15 = .ok (.ireturn, 1) := by decide +kernel
theorem dX5_isViewportLength_0 : decode cX5_isViewportLength 0 = .ok (.iload_n 0, 1) := by decide +kernel
theorem dX5_isViewportLength_1 : decode cX5_isViewportLength 1 = .ok (.ifCond .lt 14, 3) := by decide +kernel
theorem dX5_isViewportLength_4 : decode cX5_isViewportLength 4 = .ok (.iload_n 0, 1) := by decide +kernel
theorem dX5_isViewportLength_5 : decode cX5_isViewportLength 5 = .ok (.sipush 2000, 3) := by decide +kernel
theorem dX5_isViewportLength_8 : decode cX5_isViewportLength 8 = .ok (.if_icmp .gt 7, 3) := by decide +kernel
theorem dX5_isViewportLength_11 : decode cX5_isViewportLength 11 = .ok (.iconst 1, 1) := by decide +kernel
theorem dX5_isViewportLength_12 : decode cX5_isViewportLength 12 = .ok (.goto 4, 3) := by decide +kernel
theorem dX5_isViewportLength_15 : decode cX5_isViewportLength 15 = .ok (.iconst 0, 1) := by decide +kernel
theorem dX5_isViewportLength_16 : decode cX5_isViewportLength 16 = .ok (.ireturn, 1) := by decide +kernel
theorem dX5_limited_0 : decode cX5_limited 0 = .ok (.iload_n 0, 1) := by decide +kernel
theorem dX5_limited_1 : decode cX5_limited 1 = .ok (.iload_n 2, 1) := by decide +kernel
theorem dX5_limited_2 : decode cX5_limited 2 = .ok (.if_icmp .ge 7, 3) := by decide +kernel
theorem dX5_limited_5 : decode cX5_limited 5 = .ok (.iload_n 0, 1) := by decide +kernel
theorem dX5_limited_6 : decode cX5_limited 6 = .ok (.goto 4, 3) := by decide +kernel
theorem dX5_limited_9 : decode cX5_limited 9 = .ok (.iload_n 2, 1) := by decide +kernel
theorem dX5_limited_10 : decode cX5_limited 10 = .ok (.istore_n 3, 1) := by decide +kernel
theorem dX5_limited_11 : decode cX5_limited 11 = .ok (.iload_n 3, 1) := by decide +kernel
theorem dX5_limited_12 : decode cX5_limited 12 = .ok (.iload_n 1, 1) := by decide +kernel
theorem dX5_limited_13 : decode cX5_limited 13 = .ok (.if_icmp .le 7, 3) := by decide +kernel
theorem dX5_limited_16 : decode cX5_limited 16 = .ok (.iload_n 3, 1) := by decide +kernel
theorem dX5_limited_17 : decode cX5_limited 17 = .ok (.goto 4, 3) := by decide +kernel
theorem dX5_limited_20 : decode cX5_limited 20 = .ok (.iload_n 1, 1) := by decide +kernel
theorem dX5_limited_21 : decode cX5_limited 21 = .ok (.ireturn, 1) := by decide +kernel
theorem dX5_gaps_0 : decode cX5_gaps 0 = .ok (.iload_n 0, 1) := by decide +kernel
theorem dX5_gaps_1 : decode cX5_gaps 1 = .ok (.iconst 1, 1) := by decide +kernel
theorem dX5_gaps_2 : decode cX5_gaps 2 = .ok (.if_icmp .le 11, 3) := by decide +kernel
theorem dX5_gaps_5 : decode cX5_gaps 5 = .ok (.iload_n 0, 1) := by decide +kernel
theorem dX5_gaps_6 : decode cX5_gaps 6 = .ok (.iconst 1, 1) := by decide +kernel
theorem dX5_gaps_7 : decode cX5_gaps 7 = .ok (.isub, 1) := by decide +kernel
theorem dX5_gaps_8 : decode cX5_gaps 8 = .ok (.iload_n 1, 1) := by decide +kernel
theorem dX5_gaps_9 : decode cX5_gaps 9 = .ok (.imul, 1) := by decide +kernel
theorem dX5_gaps_10 : decode cX5_gaps 10 = .ok (.goto 4, 3) := by decide +kernel
theorem dX5_gaps_13 : decode cX5_gaps 13 = .ok (.iconst 0, 1) := by decide +kernel
theorem dX5_gaps_14 : decode cX5_gaps 14 = .ok (.ireturn, 1) := by decide +kernel
theorem dX6_init_0 : decode cX6_init 0 = .ok (.aload_n 0, 1) := by decide +kernel
theorem dX6_init_1 : decode cX6_init 1 = .ok (.invokespecial 1, 3) := by decide +kernel
theorem dX6_init_4 : decode cX6_init 4 = .ok (.aload_n 0, 1) := by decide +kernel
theorem dX6_init_5 : decode cX6_init 5 = .ok (.sipush 843, 3) := by decide +kernel
theorem dX6_init_8 : decode cX6_init 8 = .ok (.newarray .int, 2) := by decide +kernel
theorem dX6_init_10 : decode cX6_init 10 = .ok (.putfield 7, 3) := by decide +kernel
theorem dX6_init_13 : decode cX6_init 13 = .ok (.aload_n 0, 1) := by decide +kernel
theorem dX6_init_14 : decode cX6_init 14 = .ok (.sipush 1686, 3) := by decide +kernel
theorem dX6_init_17 : decode cX6_init 17 = .ok (.newarray .int, 2) := by decide +kernel
theorem dX6_init_19 : decode cX6_init 19 = .ok (.putfield 13, 3) := by decide +kernel
theorem dX6_init_22 : decode cX6_init 22 = .ok (.aload_n 0, 1) := by decide +kernel
theorem dX6_init_23 : decode cX6_init 23 = .ok (.iconst 2, 1) := by decide +kernel
theorem dX6_init_24 : decode cX6_init 24 = .ok (.newarray .boolean, 2) := by decide +kernel
theorem dX6_init_26 : decode cX6_init 26 = .ok (.putfield 16, 3) := by decide +kernel
theorem dX6_init_29 : decode cX6_init 29 = .ok (.aload_n 0, 1) := by decide +kernel
theorem dX6_init_30 : decode cX6_init 30 = .ok (.bipush 40, 2) := by decide +kernel
theorem dX6_init_32 : decode cX6_init 32 = .ok (.newarray .int, 2) := by decide +kernel
theorem dX6_init_34 : decode cX6_init 34 = .ok (.putfield 20, 3) := by decide +kernel
theorem dX6_init_37 : decode cX6_init 37 = .ok (.aload_n 0, 1) := by decide +kernel
theorem dX6_init_38 : decode cX6_init 38 = .ok (.bipush 40, 2) := by decide +kernel
theorem dX6_init_40 : decode cX6_init 40 = .ok (.newarray .boolean, 2) := by decide +kernel
theorem dX6_init_42 : decode cX6_init 42 = .ok (.putfield 23, 3) := by decide +kernel
theorem dX6_init_45 : decode cX6_init 45 = .ok (.aload_n 0, 1) := by decide +kernel
theorem dX6_init_46 : decode cX6_init 46 = .ok (.bipush 80, 2) := by decide +kernel
theorem dX6_init_48 : decode cX6_init 48 = .ok (.newarray .int, 2) := by decide +kernel
theorem dX6_init_50 : decode cX6_init 50 = .ok (.putfield 26, 3) := by decide +kernel
theorem dX6_init_53 : decode cX6_init 53 = .ok (.aload_n 0, 1) := by decide +kernel
theorem dX6_init_54 : decode cX6_init 54 = .ok (.bipush 80, 2) := by decide +kernel
theorem dX6_init_56 : decode cX6_init 56 = .ok (.newarray .int, 2) := by decide +kernel
theorem dX6_init_58 : decode cX6_init 58 = .ok (.putfield 29, 3) := by decide +kernel
theorem dX6_init_61 : decode cX6_init 61 = .ok (.aload_n 0, 1) := by decide +kernel
theorem dX6_init_62 : decode cX6_init 62 = .ok (.bipush 80, 2) := by decide +kernel
theorem dX6_init_64 : decode cX6_init 64 = .ok (.newarray .int, 2) := by decide +kernel
theorem dX6_init_66 : decode cX6_init 66 = .ok (.putfield 32, 3) := by decide +kernel
theorem dX6_init_69 : decode cX6_init 69 = .ok (.aload_n 0, 1) := by decide +kernel
theorem dX6_init_70 : decode cX6_init 70 = .ok (.bipush 40, 2) := by decide +kernel
theorem dX6_init_72 : decode cX6_init 72 = .ok (.newarray .int, 2) := by decide +kernel
theorem dX6_init_74 : decode cX6_init 74 = .ok (.putfield 35, 3) := by decide +kernel
theorem dX6_init_77 : decode cX6_init 77 = .ok (.aload_n 0, 1) := by decide +kernel
theorem dX6_init_78 : decode cX6_init 78 = .ok (.bipush 40, 2) := by decide +kernel
theorem dX6_init_80 : decode cX6_init 80 = .ok (.newarray .int, 2) := by decide +kernel
theorem dX6_init_82 : decode cX6_init 82 = .ok (.putfield 38, 3) := by decide +kernel
theorem dX6_init_85 : decode cX6_init 85 = .ok (.aload_n 0, 1) := by decide +kernel
theorem dX6_init_86 : decode cX6_init 86 = .ok (.bipush 40, 2) := by decide +kernel
theorem dX6_init_88 : decode cX6_init 88 = .ok (.newarray .boolean, 2) := by decide +kernel
theorem dX6_init_90 : decode cX6_init 90 = .ok (.putfield 41, 3) := by decide +kernel
theorem dX6_init_93 : decode cX6_init 93 = .ok (.aload_n 0, 1) := by decide +kernel
theorem dX6_init_94 : decode cX6_init 94 = .ok (.bipush 40, 2) := by decide +kernel
theorem dX6_init_96 : decode cX6_init 96 = .ok (.newarray .long, 2) := by decide +kernel
theorem dX6_init_98 : decode cX6_init 98 = .ok (.putfield 44, 3) := by decide +kernel
theorem dX6_init_101 : decode cX6_init 101 = .ok (.aload_n 0, 1) := by decide +kernel
theorem dX6_init_102 : decode cX6_init 102 = .ok (.bipush 40, 2) := by decide +kernel
theorem dX6_init_104 : decode cX6_init 104 = .ok (.newarray .int, 2) := by decide +kernel
theorem dX6_init_106 : decode cX6_init 106 = .ok (.putfield 48, 3) := by decide +kernel
theorem dX6_init_109 : decode cX6_init 109 = .ok (.aload_n 0, 1) := by decide +kernel
theorem dX6_init_110 : decode cX6_init 110 = .ok (.bipush 41, 2) := by decide +kernel
theorem dX6_init_112 : decode cX6_init 112 = .ok (.newarray .int, 2) := by decide +kernel
theorem dX6_init_114 : decode cX6_init 114 = .ok (.putfield 51, 3) := by decide +kernel
theorem dX6_init_117 : decode cX6_init 117 = .ok (.aload_n 0, 1) := by decide +kernel
theorem dX6_init_118 : decode cX6_init 118 = .ok (.getfield 7, 3) := by decide +kernel
theorem dX6_init_121 : decode cX6_init 121 = .ok (.iconst 1, 1) := by decide +kernel
theorem dX6_init_122 : decode cX6_init 122 = .ok (.sipush 800, 3) := by decide +kernel
theorem dX6_init_125 : decode cX6_init 125 = .ok (.iastore, 1) := by decide +kernel
theorem dX6_init_126 : decode cX6_init 126 = .ok (.aload_n 0, 1) := by decide +kernel
theorem dX6_init_127 : decode cX6_init 127 = .ok (.getfield 7, 3) := by decide +kernel
theorem dX6_init_130 : decode cX6_init 130 = .ok (.iconst 2, 1) := by decide +kernel
theorem dX6_init_131 : decode cX6_init 131 = .ok (.sipush 600, 3) := by decide +kernel
theorem dX6_init_134 : decode cX6_init 134 = .ok (.iastore, 1) := by decide +kernel
theorem dX6_init_135 : decode cX6_init 135 = .ok (.aload_n 0, 1) := by decide +kernel
theorem dX6_init_136 : decode cX6_init 136 = .ok (.iconst (-1), 1) := by decide +kernel
theorem dX6_init_137 : decode cX6_init 137 = .ok (.invokevirtual 54, 3) := by decide +kernel
theorem dX6_init_140 : decode cX6_init 140 = .ok (.pop, 1) := by decide +kernel
theorem dX6_init_141 : decode cX6_init 141 = .ok (.return_, 1) := by decide +kernel
theorem dX6_thrown_0 : decode cX6_thrown 0 = .ok (.aload_n 0, 1) := by decide +kernel
theorem dX6_thrown_1 : decode cX6_thrown 1 = .ok (.getfield 58, 3) := by decide +kernel
theorem dX6_thrown_4 : decode cX6_thrown 4 = .ok (.ireturn, 1) := by decide +kernel
theorem dX6_in_0 : decode cX6_in 0 = .ok (.iload_n 0, 1) := by decide +kernel
theorem dX6_in_1 : decode cX6_in 1 = .ok (.iload_n 1, 1) := by decide +kernel
theorem dX6_in_2 : decode cX6_in 2 = .ok (.if_icmp .lt 12, 3) := by decide +kernel
theorem dX6_in_5 : decode cX6_in 5 = .ok (.iload_n 0, 1) := by decide +kernel
theorem dX6_in_6 : decode cX6_in 6 = .ok (.iload_n 2, 1) := by decide +kernel
theorem dX6_in_7 : decode cX6_in 7 = .ok (.if_icmp .gt 7, 3) := by decide +kernel
theorem dX6_in_10 : decode cX6_in 10 = .ok (.iconst 1, 1) := by decide +kernel
theorem dX6_in_11 : decode cX6_in 11 = .ok (.goto 4, 3) := by decide +kernel
theorem dX6_in_14 : decode cX6_in 14 = .ok (.iconst 0, 1) := by decide +kernel
theorem dX6_in_15 : decode cX6_in 15 = .ok (.ireturn, 1) := by decide +kernel
theorem dX6_low_0 : decode cX6_low 0 = .ok (.iload_n 0, 1) := by decide +kernel
theorem dX6_low_1 : decode cX6_low 1 = .ok (.tableswitch 64 7 17 #[59, 64, 64, 59, 59, 64, 64, 64, 64, 59, 61], 59) := by decide +kernel
theorem dX6_low_60 : decode cX6_low 60 = .ok (.iconst (-1), 1) := by decide +kernel
theorem dX6_low_61 : decode cX6_low 61 = .ok (.ireturn, 1) := by decide +kernel
theorem dX6_low_62 : decode cX6_low 62 = .ok (.bipush (-9), 2) := by decide +kernel
theorem dX6_low_64 : decode cX6_low 64 = .ok (.ireturn, 1) := by decide +kernel
theorem dX6_low_65 : decode cX6_low 65 = .ok (.iconst 0, 1) := by decide +kernel
theorem dX6_low_66 : decode cX6_low 66 = .ok (.ireturn, 1) := by decide +kernel
theorem dX6_high_0 : decode cX6_high 0 = .ok (.iload_n 0, 1) := by decide +kernel
theorem dX6_high_1 : decode cX6_high 1 = .ok (.tableswitch 115 0 19 #[95, 95, 97, 99, 101, 101, 101, 115, 104, 104, 115, 115, 115, 115, 107, 107, 99, 104, 95, 111], 95) := by decide +kernel
theorem dX6_high_96 : decode cX6_high 96 = .ok (.iconst 1, 1) := by decide +kernel
theorem dX6_high_97 : decode cX6_high 97 = .ok (.ireturn, 1) := by decide +kernel
theorem dX6_high_98 : decode cX6_high 98 = .ok (.iconst 4, 1) := by decide +kernel
theorem dX6_high_99 : decode cX6_high 99 = .ok (.ireturn, 1) := by decide +kernel
theorem dX6_high_100 : decode cX6_high 100 = .ok (.iconst 3, 1) := by decide +kernel
theorem dX6_high_101 : decode cX6_high 101 = .ok (.ireturn, 1) := by decide +kernel
theorem dX6_high_102 : decode cX6_high 102 = .ok (.bipush 50, 2) := by decide +kernel
theorem dX6_high_104 : decode cX6_high 104 = .ok (.ireturn, 1) := by decide +kernel
theorem dX6_high_105 : decode cX6_high 105 = .ok (.bipush 9, 2) := by decide +kernel
theorem dX6_high_107 : decode cX6_high 107 = .ok (.ireturn, 1) := by decide +kernel
theorem dX6_high_108 : decode cX6_high 108 = .ok (.sipush 10000, 3) := by decide +kernel
theorem dX6_high_111 : decode cX6_high 111 = .ok (.ireturn, 1) := by decide +kernel
theorem dX6_high_112 : decode cX6_high 112 = .ok (.sipush 500, 3) := by decide +kernel
theorem dX6_high_115 : decode cX6_high 115 = .ok (.ireturn, 1) := by decide +kernel
theorem dX6_high_116 : decode cX6_high 116 = .ok (.sipush 1000, 3) := by decide +kernel
theorem dX6_high_119 : decode cX6_high 119 = .ok (.ireturn, 1) := by decide +kernel
theorem dX6_firstOf_0 : decode cX6_firstOf 0 = .ok (.iload_n 0, 1) := by decide +kernel
theorem dX6_firstOf_1 : decode cX6_firstOf 1 = .ok (.tableswitch 81 3 16 #[71, 81, 81, 81, 73, 81, 75, 73, 73, 81, 81, 77, 77, 73], 71) := by decide +kernel
theorem dX6_firstOf_72 : decode cX6_firstOf 72 = .ok (.iconst 3, 1) := by decide +kernel
theorem dX6_firstOf_73 : decode cX6_firstOf 73 = .ok (.ireturn, 1) := by decide +kernel
theorem dX6_firstOf_74 : decode cX6_firstOf 74 = .ok (.iconst (-1), 1) := by decide +kernel
theorem dX6_firstOf_75 : decode cX6_firstOf 75 = .ok (.ireturn, 1) := by decide +kernel
theorem dX6_firstOf_76 : decode cX6_firstOf 76 = .ok (.iconst 1, 1) := by decide +kernel
theorem dX6_firstOf_77 : decode cX6_firstOf 77 = .ok (.ireturn, 1) := by decide +kernel
theorem dX6_firstOf_78 : decode cX6_firstOf 78 = .ok (.sipush 10000, 3) := by decide +kernel
theorem dX6_firstOf_81 : decode cX6_firstOf 81 = .ok (.ireturn, 1) := by decide +kernel
theorem dX6_firstOf_82 : decode cX6_firstOf 82 = .ok (.iconst 0, 1) := by decide +kernel
theorem dX6_firstOf_83 : decode cX6_firstOf 83 = .ok (.ireturn, 1) := by decide +kernel
theorem dX6_of_0 : decode cX6_of 0 = .ok (.aload_n 0, 1) := by decide +kernel
theorem dX6_of_1 : decode cX6_of 1 = .ok (.getfield 7, 3) := by decide +kernel
theorem dX6_of_4 : decode cX6_of 4 = .ok (.bipush 43, 2) := by decide +kernel
theorem dX6_of_6 : decode cX6_of 6 = .ok (.bipush 20, 2) := by decide +kernel
theorem dX6_of_8 : decode cX6_of 8 = .ok (.iload_n 1, 1) := by decide +kernel
theorem dX6_of_9 : decode cX6_of 9 = .ok (.imul, 1) := by decide +kernel
theorem dX6_of_10 : decode cX6_of 10 = .ok (.iadd, 1) := by decide +kernel
theorem dX6_of_11 : decode cX6_of 11 = .ok (.iload_n 2, 1) := by decide +kernel
theorem dX6_of_12 : decode cX6_of 12 = .ok (.iadd, 1) := by decide +kernel
theorem dX6_of_13 : decode cX6_of 13 = .ok (.iaload, 1) := by decide +kernel
theorem dX6_of_14 : decode cX6_of 14 = .ok (.ireturn, 1) := by decide +kernel
theorem dX6_make_0 : decode cX6_make 0 = .ok (.aload_n 0, 1) := by decide +kernel
theorem dX6_make_1 : decode cX6_make 1 = .ok (.getfield 7, 3) := by decide +kernel
theorem dX6_make_4 : decode cX6_make 4 = .ok (.iconst 0, 1) := by decide +kernel
theorem dX6_make_5 : decode cX6_make 5 = .ok (.iaload, 1) := by decide +kernel
theorem dX6_make_6 : decode cX6_make 6 = .ok (.istore_n 2, 1) := by decide +kernel
theorem dX6_make_7 : decode cX6_make 7 = .ok (.aload_n 0, 1) := by decide +kernel
theorem dX6_make_8 : decode cX6_make 8 = .ok (.getfield 7, 3) := by decide +kernel
theorem dX6_make_11 : decode cX6_make 11 = .ok (.iconst 3, 1) := by decide +kernel
theorem dX6_make_12 : decode cX6_make 12 = .ok (.iload_n 2, 1) := by decide +kernel
theorem dX6_make_13 : decode cX6_make 13 = .ok (.iadd, 1) := by decide +kernel
theorem dX6_make_14 : decode cX6_make 14 = .ok (.iload_n 1, 1) := by decide +kernel
theorem dX6_make_15 : decode cX6_make 15 = .ok (.iastore, 1) := by decide +kernel
theorem dX6_make_16 : decode cX6_make 16 = .ok (.iconst 0, 1) := by decide +kernel
theorem dX6_make_17 : decode cX6_make 17 = .ok (.istore_n 3, 1) := by decide +kernel
theorem dX6_make_18 : decode cX6_make 18 = .ok (.iload_n 3, 1) := by decide +kernel
theorem dX6_make_19 : decode cX6_make 19 = .ok (.bipush 20, 2) := by decide +kernel
theorem dX6_make_21 : decode cX6_make 21 = .ok (.if_icmp .ge 27, 3) := by decide +kernel
theorem dX6_make_24 : decode cX6_make 24 = .ok (.aload_n 0, 1) := by decide +kernel
theorem dX6_make_25 : decode cX6_make 25 = .ok (.getfield 7, 3) := by decide +kernel
theorem dX6_make_28 : decode cX6_make 28 = .ok (.bipush 43, 2) := by decide +kernel
theorem dX6_make_30 : decode cX6_make 30 = .ok (.bipush 20, 2) := by decide +kernel
theorem dX6_make_32 : decode cX6_make 32 = .ok (.iload_n 2, 1) := by decide +kernel
theorem dX6_make_33 : decode cX6_make 33 = .ok (.imul, 1) := by decide +kernel
theorem dX6_make_34 : decode cX6_make 34 = .ok (.iadd, 1) := by decide +kernel
theorem dX6_make_35 : decode cX6_make 35 = .ok (.iload_n 3, 1) := by decide +kernel
theorem dX6_make_36 : decode cX6_make 36 = .ok (.iadd, 1) := by decide +kernel
theorem dX6_make_37 : decode cX6_make 37 = .ok (.iload_n 3, 1) := by decide +kernel
theorem dX6_make_38 : decode cX6_make 38 = .ok (.invokestatic 62, 3) := by decide +kernel
theorem dX6_make_41 : decode cX6_make 41 = .ok (.iastore, 1) := by decide +kernel
theorem dX6_make_42 : decode cX6_make 42 = .ok (.iinc 3 1, 3) := by decide +kernel
theorem dX6_make_45 : decode cX6_make 45 = .ok (.goto (-27), 3) := by decide +kernel
theorem dX6_make_48 : decode cX6_make 48 = .ok (.aload_n 0, 1) := by decide +kernel
theorem dX6_make_49 : decode cX6_make 49 = .ok (.getfield 7, 3) := by decide +kernel
theorem dX6_make_52 : decode cX6_make 52 = .ok (.iconst 0, 1) := by decide +kernel
theorem dX6_make_53 : decode cX6_make 53 = .ok (.dup2, 1) := by decide +kernel
theorem dX6_make_54 : decode cX6_make 54 = .ok (.iaload, 1) := by decide +kernel
theorem dX6_make_55 : decode cX6_make 55 = .ok (.iconst 1, 1) := by decide +kernel
theorem dX6_make_56 : decode cX6_make 56 = .ok (.iadd, 1) := by decide +kernel
theorem dX6_make_57 : decode cX6_make 57 = .ok (.iastore, 1) := by decide +kernel
theorem dX6_make_58 : decode cX6_make 58 = .ok (.iload_n 2, 1) := by decide +kernel
theorem dX6_make_59 : decode cX6_make 59 = .ok (.ireturn, 1) := by decide +kernel
theorem dX6_isBox_0 : decode cX6_isBox 0 = .ok (.iload_n 1, 1) := by decide +kernel
theorem dX6_isBox_1 : decode cX6_isBox 1 = .ok (.iconst 0, 1) := by decide +kernel
theorem dX6_isBox_2 : decode cX6_isBox 2 = .ok (.aload_n 0, 1) := by decide +kernel
theorem dX6_isBox_3 : decode cX6_isBox 3 = .ok (.getfield 7, 3) := by decide +kernel
theorem dX6_isBox_6 : decode cX6_isBox 6 = .ok (.iconst 0, 1) := by decide +kernel
theorem dX6_isBox_7 : decode cX6_isBox 7 = .ok (.iaload, 1) := by decide +kernel
theorem dX6_isBox_8 : decode cX6_isBox 8 = .ok (.iconst 1, 1) := by decide +kernel
theorem dX6_isBox_9 : decode cX6_isBox 9 = .ok (.isub, 1) := by decide +kernel
theorem dX6_isBox_10 : decode cX6_isBox 10 = .ok (.invokestatic 65, 3) := by decide +kernel
theorem dX6_isBox_13 : decode cX6_isBox 13 = .ok (.ifCond .eq 19, 3) := by decide +kernel
theorem dX6_isBox_16 : decode cX6_isBox 16 = .ok (.aload_n 0, 1) := by decide +kernel
theorem dX6_isBox_17 : decode cX6_isBox 17 = .ok (.getfield 7, 3) := by decide +kernel
theorem dX6_isBox_20 : decode cX6_isBox 20 = .ok (.iconst 3, 1) := by decide +kernel
theorem dX6_isBox_21 : decode cX6_isBox 21 = .ok (.iload_n 1, 1) := by decide +kernel
theorem dX6_isBox_22 : decode cX6_isBox 22 = .ok (.iadd, 1) := by decide +kernel
theorem dX6_isBox_23 : decode cX6_isBox 23 = .ok (.iaload, 1) := by decide +kernel
theorem dX6_isBox_24 : decode cX6_isBox 24 = .ok (.iconst (-1), 1) := by decide +kernel
theorem dX6_isBox_25 : decode cX6_isBox 25 = .ok (.if_icmp .lt 7, 3) := by decide +kernel
theorem dX6_isBox_28 : decode cX6_isBox 28 = .ok (.iconst 1, 1) := by decide +kernel
theorem dX6_isBox_29 : decode cX6_isBox 29 = .ok (.goto 4, 3) := by decide +kernel
theorem dX6_isBox_32 : decode cX6_isBox 32 = .ok (.iconst 0, 1) := by decide +kernel
theorem dX6_isBox_33 : decode cX6_isBox 33 = .ok (.ireturn, 1) := by decide +kernel
theorem dX6_add_0 : decode cX6_add 0 = .ok (.aload_n 0, 1) := by decide +kernel
theorem dX6_add_1 : decode cX6_add 1 = .ok (.aload_n 0, 1) := by decide +kernel
theorem dX6_add_2 : decode cX6_add 2 = .ok (.iload_n 1, 1) := by decide +kernel
theorem dX6_add_3 : decode cX6_add 3 = .ok (.invokevirtual 69, 3) := by decide +kernel
theorem dX6_add_6 : decode cX6_add 6 = .ok (.ifCond .ne 7, 3) := by decide +kernel
theorem dX6_add_9 : decode cX6_add 9 = .ok (.iconst 1, 1) := by decide +kernel
theorem dX6_add_10 : decode cX6_add 10 = .ok (.goto 19, 3) := by decide +kernel
theorem dX6_add_13 : decode cX6_add 13 = .ok (.aload_n 0, 1) := by decide +kernel
theorem dX6_add_14 : decode cX6_add 14 = .ok (.getfield 7, 3) := by decide +kernel
theorem dX6_add_17 : decode cX6_add 17 = .ok (.iconst 0, 1) := by decide +kernel
theorem dX6_add_18 : decode cX6_add 18 = .ok (.iaload, 1) := by decide +kernel
theorem dX6_add_19 : decode cX6_add 19 = .ok (.bipush 40, 2) := by decide +kernel
theorem dX6_add_21 : decode cX6_add 21 = .ok (.if_icmp .ne 7, 3) := by decide +kernel
theorem dX6_add_24 : decode cX6_add 24 = .ok (.iconst 2, 1) := by decide +kernel
theorem dX6_add_25 : decode cX6_add 25 = .ok (.goto 4, 3) := by decide +kernel
theorem dX6_add_28 : decode cX6_add 28 = .ok (.iconst 0, 1) := by decide +kernel
theorem dX6_add_29 : decode cX6_add 29 = .ok (.putfield 58, 3) := by decide +kernel
theorem dX6_add_32 : decode cX6_add 32 = .ok (.aload_n 0, 1) := by decide +kernel
theorem dX6_add_33 : decode cX6_add 33 = .ok (.getfield 58, 3) := by decide +kernel
theorem dX6_add_36 : decode cX6_add 36 = .ok (.ifCond .eq 7, 3) := by decide +kernel
theorem dX6_add_39 : decode cX6_add 39 = .ok (.iconst 0, 1) := by decide +kernel
theorem dX6_add_40 : decode cX6_add 40 = .ok (.goto 8, 3) := by decide +kernel
theorem dX6_add_43 : decode cX6_add 43 = .ok (.aload_n 0, 1) := by decide +kernel
theorem dX6_add_44 : decode cX6_add 44 = .ok (.iload_n 1, 1) := by decide +kernel
theorem dX6_add_45 : decode cX6_add 45 = .ok (.invokevirtual 54, 3) := by decide +kernel
theorem dX6_add_48 : decode cX6_add 48 = .ok (.ireturn, 1) := by decide +kernel
theorem dX6_remove_0 : decode cX6_remove 0 = .ok (.aload_n 0, 1) := by decide +kernel
theorem dX6_remove_1 : decode cX6_remove 1 = .ok (.aload_n 0, 1) := by decide +kernel
theorem dX6_remove_2 : decode cX6_remove 2 = .ok (.iload_n 1, 1) := by decide +kernel
theorem dX6_remove_3 : decode cX6_remove 3 = .ok (.invokevirtual 69, 3) := by decide +kernel
theorem dX6_remove_6 : decode cX6_remove 6 = .ok (.ifCond .ne 7, 3) := by decide +kernel
theorem dX6_remove_9 : decode cX6_remove 9 = .ok (.iconst 1, 1) := by decide +kernel
theorem dX6_remove_10 : decode cX6_remove 10 = .ok (.goto 12, 3) := by decide +kernel
theorem dX6_remove_13 : decode cX6_remove 13 = .ok (.iload_n 1, 1) := by decide +kernel
theorem dX6_remove_14 : decode cX6_remove 14 = .ok (.ifCond .ne 7, 3) := by decide +kernel
theorem dX6_remove_17 : decode cX6_remove 17 = .ok (.iconst 2, 1) := by decide +kernel
theorem dX6_remove_18 : decode cX6_remove 18 = .ok (.goto 4, 3) := by decide +kernel
theorem dX6_remove_21 : decode cX6_remove 21 = .ok (.iconst 0, 1) := by decide +kernel
theorem dX6_remove_22 : decode cX6_remove 22 = .ok (.putfield 58, 3) := by decide +kernel
theorem dX6_remove_25 : decode cX6_remove 25 = .ok (.aload_n 0, 1) := by decide +kernel
theorem dX6_remove_26 : decode cX6_remove 26 = .ok (.getfield 58, 3) := by decide +kernel
theorem dX6_remove_29 : decode cX6_remove 29 = .ok (.ifCond .eq 5, 3) := by decide +kernel
theorem dX6_remove_32 : decode cX6_remove 32 = .ok (.iconst 0, 1) := by decide +kernel
theorem dX6_remove_33 : decode cX6_remove 33 = .ok (.ireturn, 1) := by decide +kernel
theorem dX6_remove_34 : decode cX6_remove 34 = .ok (.iconst 1, 1) := by decide +kernel
theorem dX6_remove_35 : decode cX6_remove 35 = .ok (.istore_n 2, 1) := by decide +kernel
theorem dX6_remove_36 : decode cX6_remove 36 = .ok (.aload_n 0, 1) := by decide +kernel
theorem dX6_remove_37 : decode cX6_remove 37 = .ok (.getfield 7, 3) := by decide +kernel
theorem dX6_remove_40 : decode cX6_remove 40 = .ok (.iconst 3, 1) := by decide +kernel
theorem dX6_remove_41 : decode cX6_remove 41 = .ok (.iload_n 1, 1) := by decide +kernel
theorem dX6_remove_42 : decode cX6_remove 42 = .ok (.iadd, 1) := by decide +kernel
theorem dX6_remove_43 : decode cX6_remove 43 = .ok (.bipush (-2), 2) := by decide +kernel
theorem dX6_remove_45 : decode cX6_remove 45 = .ok (.iastore, 1) := by decide +kernel
theorem dX6_remove_46 : decode cX6_remove 46 = .ok (.iload_n 1, 1) := by decide +kernel
theorem dX6_remove_47 : decode cX6_remove 47 = .ok (.iconst 1, 1) := by decide +kernel
theorem dX6_remove_48 : decode cX6_remove 48 = .ok (.iadd, 1) := by decide +kernel
theorem dX6_remove_49 : decode cX6_remove 49 = .ok (.istore_n 3, 1) := by decide +kernel
theorem dX6_remove_50 : decode cX6_remove 50 = .ok (.iload_n 3, 1) := by decide +kernel
theorem dX6_remove_51 : decode cX6_remove 51 = .ok (.aload_n 0, 1) := by decide +kernel
theorem dX6_remove_52 : decode cX6_remove 52 = .ok (.getfield 7, 3) := by decide +kernel
theorem dX6_remove_55 : decode cX6_remove 55 = .ok (.iconst 0, 1) := by decide +kernel
theorem dX6_remove_56 : decode cX6_remove 56 = .ok (.iaload, 1) := by decide +kernel
theorem dX6_remove_57 : decode cX6_remove 57 = .ok (.if_icmp .ge 61, 3) := by decide +kernel
theorem dX6_remove_60 : decode cX6_remove 60 = .ok (.aload_n 0, 1) := by decide +kernel
theorem dX6_remove_61 : decode cX6_remove 61 = .ok (.iload_n 3, 1) := by decide +kernel
theorem dX6_remove_62 : decode cX6_remove 62 = .ok (.invokevirtual 69, 3) := by decide +kernel
theorem dX6_remove_65 : decode cX6_remove 65 = .ok (.ifCond .eq 47, 3) := by decide +kernel
theorem dX6_remove_68 : decode cX6_remove 68 = .ok (.aload_n 0, 1) := by decide +kernel
theorem dX6_remove_69 : decode cX6_remove 69 = .ok (.getfield 7, 3) := by decide +kernel
theorem dX6_remove_72 : decode cX6_remove 72 = .ok (.iconst 3, 1) := by decide +kernel
theorem dX6_remove_73 : decode cX6_remove 73 = .ok (.iload_n 3, 1) := by decide +kernel
theorem dX6_remove_74 : decode cX6_remove 74 = .ok (.iadd, 1) := by decide +kernel
theorem dX6_remove_75 : decode cX6_remove 75 = .ok (.iaload, 1) := by decide +kernel
theorem dX6_remove_76 : decode cX6_remove 76 = .ok (.ifCond .le 36, 3) := by decide +kernel
theorem dX6_remove_79 : decode cX6_remove 79 = .ok (.aload_n 0, 1) := by decide +kernel
theorem dX6_remove_80 : decode cX6_remove 80 = .ok (.getfield 7, 3) := by decide +kernel
theorem dX6_remove_83 : decode cX6_remove 83 = .ok (.iconst 3, 1) := by decide +kernel
theorem dX6_remove_84 : decode cX6_remove 84 = .ok (.aload_n 0, 1) := by decide +kernel
theorem dX6_remove_85 : decode cX6_remove 85 = .ok (.getfield 7, 3) := by decide +kernel
theorem dX6_remove_88 : decode cX6_remove 88 = .ok (.iconst 3, 1) := by decide +kernel
theorem dX6_remove_89 : decode cX6_remove 89 = .ok (.iload_n 3, 1) := by decide +kernel
theorem dX6_remove_90 : decode cX6_remove 90 = .ok (.iadd, 1) := by decide +kernel
theorem dX6_remove_91 : decode cX6_remove 91 = .ok (.iaload, 1) := by decide +kernel
theorem dX6_remove_92 : decode cX6_remove 92 = .ok (.iadd, 1) := by decide +kernel
theorem dX6_remove_93 : decode cX6_remove 93 = .ok (.iaload, 1) := by decide +kernel
theorem dX6_remove_94 : decode cX6_remove 94 = .ok (.bipush (-2), 2) := by decide +kernel
theorem dX6_remove_96 : decode cX6_remove 96 = .ok (.if_icmp .ne 16, 3) := by decide +kernel
theorem dX6_remove_99 : decode cX6_remove 99 = .ok (.aload_n 0, 1) := by decide +kernel
theorem dX6_remove_100 : decode cX6_remove 100 = .ok (.getfield 7, 3) := by decide +kernel
theorem dX6_remove_103 : decode cX6_remove 103 = .ok (.iconst 3, 1) := by decide +kernel
theorem dX6_remove_104 : decode cX6_remove 104 = .ok (.iload_n 3, 1) := by decide +kernel
theorem dX6_remove_105 : decode cX6_remove 105 = .ok (.iadd, 1) := by decide +kernel
theorem dX6_remove_106 : decode cX6_remove 106 = .ok (.bipush (-2), 2) := by decide +kernel
theorem dX6_remove_108 : decode cX6_remove 108 = .ok (.iastore, 1) := by decide +kernel
theorem dX6_remove_109 : decode cX6_remove 109 = .ok (.iinc 2 1, 3) := by decide +kernel
theorem dX6_remove_112 : decode cX6_remove 112 = .ok (.iinc 3 1, 3) := by decide +kernel
theorem dX6_remove_115 : decode cX6_remove 115 = .ok (.goto (-65), 3) := by decide +kernel
theorem dX6_remove_118 : decode cX6_remove 118 = .ok (.iload_n 2, 1) := by decide +kernel
theorem dX6_remove_119 : decode cX6_remove 119 = .ok (.ireturn, 1) := by decide +kernel
theorem dX6_boxes_0 : decode cX6_boxes 0 = .ok (.aload_n 0, 1) := by decide +kernel
theorem dX6_boxes_1 : decode cX6_boxes 1 = .ok (.iconst 0, 1) := by decide +kernel
theorem dX6_boxes_2 : decode cX6_boxes 2 = .ok (.putfield 58, 3) := by decide +kernel
theorem dX6_boxes_5 : decode cX6_boxes 5 = .ok (.iconst 0, 1) := by decide +kernel
theorem dX6_boxes_6 : decode cX6_boxes 6 = .ok (.istore_n 1, 1) := by decide +kernel
theorem dX6_boxes_7 : decode cX6_boxes 7 = .ok (.iconst 0, 1) := by decide +kernel
theorem dX6_boxes_8 : decode cX6_boxes 8 = .ok (.istore_n 2, 1) := by decide +kernel
theorem dX6_boxes_9 : decode cX6_boxes 9 = .ok (.iload_n 2, 1) := by decide +kernel
theorem dX6_boxes_10 : decode cX6_boxes 10 = .ok (.aload_n 0, 1) := by decide +kernel
theorem dX6_boxes_11 : decode cX6_boxes 11 = .ok (.getfield 7, 3) := by decide +kernel
theorem dX6_boxes_14 : decode cX6_boxes 14 = .ok (.iconst 0, 1) := by decide +kernel
theorem dX6_boxes_15 : decode cX6_boxes 15 = .ok (.iaload, 1) := by decide +kernel
theorem dX6_boxes_16 : decode cX6_boxes 16 = .ok (.if_icmp .ge 25, 3) := by decide +kernel
theorem dX6_boxes_19 : decode cX6_boxes 19 = .ok (.iload_n 1, 1) := by decide +kernel
theorem dX6_boxes_20 : decode cX6_boxes 20 = .ok (.aload_n 0, 1) := by decide +kernel
theorem dX6_boxes_21 : decode cX6_boxes 21 = .ok (.iload_n 2, 1) := by decide +kernel
theorem dX6_boxes_22 : decode cX6_boxes 22 = .ok (.invokevirtual 69, 3) := by decide +kernel
theorem dX6_boxes_25 : decode cX6_boxes 25 = .ok (.ifCond .eq 7, 3) := by decide +kernel
theorem dX6_boxes_28 : decode cX6_boxes 28 = .ok (.iconst 1, 1) := by decide +kernel
theorem dX6_boxes_29 : decode cX6_boxes 29 = .ok (.goto 4, 3) := by decide +kernel
theorem dX6_boxes_32 : decode cX6_boxes 32 = .ok (.iconst 0, 1) := by decide +kernel
theorem dX6_boxes_33 : decode cX6_boxes 33 = .ok (.iadd, 1) := by decide +kernel
theorem dX6_boxes_34 : decode cX6_boxes 34 = .ok (.istore_n 1, 1) := by decide +kernel
theorem dX6_boxes_35 : decode cX6_boxes 35 = .ok (.iinc 2 1, 3) := by decide +kernel
theorem dX6_boxes_38 : decode cX6_boxes 38 = .ok (.goto (-29), 3) := by decide +kernel
theorem dX6_boxes_41 : decode cX6_boxes 41 = .ok (.iload_n 1, 1) := by decide +kernel
theorem dX6_boxes_42 : decode cX6_boxes 42 = .ok (.ireturn, 1) := by decide +kernel
theorem dX6_parent_0 : decode cX6_parent 0 = .ok (.aload_n 0, 1) := by decide +kernel
theorem dX6_parent_1 : decode cX6_parent 1 = .ok (.aload_n 0, 1) := by decide +kernel
theorem dX6_parent_2 : decode cX6_parent 2 = .ok (.iload_n 1, 1) := by decide +kernel
theorem dX6_parent_3 : decode cX6_parent 3 = .ok (.invokevirtual 69, 3) := by decide +kernel
theorem dX6_parent_6 : decode cX6_parent 6 = .ok (.ifCond .eq 7, 3) := by decide +kernel
theorem dX6_parent_9 : decode cX6_parent 9 = .ok (.iconst 0, 1) := by decide +kernel
theorem dX6_parent_10 : decode cX6_parent 10 = .ok (.goto 4, 3) := by decide +kernel
theorem dX6_parent_13 : decode cX6_parent 13 = .ok (.iconst 1, 1) := by decide +kernel
theorem dX6_parent_14 : decode cX6_parent 14 = .ok (.putfield 58, 3) := by decide +kernel
theorem dX6_parent_17 : decode cX6_parent 17 = .ok (.aload_n 0, 1) := by decide +kernel
theorem dX6_parent_18 : decode cX6_parent 18 = .ok (.getfield 58, 3) := by decide +kernel
theorem dX6_parent_21 : decode cX6_parent 21 = .ok (.ifCond .eq 7, 3) := by decide +kernel
theorem dX6_parent_24 : decode cX6_parent 24 = .ok (.iconst 0, 1) := by decide +kernel
theorem dX6_parent_25 : decode cX6_parent 25 = .ok (.goto 11, 3) := by decide +kernel
theorem dX6_parent_28 : decode cX6_parent 28 = .ok (.aload_n 0, 1) := by decide +kernel
theorem dX6_parent_29 : decode cX6_parent 29 = .ok (.getfield 7, 3) := by decide +kernel
theorem dX6_parent_32 : decode cX6_parent 32 = .ok (.iconst 3, 1) := by decide +kernel
theorem dX6_parent_33 : decode cX6_parent 33 = .ok (.iload_n 1, 1) := by decide +kernel
theorem dX6_parent_34 : decode cX6_parent 34 = .ok (.iadd, 1) := by decide +kernel
theorem dX6_parent_35 : decode cX6_parent 35 = .ok (.iaload, 1) := by decide +kernel
theorem dX6_parent_36 : decode cX6_parent 36 = .ok (.ireturn, 1) := by decide +kernel
theorem dX6_isChild_0 : decode cX6_isChild 0 = .ok (.aload_n 0, 1) := by decide +kernel
theorem dX6_isChild_1 : decode cX6_isChild 1 = .ok (.iload_n 1, 1) := by decide +kernel
theorem dX6_isChild_2 : decode cX6_isChild 2 = .ok (.invokevirtual 69, 3) := by decide +kernel
theorem dX6_isChild_5 : decode cX6_isChild 5 = .ok (.ifCond .eq 19, 3) := by decide +kernel
theorem dX6_isChild_8 : decode cX6_isChild 8 = .ok (.aload_n 0, 1) := by decide +kernel
theorem dX6_isChild_9 : decode cX6_isChild 9 = .ok (.getfield 7, 3) := by decide +kernel
theorem dX6_isChild_12 : decode cX6_isChild 12 = .ok (.iconst 3, 1) := by decide +kernel
theorem dX6_isChild_13 : decode cX6_isChild 13 = .ok (.iload_n 1, 1) := by decide +kernel
theorem dX6_isChild_14 : decode cX6_isChild 14 = .ok (.iadd, 1) := by decide +kernel
theorem dX6_isChild_15 : decode cX6_isChild 15 = .ok (.iaload, 1) := by decide +kernel
theorem dX6_isChild_16 : decode cX6_isChild 16 = .ok (.iload_n 2, 1) := by decide +kernel
theorem dX6_isChild_17 : decode cX6_isChild 17 = .ok (.if_icmp .ne 7, 3) := by decide +kernel
theorem dX6_isChild_20 : decode cX6_isChild 20 = .ok (.iconst 1, 1) := by decide +kernel
theorem dX6_isChild_21 : decode cX6_isChild 21 = .ok (.goto 4, 3) := by decide +kernel
theorem dX6_isChild_24 : decode cX6_isChild 24 = .ok (.iconst 0, 1) := by decide +kernel
theorem dX6_isChild_25 : decode cX6_isChild 25 = .ok (.ireturn, 1) := by decide +kernel
theorem dX6_isAhead_0 : decode cX6_isAhead 0 = .ok (.aload_n 0, 1) := by decide +kernel
theorem dX6_isAhead_1 : decode cX6_isAhead 1 = .ok (.iload_n 1, 1) := by decide +kernel
theorem dX6_isAhead_2 : decode cX6_isAhead 2 = .ok (.bipush 17, 2) := by decide +kernel
theorem dX6_isAhead_4 : decode cX6_isAhead 4 = .ok (.invokevirtual 73, 3) := by decide +kernel
theorem dX6_isAhead_7 : decode cX6_isAhead 7 = .ok (.aload_n 0, 1) := by decide +kernel
theorem dX6_isAhead_8 : decode cX6_isAhead 8 = .ok (.iload_n 2, 1) := by decide +kernel
theorem dX6_isAhead_9 : decode cX6_isAhead 9 = .ok (.bipush 17, 2) := by decide +kernel
theorem dX6_isAhead_11 : decode cX6_isAhead 11 = .ok (.invokevirtual 73, 3) := by decide +kernel
theorem dX6_isAhead_14 : decode cX6_isAhead 14 = .ok (.isub, 1) := by decide +kernel
theorem dX6_isAhead_15 : decode cX6_isAhead 15 = .ok (.istore_n 3, 1) := by decide +kernel
theorem dX6_isAhead_16 : decode cX6_isAhead 16 = .ok (.iload_n 3, 1) := by decide +kernel
theorem dX6_isAhead_17 : decode cX6_isAhead 17 = .ok (.ifCond .lt 12, 3) := by decide +kernel
theorem dX6_isAhead_20 : decode cX6_isAhead 20 = .ok (.iload_n 3, 1) := by decide +kernel
theorem dX6_isAhead_21 : decode cX6_isAhead 21 = .ok (.ifCond .ne 12, 3) := by decide +kernel
theorem dX6_isAhead_24 : decode cX6_isAhead 24 = .ok (.iload_n 1, 1) := by decide +kernel
theorem dX6_isAhead_25 : decode cX6_isAhead 25 = .ok (.iload_n 2, 1) := by decide +kernel
theorem dX6_isAhead_26 : decode cX6_isAhead 26 = .ok (.if_icmp .ge 7, 3) := by decide +kernel
theorem dX6_isAhead_29 : decode cX6_isAhead 29 = .ok (.iconst 1, 1) := by decide +kernel
theorem dX6_isAhead_30 : decode cX6_isAhead 30 = .ok (.goto 4, 3) := by decide +kernel
theorem dX6_isAhead_33 : decode cX6_isAhead 33 = .ok (.iconst 0, 1) := by decide +kernel
theorem dX6_isAhead_34 : decode cX6_isAhead 34 = .ok (.ireturn, 1) := by decide +kernel
theorem dX6_layKids_0 : decode cX6_layKids 0 = .ok (.aload_n 0, 1) := by decide +kernel
theorem dX6_layKids_1 : decode cX6_layKids 1 = .ok (.iconst 0, 1) := by decide +kernel
theorem dX6_layKids_2 : decode cX6_layKids 2 = .ok (.putfield 77, 3) := by decide +kernel
theorem dX6_layKids_5 : decode cX6_layKids 5 = .ok (.iload_n 1, 1) := by decide +kernel
theorem dX6_layKids_6 : decode cX6_layKids 6 = .ok (.iconst 1, 1) := by decide +kernel
theorem dX6_layKids_7 : decode cX6_layKids 7 = .ok (.iadd, 1) := by decide +kernel
theorem dX6_layKids_8 : decode cX6_layKids 8 = .ok (.istore_n 2, 1) := by decide +kernel
theorem dX6_layKids_9 : decode cX6_layKids 9 = .ok (.iload_n 2, 1) := by decide +kernel
theorem dX6_layKids_10 : decode cX6_layKids 10 = .ok (.aload_n 0, 1) := by decide +kernel
theorem dX6_layKids_11 : decode cX6_layKids 11 = .ok (.getfield 7, 3) := by decide +kernel
theorem dX6_layKids_14 : decode cX6_layKids 14 = .ok (.iconst 0, 1) := by decide +kernel
theorem dX6_layKids_15 : decode cX6_layKids 15 = .ok (.iaload, 1) := by decide +kernel
theorem dX6_layKids_16 : decode cX6_layKids 16 = .ok (.if_icmp .ge 90, 3) := by decide +kernel
theorem dX6_layKids_19 : decode cX6_layKids 19 = .ok (.aload_n 0, 1) := by decide +kernel
theorem dX6_layKids_20 : decode cX6_layKids 20 = .ok (.iload_n 2, 1) := by decide +kernel
theorem dX6_layKids_21 : decode cX6_layKids 21 = .ok (.iload_n 1, 1) := by decide +kernel
theorem dX6_layKids_22 : decode cX6_layKids 22 = .ok (.invokevirtual 80, 3) := by decide +kernel
theorem dX6_layKids_25 : decode cX6_layKids 25 = .ok (.ifCond .eq 75, 3) := by decide +kernel
theorem dX6_layKids_28 : decode cX6_layKids 28 = .ok (.aload_n 0, 1) := by decide +kernel
theorem dX6_layKids_29 : decode cX6_layKids 29 = .ok (.iload_n 2, 1) := by decide +kernel
theorem dX6_layKids_30 : decode cX6_layKids 30 = .ok (.bipush 18, 2) := by decide +kernel
theorem dX6_layKids_32 : decode cX6_layKids 32 = .ok (.invokevirtual 73, 3) := by decide +kernel
theorem dX6_layKids_35 : decode cX6_layKids 35 = .ok (.ifCond .ne 65, 3) := by decide +kernel
theorem dX6_layKids_38 : decode cX6_layKids 38 = .ok (.aload_n 0, 1) := by decide +kernel
theorem dX6_layKids_39 : decode cX6_layKids 39 = .ok (.getfield 77, 3) := by decide +kernel
theorem dX6_layKids_42 : decode cX6_layKids 42 = .ok (.istore_n 3, 1) := by decide +kernel
theorem dX6_layKids_43 : decode cX6_layKids 43 = .ok (.iload_n 3, 1) := by decide +kernel
theorem dX6_layKids_44 : decode cX6_layKids 44 = .ok (.ifCond .le 39, 3) := by decide +kernel
theorem dX6_layKids_47 : decode cX6_layKids 47 = .ok (.aload_n 0, 1) := by decide +kernel
theorem dX6_layKids_48 : decode cX6_layKids 48 = .ok (.iload_n 2, 1) := by decide +kernel
theorem dX6_layKids_49 : decode cX6_layKids 49 = .ok (.aload_n 0, 1) := by decide +kernel
theorem dX6_layKids_50 : decode cX6_layKids 50 = .ok (.getfield 20, 3) := by decide +kernel
theorem dX6_layKids_53 : decode cX6_layKids 53 = .ok (.iload_n 3, 1) := by decide +kernel
theorem dX6_layKids_54 : decode cX6_layKids 54 = .ok (.iconst 1, 1) := by decide +kernel
theorem dX6_layKids_55 : decode cX6_layKids 55 = .ok (.isub, 1) := by decide +kernel
theorem dX6_layKids_56 : decode cX6_layKids 56 = .ok (.iaload, 1) := by decide +kernel
theorem dX6_layKids_57 : decode cX6_layKids 57 = .ok (.invokevirtual 84, 3) := by decide +kernel
theorem dX6_layKids_60 : decode cX6_layKids 60 = .ok (.ifCond .eq 23, 3) := by decide +kernel
theorem dX6_layKids_63 : decode cX6_layKids 63 = .ok (.aload_n 0, 1) := by decide +kernel
theorem dX6_layKids_64 : decode cX6_layKids 64 = .ok (.getfield 20, 3) := by decide +kernel
theorem dX6_layKids_67 : decode cX6_layKids 67 = .ok (.iload_n 3, 1) := by decide +kernel
theorem dX6_layKids_68 : decode cX6_layKids 68 = .ok (.aload_n 0, 1) := by decide +kernel
theorem dX6_layKids_69 : decode cX6_layKids 69 = .ok (.getfield 20, 3) := by decide +kernel
theorem dX6_layKids_72 : decode cX6_layKids 72 = .ok (.iload_n 3, 1) := by decide +kernel
theorem dX6_layKids_73 : decode cX6_layKids 73 = .ok (.iconst 1, 1) := by decide +kernel
theorem dX6_layKids_74 : decode cX6_layKids 74 = .ok (.isub, 1) := by decide +kernel
theorem dX6_layKids_75 : decode cX6_layKids 75 = .ok (.iaload, 1) := by decide +kernel
theorem dX6_layKids_76 : decode cX6_layKids 76 = .ok (.iastore, 1) := by decide +kernel
theorem dX6_layKids_77 : decode cX6_layKids 77 = .ok (.iinc 3 (-1), 3) := by decide +kernel
theorem dX6_layKids_80 : decode cX6_layKids 80 = .ok (.goto (-37), 3) := by decide +kernel
theorem dX6_layKids_83 : decode cX6_layKids 83 = .ok (.aload_n 0, 1) := by decide +kernel
theorem dX6_layKids_84 : decode cX6_layKids 84 = .ok (.getfield 20, 3) := by decide +kernel
theorem dX6_layKids_87 : decode cX6_layKids 87 = .ok (.iload_n 3, 1) := by decide +kernel
theorem dX6_layKids_88 : decode cX6_layKids 88 = .ok (.iload_n 2, 1) := by decide +kernel
theorem dX6_layKids_89 : decode cX6_layKids 89 = .ok (.iastore, 1) := by decide +kernel
theorem dX6_layKids_90 : decode cX6_layKids 90 = .ok (.aload_n 0, 1) := by decide +kernel
theorem dX6_layKids_91 : decode cX6_layKids 91 = .ok (.dup, 1) := by decide +kernel
theorem dX6_layKids_92 : decode cX6_layKids 92 = .ok (.getfield 77, 3) := by decide +kernel
theorem dX6_layKids_95 : decode cX6_layKids 95 = .ok (.iconst 1, 1) := by decide +kernel
theorem dX6_layKids_96 : decode cX6_layKids 96 = .ok (.iadd, 1) := by decide +kernel
theorem dX6_layKids_97 : decode cX6_layKids 97 = .ok (.putfield 77, 3) := by decide +kernel
theorem dX6_layKids_100 : decode cX6_layKids 100 = .ok (.iinc 2 1, 3) := by decide +kernel
theorem dX6_layKids_103 : decode cX6_layKids 103 = .ok (.goto (-94), 3) := by decide +kernel
theorem dX6_layKids_106 : decode cX6_layKids 106 = .ok (.return_, 1) := by decide +kernel
theorem dX6_isLeaf_0 : decode cX6_isLeaf 0 = .ok (.iload_n 1, 1) := by decide +kernel
theorem dX6_isLeaf_1 : decode cX6_isLeaf 1 = .ok (.iconst 1, 1) := by decide +kernel
theorem dX6_isLeaf_2 : decode cX6_isLeaf 2 = .ok (.iadd, 1) := by decide +kernel
theorem dX6_isLeaf_3 : decode cX6_isLeaf 3 = .ok (.istore_n 2, 1) := by decide +kernel
theorem dX6_isLeaf_4 : decode cX6_isLeaf 4 = .ok (.iload_n 2, 1) := by decide +kernel
theorem dX6_isLeaf_5 : decode cX6_isLeaf 5 = .ok (.aload_n 0, 1) := by decide +kernel
theorem dX6_isLeaf_6 : decode cX6_isLeaf 6 = .ok (.getfield 7, 3) := by decide +kernel
theorem dX6_isLeaf_9 : decode cX6_isLeaf 9 = .ok (.iconst 0, 1) := by decide +kernel
theorem dX6_isLeaf_10 : decode cX6_isLeaf 10 = .ok (.iaload, 1) := by decide +kernel
theorem dX6_isLeaf_11 : decode cX6_isLeaf 11 = .ok (.if_icmp .ge 20, 3) := by decide +kernel
theorem dX6_isLeaf_14 : decode cX6_isLeaf 14 = .ok (.aload_n 0, 1) := by decide +kernel
theorem dX6_isLeaf_15 : decode cX6_isLeaf 15 = .ok (.iload_n 2, 1) := by decide +kernel
theorem dX6_isLeaf_16 : decode cX6_isLeaf 16 = .ok (.iload_n 1, 1) := by decide +kernel
theorem dX6_isLeaf_17 : decode cX6_isLeaf 17 = .ok (.invokevirtual 80, 3) := by decide +kernel
theorem dX6_isLeaf_20 : decode cX6_isLeaf 20 = .ok (.ifCond .eq 5, 3) := by decide +kernel
theorem dX6_isLeaf_23 : decode cX6_isLeaf 23 = .ok (.iconst 0, 1) := by decide +kernel
theorem dX6_isLeaf_24 : decode cX6_isLeaf 24 = .ok (.ireturn, 1) := by decide +kernel
theorem dX6_isLeaf_25 : decode cX6_isLeaf 25 = .ok (.iinc 2 1, 3) := by decide +kernel
theorem dX6_isLeaf_28 : decode cX6_isLeaf 28 = .ok (.goto (-24), 3) := by decide +kernel
theorem dX6_isLeaf_31 : decode cX6_isLeaf 31 = .ok (.iconst 1, 1) := by decide +kernel
theorem dX6_isLeaf_32 : decode cX6_isLeaf 32 = .ok (.ireturn, 1) := by decide +kernel
theorem dX6_child_0 : decode cX6_child 0 = .ok (.aload_n 0, 1) := by decide +kernel
theorem dX6_child_1 : decode cX6_child 1 = .ok (.aload_n 0, 1) := by decide +kernel
theorem dX6_child_2 : decode cX6_child 2 = .ok (.iload_n 1, 1) := by decide +kernel
theorem dX6_child_3 : decode cX6_child 3 = .ok (.invokevirtual 69, 3) := by decide +kernel
theorem dX6_child_6 : decode cX6_child 6 = .ok (.ifCond .eq 7, 3) := by decide +kernel
theorem dX6_child_9 : decode cX6_child 9 = .ok (.iconst 0, 1) := by decide +kernel
theorem dX6_child_10 : decode cX6_child 10 = .ok (.goto 4, 3) := by decide +kernel
theorem dX6_child_13 : decode cX6_child 13 = .ok (.iconst 1, 1) := by decide +kernel
theorem dX6_child_14 : decode cX6_child 14 = .ok (.putfield 58, 3) := by decide +kernel
theorem dX6_child_17 : decode cX6_child 17 = .ok (.aload_n 0, 1) := by decide +kernel
theorem dX6_child_18 : decode cX6_child 18 = .ok (.getfield 58, 3) := by decide +kernel
theorem dX6_child_21 : decode cX6_child 21 = .ok (.ifCond .eq 5, 3) := by decide +kernel
theorem dX6_child_24 : decode cX6_child 24 = .ok (.iconst 0, 1) := by decide +kernel
theorem dX6_child_25 : decode cX6_child 25 = .ok (.ireturn, 1) := by decide +kernel
theorem dX6_child_26 : decode cX6_child 26 = .ok (.aload_n 0, 1) := by decide +kernel
theorem dX6_child_27 : decode cX6_child 27 = .ok (.iload_n 1, 1) := by decide +kernel
theorem dX6_child_28 : decode cX6_child 28 = .ok (.invokevirtual 87, 3) := by decide +kernel
theorem dX6_child_31 : decode cX6_child 31 = .ok (.iload_n 2, 1) := by decide +kernel
theorem dX6_child_32 : decode cX6_child 32 = .ok (.iconst (-1), 1) := by decide +kernel
theorem dX6_child_33 : decode cX6_child 33 = .ok (.if_icmp .ne 10, 3) := by decide +kernel
theorem dX6_child_36 : decode cX6_child 36 = .ok (.aload_n 0, 1) := by decide +kernel
theorem dX6_child_37 : decode cX6_child 37 = .ok (.getfield 77, 3) := by decide +kernel
theorem dX6_child_40 : decode cX6_child 40 = .ok (.goto 27, 3) := by decide +kernel
theorem dX6_child_43 : decode cX6_child 43 = .ok (.iload_n 2, 1) := by decide +kernel
theorem dX6_child_44 : decode cX6_child 44 = .ok (.iconst 0, 1) := by decide +kernel
theorem dX6_child_45 : decode cX6_child 45 = .ok (.aload_n 0, 1) := by decide +kernel
theorem dX6_child_46 : decode cX6_child 46 = .ok (.getfield 77, 3) := by decide +kernel
theorem dX6_child_49 : decode cX6_child 49 = .ok (.iconst 1, 1) := by decide +kernel
theorem dX6_child_50 : decode cX6_child 50 = .ok (.isub, 1) := by decide +kernel
theorem dX6_child_51 : decode cX6_child 51 = .ok (.invokestatic 65, 3) := by decide +kernel
theorem dX6_child_54 : decode cX6_child 54 = .ok (.ifCond .eq 12, 3) := by decide +kernel
theorem dX6_child_57 : decode cX6_child 57 = .ok (.aload_n 0, 1) := by decide +kernel
theorem dX6_child_58 : decode cX6_child 58 = .ok (.getfield 20, 3) := by decide +kernel
theorem dX6_child_61 : decode cX6_child 61 = .ok (.iload_n 2, 1) := by decide +kernel
theorem dX6_child_62 : decode cX6_child 62 = .ok (.iaload, 1) := by decide +kernel
theorem dX6_child_63 : decode cX6_child 63 = .ok (.goto 4, 3) := by decide +kernel
theorem dX6_child_66 : decode cX6_child 66 = .ok (.iconst (-1), 1) := by decide +kernel
theorem dX6_child_67 : decode cX6_child 67 = .ok (.ireturn, 1) := by decide +kernel
theorem dX6_set_0 : decode cX6_set 0 = .ok (.aload_n 0, 1) := by decide +kernel
theorem dX6_set_1 : decode cX6_set 1 = .ok (.aload_n 0, 1) := by decide +kernel
theorem dX6_set_2 : decode cX6_set 2 = .ok (.iload_n 1, 1) := by decide +kernel
theorem dX6_set_3 : decode cX6_set 3 = .ok (.invokevirtual 69, 3) := by decide +kernel
theorem dX6_set_6 : decode cX6_set 6 = .ok (.ifCond .ne 7, 3) := by decide +kernel
theorem dX6_set_9 : decode cX6_set 9 = .ok (.iconst 1, 1) := by decide +kernel
theorem dX6_set_10 : decode cX6_set 10 = .ok (.goto 33, 3) := by decide +kernel
theorem dX6_set_13 : decode cX6_set 13 = .ok (.iload_n 2, 1) := by decide +kernel
theorem dX6_set_14 : decode cX6_set 14 = .ok (.iconst 0, 1) := by decide +kernel
theorem dX6_set_15 : decode cX6_set 15 = .ok (.bipush 19, 2) := by decide +kernel
theorem dX6_set_17 : decode cX6_set 17 = .ok (.invokestatic 65, 3) := by decide +kernel
theorem dX6_set_20 : decode cX6_set 20 = .ok (.ifCond .eq 18, 3) := by decide +kernel
theorem dX6_set_23 : decode cX6_set 23 = .ok (.iload_n 3, 1) := by decide +kernel
theorem dX6_set_24 : decode cX6_set 24 = .ok (.iload_n 2, 1) := by decide +kernel
theorem dX6_set_25 : decode cX6_set 25 = .ok (.invokestatic 91, 3) := by decide +kernel
theorem dX6_set_28 : decode cX6_set 28 = .ok (.iload_n 2, 1) := by decide +kernel
theorem dX6_set_29 : decode cX6_set 29 = .ok (.invokestatic 94, 3) := by decide +kernel
theorem dX6_set_32 : decode cX6_set 32 = .ok (.invokestatic 65, 3) := by decide +kernel
theorem dX6_set_35 : decode cX6_set 35 = .ok (.ifCond .ne 7, 3) := by decide +kernel
theorem dX6_set_38 : decode cX6_set 38 = .ok (.iconst 2, 1) := by decide +kernel
theorem dX6_set_39 : decode cX6_set 39 = .ok (.goto 4, 3) := by decide +kernel
theorem dX6_set_42 : decode cX6_set 42 = .ok (.iconst 0, 1) := by decide +kernel
theorem dX6_set_43 : decode cX6_set 43 = .ok (.putfield 58, 3) := by decide +kernel
theorem dX6_set_46 : decode cX6_set 46 = .ok (.aload_n 0, 1) := by decide +kernel
theorem dX6_set_47 : decode cX6_set 47 = .ok (.getfield 58, 3) := by decide +kernel
theorem dX6_set_50 : decode cX6_set 50 = .ok (.ifCond .eq 5, 3) := by decide +kernel
theorem dX6_set_53 : decode cX6_set 53 = .ok (.iconst 0, 1) := by decide +kernel
theorem dX6_set_54 : decode cX6_set 54 = .ok (.ireturn, 1) := by decide +kernel
theorem dX6_set_55 : decode cX6_set 55 = .ok (.aload_n 0, 1) := by decide +kernel
theorem dX6_set_56 : decode cX6_set 56 = .ok (.iload_n 1, 1) := by decide +kernel
theorem dX6_set_57 : decode cX6_set 57 = .ok (.iload_n 2, 1) := by decide +kernel
theorem dX6_set_58 : decode cX6_set 58 = .ok (.invokevirtual 73, 3) := by decide +kernel
theorem dX6_set_61 : decode cX6_set 61 = .ok (.istore 4, 2) := by decide +kernel
theorem dX6_set_63 : decode cX6_set 63 = .ok (.aload_n 0, 1) := by decide +kernel
theorem dX6_set_64 : decode cX6_set 64 = .ok (.getfield 7, 3) := by decide +kernel
theorem dX6_set_67 : decode cX6_set 67 = .ok (.bipush 43, 2) := by decide +kernel
theorem dX6_set_69 : decode cX6_set 69 = .ok (.bipush 20, 2) := by decide +kernel
theorem dX6_set_71 : decode cX6_set 71 = .ok (.iload_n 1, 1) := by decide +kernel
theorem dX6_set_72 : decode cX6_set 72 = .ok (.imul, 1) := by decide +kernel
theorem dX6_set_73 : decode cX6_set 73 = .ok (.iadd, 1) := by decide +kernel
theorem dX6_set_74 : decode cX6_set 74 = .ok (.iload_n 2, 1) := by decide +kernel
theorem dX6_set_75 : decode cX6_set 75 = .ok (.iadd, 1) := by decide +kernel
theorem dX6_set_76 : decode cX6_set 76 = .ok (.iload_n 3, 1) := by decide +kernel
theorem dX6_set_77 : decode cX6_set 77 = .ok (.iastore, 1) := by decide +kernel
theorem dX6_set_78 : decode cX6_set 78 = .ok (.iload 4, 2) := by decide +kernel
theorem dX6_set_80 : decode cX6_set 80 = .ok (.ireturn, 1) := by decide +kernel
theorem dX6_get_0 : decode cX6_get 0 = .ok (.aload_n 0, 1) := by decide +kernel
theorem dX6_get_1 : decode cX6_get 1 = .ok (.aload_n 0, 1) := by decide +kernel
theorem dX6_get_2 : decode cX6_get 2 = .ok (.iload_n 1, 1) := by decide +kernel
theorem dX6_get_3 : decode cX6_get 3 = .ok (.invokevirtual 69, 3) := by decide +kernel
theorem dX6_get_6 : decode cX6_get 6 = .ok (.ifCond .ne 7, 3) := by decide +kernel
theorem dX6_get_9 : decode cX6_get 9 = .ok (.iconst 1, 1) := by decide +kernel
theorem dX6_get_10 : decode cX6_get 10 = .ok (.goto 18, 3) := by decide +kernel
theorem dX6_get_13 : decode cX6_get 13 = .ok (.iload_n 2, 1) := by decide +kernel
theorem dX6_get_14 : decode cX6_get 14 = .ok (.iconst 0, 1) := by decide +kernel
theorem dX6_get_15 : decode cX6_get 15 = .ok (.bipush 19, 2) := by decide +kernel
theorem dX6_get_17 : decode cX6_get 17 = .ok (.invokestatic 65, 3) := by decide +kernel
theorem dX6_get_20 : decode cX6_get 20 = .ok (.ifCond .ne 7, 3) := by decide +kernel
theorem dX6_get_23 : decode cX6_get 23 = .ok (.iconst 2, 1) := by decide +kernel
theorem dX6_get_24 : decode cX6_get 24 = .ok (.goto 4, 3) := by decide +kernel
theorem dX6_get_27 : decode cX6_get 27 = .ok (.iconst 0, 1) := by decide +kernel
theorem dX6_get_28 : decode cX6_get 28 = .ok (.putfield 58, 3) := by decide +kernel
theorem dX6_get_31 : decode cX6_get 31 = .ok (.aload_n 0, 1) := by decide +kernel
theorem dX6_get_32 : decode cX6_get 32 = .ok (.getfield 58, 3) := by decide +kernel
theorem dX6_get_35 : decode cX6_get 35 = .ok (.ifCond .eq 7, 3) := by decide +kernel
theorem dX6_get_38 : decode cX6_get 38 = .ok (.iconst 0, 1) := by decide +kernel
theorem dX6_get_39 : decode cX6_get 39 = .ok (.goto 9, 3) := by decide +kernel
theorem dX6_get_42 : decode cX6_get 42 = .ok (.aload_n 0, 1) := by decide +kernel
theorem dX6_get_43 : decode cX6_get 43 = .ok (.iload_n 1, 1) := by decide +kernel
theorem dX6_get_44 : decode cX6_get 44 = .ok (.iload_n 2, 1) := by decide +kernel
theorem dX6_get_45 : decode cX6_get 45 = .ok (.invokevirtual 73, 3) := by decide +kernel
theorem dX6_get_48 : decode cX6_get 48 = .ok (.ireturn, 1) := by decide +kernel
theorem dX6_copyStyle_0 : decode cX6_copyStyle 0 = .ok (.aload_n 0, 1) := by decide +kernel
theorem dX6_copyStyle_1 : decode cX6_copyStyle 1 = .ok (.aload_n 0, 1) := by decide +kernel
theorem dX6_copyStyle_2 : decode cX6_copyStyle 2 = .ok (.iload_n 1, 1) := by decide +kernel
theorem dX6_copyStyle_3 : decode cX6_copyStyle 3 = .ok (.invokevirtual 69, 3) := by decide +kernel
theorem dX6_copyStyle_6 : decode cX6_copyStyle 6 = .ok (.ifCond .eq 15, 3) := by decide +kernel
theorem dX6_copyStyle_9 : decode cX6_copyStyle 9 = .ok (.aload_n 0, 1) := by decide +kernel
theorem dX6_copyStyle_10 : decode cX6_copyStyle 10 = .ok (.iload_n 2, 1) := by decide +kernel
theorem dX6_copyStyle_11 : decode cX6_copyStyle 11 = .ok (.invokevirtual 69, 3) := by decide +kernel
theorem dX6_copyStyle_14 : decode cX6_copyStyle 14 = .ok (.ifCond .eq 7, 3) := by decide +kernel
theorem dX6_copyStyle_17 : decode cX6_copyStyle 17 = .ok (.iconst 0, 1) := by decide +kernel
theorem dX6_copyStyle_18 : decode cX6_copyStyle 18 = .ok (.goto 4, 3) := by decide +kernel
theorem dX6_copyStyle_21 : decode cX6_copyStyle 21 = .ok (.iconst 1, 1) := by decide +kernel
theorem dX6_copyStyle_22 : decode cX6_copyStyle 22 = .ok (.putfield 58, 3) := by decide +kernel
theorem dX6_copyStyle_25 : decode cX6_copyStyle 25 = .ok (.iconst 0, 1) := by decide +kernel
theorem dX6_copyStyle_26 : decode cX6_copyStyle 26 = .ok (.istore_n 3, 1) := by decide +kernel
theorem dX6_copyStyle_27 : decode cX6_copyStyle 27 = .ok (.iconst 0, 1) := by decide +kernel
theorem dX6_copyStyle_28 : decode cX6_copyStyle 28 = .ok (.istore 4, 2) := by decide +kernel
theorem dX6_copyStyle_30 : decode cX6_copyStyle 30 = .ok (.iload 4, 2) := by decide +kernel
theorem dX6_copyStyle_32 : decode cX6_copyStyle 32 = .ok (.bipush 17, 2) := by decide +kernel
theorem dX6_copyStyle_34 : decode cX6_copyStyle 34 = .ok (.if_icmp .ge 63, 3) := by decide +kernel
theorem dX6_copyStyle_37 : decode cX6_copyStyle 37 = .ok (.aload_n 0, 1) := by decide +kernel
theorem dX6_copyStyle_38 : decode cX6_copyStyle 38 = .ok (.getfield 58, 3) := by decide +kernel
theorem dX6_copyStyle_41 : decode cX6_copyStyle 41 = .ok (.ifCond .ne 56, 3) := by decide +kernel
theorem dX6_copyStyle_44 : decode cX6_copyStyle 44 = .ok (.iload_n 3, 1) := by decide +kernel
theorem dX6_copyStyle_45 : decode cX6_copyStyle 45 = .ok (.aload_n 0, 1) := by decide +kernel
theorem dX6_copyStyle_46 : decode cX6_copyStyle 46 = .ok (.iload_n 1, 1) := by decide +kernel
theorem dX6_copyStyle_47 : decode cX6_copyStyle 47 = .ok (.iload 4, 2) := by decide +kernel
theorem dX6_copyStyle_49 : decode cX6_copyStyle 49 = .ok (.invokevirtual 73, 3) := by decide +kernel
theorem dX6_copyStyle_52 : decode cX6_copyStyle 52 = .ok (.aload_n 0, 1) := by decide +kernel
theorem dX6_copyStyle_53 : decode cX6_copyStyle 53 = .ok (.iload_n 2, 1) := by decide +kernel
theorem dX6_copyStyle_54 : decode cX6_copyStyle 54 = .ok (.iload 4, 2) := by decide +kernel
theorem dX6_copyStyle_56 : decode cX6_copyStyle 56 = .ok (.invokevirtual 73, 3) := by decide +kernel
theorem dX6_copyStyle_59 : decode cX6_copyStyle 59 = .ok (.if_icmp .ne 7, 3) := by decide +kernel
theorem dX6_copyStyle_62 : decode cX6_copyStyle 62 = .ok (.iconst 0, 1) := by decide +kernel
theorem dX6_copyStyle_63 : decode cX6_copyStyle 63 = .ok (.goto 4, 3) := by decide +kernel
theorem dX6_copyStyle_66 : decode cX6_copyStyle 66 = .ok (.iconst 1, 1) := by decide +kernel
theorem dX6_copyStyle_67 : decode cX6_copyStyle 67 = .ok (.iadd, 1) := by decide +kernel
theorem dX6_copyStyle_68 : decode cX6_copyStyle 68 = .ok (.istore_n 3, 1) := by decide +kernel
theorem dX6_copyStyle_69 : decode cX6_copyStyle 69 = .ok (.aload_n 0, 1) := by decide +kernel
theorem dX6_copyStyle_70 : decode cX6_copyStyle 70 = .ok (.getfield 7, 3) := by decide +kernel
theorem dX6_copyStyle_73 : decode cX6_copyStyle 73 = .ok (.bipush 43, 2) := by decide +kernel
theorem dX6_copyStyle_75 : decode cX6_copyStyle 75 = .ok (.bipush 20, 2) := by decide +kernel
theorem dX6_copyStyle_77 : decode cX6_copyStyle 77 = .ok (.iload_n 2, 1) := by decide +kernel
theorem dX6_copyStyle_78 : decode cX6_copyStyle 78 = .ok (.imul, 1) := by decide +kernel
theorem dX6_copyStyle_79 : decode cX6_copyStyle 79 = .ok (.iadd, 1) := by decide +kernel
theorem dX6_copyStyle_80 : decode cX6_copyStyle 80 = .ok (.iload 4, 2) := by decide +kernel
theorem dX6_copyStyle_82 : decode cX6_copyStyle 82 = .ok (.iadd, 1) := by decide +kernel
theorem dX6_copyStyle_83 : decode cX6_copyStyle 83 = .ok (.aload_n 0, 1) := by decide +kernel
theorem dX6_copyStyle_84 : decode cX6_copyStyle 84 = .ok (.iload_n 1, 1) := by decide +kernel
end
section
theorem dX6_copyStyle_85 : decode cX6_copyStyle 85 = .ok (.iload 4, 2) := by decide +kernel
theorem dX6_copyStyle_87 : decode cX6_copyStyle 87 = .ok (.invokevirtual 73, 3) := by decide +kernel
theorem dX6_copyStyle_90 : decode cX6_copyStyle 90 = .ok (.iastore, 1) := by decide +kernel
theorem dX6_copyStyle_91 : decode cX6_copyStyle 91 = .ok (.iinc 4 1, 3) := by decide +kernel
theorem dX6_copyStyle_94 : decode cX6_copyStyle 94 = .ok (.goto (-64), 3) := by decide +kernel
theorem dX6_copyStyle_97 : decode cX6_copyStyle 97 = .ok (.iload_n 3, 1) := by decide +kernel
theorem dX6_copyStyle_98 : decode cX6_copyStyle 98 = .ok (.ireturn, 1) := by decide +kernel
theorem dX6_viewport_0 : decode cX6_viewport 0 = .ok (.aload_n 0, 1) := by decide +kernel
theorem dX6_viewport_1 : decode cX6_viewport 1 = .ok (.iload_n 1, 1) := by decide +kernel
theorem dX6_viewport_2 : decode cX6_viewport 2 = .ok (.iconst 0, 1) := by decide +kernel
theorem dX6_viewport_3 : decode cX6_viewport 3 = .ok (.sipush 2000, 3) := by decide +kernel
theorem dX6_viewport_6 : decode cX6_viewport 6 = .ok (.invokestatic 65, 3) := by decide +kernel
theorem dX6_viewport_9 : decode cX6_viewport 9 = .ok (.ifCond .eq 18, 3) := by decide +kernel
theorem dX6_viewport_12 : decode cX6_viewport 12 = .ok (.iload_n 2, 1) := by decide +kernel
theorem dX6_viewport_13 : decode cX6_viewport 13 = .ok (.iconst 0, 1) := by decide +kernel
theorem dX6_viewport_14 : decode cX6_viewport 14 = .ok (.sipush 2000, 3) := by decide +kernel
theorem dX6_viewport_17 : decode cX6_viewport 17 = .ok (.invokestatic 65, 3) := by decide +kernel
theorem dX6_viewport_20 : decode cX6_viewport 20 = .ok (.ifCond .eq 7, 3) := by decide +kernel
theorem dX6_viewport_23 : decode cX6_viewport 23 = .ok (.iconst 0, 1) := by decide +kernel
theorem dX6_viewport_24 : decode cX6_viewport 24 = .ok (.goto 4, 3) := by decide +kernel
theorem dX6_viewport_27 : decode cX6_viewport 27 = .ok (.iconst 1, 1) := by decide +kernel
theorem dX6_viewport_28 : decode cX6_viewport 28 = .ok (.putfield 58, 3) := by decide +kernel
theorem dX6_viewport_31 : decode cX6_viewport 31 = .ok (.aload_n 0, 1) := by decide +kernel
theorem dX6_viewport_32 : decode cX6_viewport 32 = .ok (.getfield 58, 3) := by decide +kernel
theorem dX6_viewport_35 : decode cX6_viewport 35 = .ok (.ifCond .ne 17, 3) := by decide +kernel
theorem dX6_viewport_38 : decode cX6_viewport 38 = .ok (.aload_n 0, 1) := by decide +kernel
theorem dX6_viewport_39 : decode cX6_viewport 39 = .ok (.getfield 7, 3) := by decide +kernel
theorem dX6_viewport_42 : decode cX6_viewport 42 = .ok (.iconst 1, 1) := by decide +kernel
theorem dX6_viewport_43 : decode cX6_viewport 43 = .ok (.iload_n 1, 1) := by decide +kernel
theorem dX6_viewport_44 : decode cX6_viewport 44 = .ok (.iastore, 1) := by decide +kernel
theorem dX6_viewport_45 : decode cX6_viewport 45 = .ok (.aload_n 0, 1) := by decide +kernel
theorem dX6_viewport_46 : decode cX6_viewport 46 = .ok (.getfield 7, 3) := by decide +kernel
theorem dX6_viewport_49 : decode cX6_viewport 49 = .ok (.iconst 2, 1) := by decide +kernel
theorem dX6_viewport_50 : decode cX6_viewport 50 = .ok (.iload_n 2, 1) := by decide +kernel
theorem dX6_viewport_51 : decode cX6_viewport 51 = .ok (.iastore, 1) := by decide +kernel
theorem dX6_viewport_52 : decode cX6_viewport 52 = .ok (.return_, 1) := by decide +kernel
theorem dX6_findShown_0 : decode cX6_findShown 0 = .ok (.iconst 0, 1) := by decide +kernel
theorem dX6_findShown_1 : decode cX6_findShown 1 = .ok (.istore_n 1, 1) := by decide +kernel
theorem dX6_findShown_2 : decode cX6_findShown 2 = .ok (.iload_n 1, 1) := by decide +kernel
theorem dX6_findShown_3 : decode cX6_findShown 3 = .ok (.aload_n 0, 1) := by decide +kernel
theorem dX6_findShown_4 : decode cX6_findShown 4 = .ok (.getfield 7, 3) := by decide +kernel
theorem dX6_findShown_7 : decode cX6_findShown 7 = .ok (.iconst 0, 1) := by decide +kernel
theorem dX6_findShown_8 : decode cX6_findShown 8 = .ok (.iaload, 1) := by decide +kernel
theorem dX6_findShown_9 : decode cX6_findShown 9 = .ok (.if_icmp .ge 58, 3) := by decide +kernel
theorem dX6_findShown_12 : decode cX6_findShown 12 = .ok (.aload_n 0, 1) := by decide +kernel
theorem dX6_findShown_13 : decode cX6_findShown 13 = .ok (.getfield 23, 3) := by decide +kernel
theorem dX6_findShown_16 : decode cX6_findShown 16 = .ok (.iload_n 1, 1) := by decide +kernel
theorem dX6_findShown_17 : decode cX6_findShown 17 = .ok (.iload_n 1, 1) := by decide +kernel
theorem dX6_findShown_18 : decode cX6_findShown 18 = .ok (.ifCond .eq 37, 3) := by decide +kernel
theorem dX6_findShown_21 : decode cX6_findShown 21 = .ok (.aload_n 0, 1) := by decide +kernel
theorem dX6_findShown_22 : decode cX6_findShown 22 = .ok (.iload_n 1, 1) := by decide +kernel
theorem dX6_findShown_23 : decode cX6_findShown 23 = .ok (.invokevirtual 69, 3) := by decide +kernel
theorem dX6_findShown_26 : decode cX6_findShown 26 = .ok (.ifCond .eq 33, 3) := by decide +kernel
theorem dX6_findShown_29 : decode cX6_findShown 29 = .ok (.aload_n 0, 1) := by decide +kernel
theorem dX6_findShown_30 : decode cX6_findShown 30 = .ok (.iload_n 1, 1) := by decide +kernel
theorem dX6_findShown_31 : decode cX6_findShown 31 = .ok (.bipush 18, 2) := by decide +kernel
theorem dX6_findShown_33 : decode cX6_findShown 33 = .ok (.invokevirtual 73, 3) := by decide +kernel
theorem dX6_findShown_36 : decode cX6_findShown 36 = .ok (.ifCond .ne 23, 3) := by decide +kernel
theorem dX6_findShown_39 : decode cX6_findShown 39 = .ok (.aload_n 0, 1) := by decide +kernel
theorem dX6_findShown_40 : decode cX6_findShown 40 = .ok (.getfield 23, 3) := by decide +kernel
theorem dX6_findShown_43 : decode cX6_findShown 43 = .ok (.aload_n 0, 1) := by decide +kernel
theorem dX6_findShown_44 : decode cX6_findShown 44 = .ok (.getfield 7, 3) := by decide +kernel
theorem dX6_findShown_47 : decode cX6_findShown 47 = .ok (.iconst 3, 1) := by decide +kernel
theorem dX6_findShown_48 : decode cX6_findShown 48 = .ok (.iload_n 1, 1) := by decide +kernel
theorem dX6_findShown_49 : decode cX6_findShown 49 = .ok (.iadd, 1) := by decide +kernel
theorem dX6_findShown_50 : decode cX6_findShown 50 = .ok (.iaload, 1) := by decide +kernel
theorem dX6_findShown_51 : decode cX6_findShown 51 = .ok (.baload, 1) := by decide +kernel
theorem dX6_findShown_52 : decode cX6_findShown 52 = .ok (.ifCond .eq 7, 3) := by decide +kernel
theorem dX6_findShown_55 : decode cX6_findShown 55 = .ok (.iconst 1, 1) := by decide +kernel
theorem dX6_findShown_56 : decode cX6_findShown 56 = .ok (.goto 4, 3) := by decide +kernel
theorem dX6_findShown_59 : decode cX6_findShown 59 = .ok (.iconst 0, 1) := by decide +kernel
theorem dX6_findShown_60 : decode cX6_findShown 60 = .ok (.bastore, 1) := by decide +kernel
theorem dX6_findShown_61 : decode cX6_findShown 61 = .ok (.iinc 1 1, 3) := by decide +kernel
theorem dX6_findShown_64 : decode cX6_findShown 64 = .ok (.goto (-62), 3) := by decide +kernel
theorem dX6_findShown_67 : decode cX6_findShown 67 = .ok (.return_, 1) := by decide +kernel
theorem dX6_limited_0 : decode cX6_limited 0 = .ok (.aload_n 0, 1) := by decide +kernel
theorem dX6_limited_1 : decode cX6_limited 1 = .ok (.iload_n 1, 1) := by decide +kernel
theorem dX6_limited_2 : decode cX6_limited 2 = .ok (.bipush 14, 2) := by decide +kernel
theorem dX6_limited_4 : decode cX6_limited 4 = .ok (.iload_n 2, 1) := by decide +kernel
theorem dX6_limited_5 : decode cX6_limited 5 = .ok (.iadd, 1) := by decide +kernel
theorem dX6_limited_6 : decode cX6_limited 6 = .ok (.invokevirtual 73, 3) := by decide +kernel
theorem dX6_limited_9 : decode cX6_limited 9 = .ok (.istore 4, 2) := by decide +kernel
theorem dX6_limited_11 : decode cX6_limited 11 = .ok (.aload_n 0, 1) := by decide +kernel
theorem dX6_limited_12 : decode cX6_limited 12 = .ok (.iload_n 1, 1) := by decide +kernel
theorem dX6_limited_13 : decode cX6_limited 13 = .ok (.bipush 12, 2) := by decide +kernel
theorem dX6_limited_15 : decode cX6_limited 15 = .ok (.iload_n 2, 1) := by decide +kernel
theorem dX6_limited_16 : decode cX6_limited 16 = .ok (.iadd, 1) := by decide +kernel
theorem dX6_limited_17 : decode cX6_limited 17 = .ok (.invokevirtual 73, 3) := by decide +kernel
theorem dX6_limited_20 : decode cX6_limited 20 = .ok (.istore 5, 2) := by decide +kernel
theorem dX6_limited_22 : decode cX6_limited 22 = .ok (.iload_n 3, 1) := by decide +kernel
theorem dX6_limited_23 : decode cX6_limited 23 = .ok (.iload 4, 2) := by decide +kernel
theorem dX6_limited_25 : decode cX6_limited 25 = .ok (.if_icmp .ge 7, 3) := by decide +kernel
theorem dX6_limited_28 : decode cX6_limited 28 = .ok (.iload_n 3, 1) := by decide +kernel
theorem dX6_limited_29 : decode cX6_limited 29 = .ok (.goto 5, 3) := by decide +kernel
theorem dX6_limited_32 : decode cX6_limited 32 = .ok (.iload 4, 2) := by decide +kernel
theorem dX6_limited_34 : decode cX6_limited 34 = .ok (.istore 6, 2) := by decide +kernel
theorem dX6_limited_36 : decode cX6_limited 36 = .ok (.iload 6, 2) := by decide +kernel
theorem dX6_limited_38 : decode cX6_limited 38 = .ok (.iload 5, 2) := by decide +kernel
theorem dX6_limited_40 : decode cX6_limited 40 = .ok (.if_icmp .le 8, 3) := by decide +kernel
theorem dX6_limited_43 : decode cX6_limited 43 = .ok (.iload 6, 2) := by decide +kernel
theorem dX6_limited_45 : decode cX6_limited 45 = .ok (.goto 5, 3) := by decide +kernel
theorem dX6_limited_48 : decode cX6_limited 48 = .ok (.iload 5, 2) := by decide +kernel
theorem dX6_limited_50 : decode cX6_limited 50 = .ok (.ireturn, 1) := by decide +kernel
theorem dX6_notNegative_0 : decode cX6_notNegative 0 = .ok (.iload_n 0, 1) := by decide +kernel
theorem dX6_notNegative_1 : decode cX6_notNegative 1 = .ok (.ifCond .ge 7, 3) := by decide +kernel
theorem dX6_notNegative_4 : decode cX6_notNegative 4 = .ok (.iconst 0, 1) := by decide +kernel
theorem dX6_notNegative_5 : decode cX6_notNegative 5 = .ok (.goto 4, 3) := by decide +kernel
theorem dX6_notNegative_8 : decode cX6_notNegative 8 = .ok (.iload_n 0, 1) := by decide +kernel
theorem dX6_notNegative_9 : decode cX6_notNegative 9 = .ok (.ireturn, 1) := by decide +kernel
theorem dX6_inner_0 : decode cX6_inner 0 = .ok (.aload_n 0, 1) := by decide +kernel
theorem dX6_inner_1 : decode cX6_inner 1 = .ok (.getfield 29, 3) := by decide +kernel
theorem dX6_inner_4 : decode cX6_inner 4 = .ok (.iconst 2, 1) := by decide +kernel
theorem dX6_inner_5 : decode cX6_inner 5 = .ok (.iload_n 1, 1) := by decide +kernel
theorem dX6_inner_6 : decode cX6_inner 6 = .ok (.imul, 1) := by decide +kernel
theorem dX6_inner_7 : decode cX6_inner 7 = .ok (.iload_n 2, 1) := by decide +kernel
theorem dX6_inner_8 : decode cX6_inner 8 = .ok (.iadd, 1) := by decide +kernel
theorem dX6_inner_9 : decode cX6_inner 9 = .ok (.iaload, 1) := by decide +kernel
theorem dX6_inner_10 : decode cX6_inner 10 = .ok (.iconst 2, 1) := by decide +kernel
theorem dX6_inner_11 : decode cX6_inner 11 = .ok (.aload_n 0, 1) := by decide +kernel
theorem dX6_inner_12 : decode cX6_inner 12 = .ok (.iload_n 1, 1) := by decide +kernel
theorem dX6_inner_13 : decode cX6_inner 13 = .ok (.iconst 5, 1) := by decide +kernel
theorem dX6_inner_14 : decode cX6_inner 14 = .ok (.invokevirtual 73, 3) := by decide +kernel
theorem dX6_inner_17 : decode cX6_inner 17 = .ok (.imul, 1) := by decide +kernel
theorem dX6_inner_18 : decode cX6_inner 18 = .ok (.isub, 1) := by decide +kernel
theorem dX6_inner_19 : decode cX6_inner 19 = .ok (.invokestatic 97, 3) := by decide +kernel
theorem dX6_inner_22 : decode cX6_inner 22 = .ok (.ireturn, 1) := by decide +kernel
theorem dX6_outer_0 : decode cX6_outer 0 = .ok (.iload_n 2, 1) := by decide +kernel
theorem dX6_outer_1 : decode cX6_outer 1 = .ok (.iconst 2, 1) := by decide +kernel
theorem dX6_outer_2 : decode cX6_outer 2 = .ok (.aload_n 0, 1) := by decide +kernel
theorem dX6_outer_3 : decode cX6_outer 3 = .ok (.iload_n 1, 1) := by decide +kernel
theorem dX6_outer_4 : decode cX6_outer 4 = .ok (.bipush 6, 2) := by decide +kernel
theorem dX6_outer_6 : decode cX6_outer 6 = .ok (.invokevirtual 73, 3) := by decide +kernel
theorem dX6_outer_9 : decode cX6_outer 9 = .ok (.imul, 1) := by decide +kernel
theorem dX6_outer_10 : decode cX6_outer 10 = .ok (.iadd, 1) := by decide +kernel
theorem dX6_outer_11 : decode cX6_outer 11 = .ok (.ireturn, 1) := by decide +kernel
theorem dX6_gapsOf_0 : decode cX6_gapsOf 0 = .ok (.iload_n 2, 1) := by decide +kernel
theorem dX6_gapsOf_1 : decode cX6_gapsOf 1 = .ok (.iconst 1, 1) := by decide +kernel
theorem dX6_gapsOf_2 : decode cX6_gapsOf 2 = .ok (.if_icmp .le 16, 3) := by decide +kernel
theorem dX6_gapsOf_5 : decode cX6_gapsOf 5 = .ok (.iload_n 2, 1) := by decide +kernel
theorem dX6_gapsOf_6 : decode cX6_gapsOf 6 = .ok (.iconst 1, 1) := by decide +kernel
theorem dX6_gapsOf_7 : decode cX6_gapsOf 7 = .ok (.isub, 1) := by decide +kernel
theorem dX6_gapsOf_8 : decode cX6_gapsOf 8 = .ok (.aload_n 0, 1) := by decide +kernel
theorem dX6_gapsOf_9 : decode cX6_gapsOf 9 = .ok (.iload_n 1, 1) := by decide +kernel
theorem dX6_gapsOf_10 : decode cX6_gapsOf 10 = .ok (.iconst 4, 1) := by decide +kernel
theorem dX6_gapsOf_11 : decode cX6_gapsOf 11 = .ok (.invokevirtual 73, 3) := by decide +kernel
theorem dX6_gapsOf_14 : decode cX6_gapsOf 14 = .ok (.imul, 1) := by decide +kernel
theorem dX6_gapsOf_15 : decode cX6_gapsOf 15 = .ok (.goto 4, 3) := by decide +kernel
theorem dX6_gapsOf_18 : decode cX6_gapsOf 18 = .ok (.iconst 0, 1) := by decide +kernel
theorem dX6_gapsOf_19 : decode cX6_gapsOf 19 = .ok (.ireturn, 1) := by decide +kernel
theorem dX6_content_0 : decode cX6_content 0 = .ok (.iconst 0, 1) := by decide +kernel
theorem dX6_content_1 : decode cX6_content 1 = .ok (.istore 4, 2) := by decide +kernel
theorem dX6_content_3 : decode cX6_content 3 = .ok (.iconst 0, 1) := by decide +kernel
theorem dX6_content_4 : decode cX6_content 4 = .ok (.istore 5, 2) := by decide +kernel
theorem dX6_content_6 : decode cX6_content 6 = .ok (.iconst 0, 1) := by decide +kernel
theorem dX6_content_7 : decode cX6_content 7 = .ok (.istore 6, 2) := by decide +kernel
theorem dX6_content_9 : decode cX6_content 9 = .ok (.iload 6, 2) := by decide +kernel
theorem dX6_content_11 : decode cX6_content 11 = .ok (.aload_n 0, 1) := by decide +kernel
theorem dX6_content_12 : decode cX6_content 12 = .ok (.getfield 77, 3) := by decide +kernel
theorem dX6_content_15 : decode cX6_content 15 = .ok (.if_icmp .ge 61, 3) := by decide +kernel
theorem dX6_content_18 : decode cX6_content 18 = .ok (.aload_n 0, 1) := by decide +kernel
theorem dX6_content_19 : decode cX6_content 19 = .ok (.aload_n 0, 1) := by decide +kernel
theorem dX6_content_20 : decode cX6_content 20 = .ok (.getfield 20, 3) := by decide +kernel
theorem dX6_content_23 : decode cX6_content 23 = .ok (.iload 6, 2) := by decide +kernel
theorem dX6_content_25 : decode cX6_content 25 = .ok (.iaload, 1) := by decide +kernel
theorem dX6_content_26 : decode cX6_content 26 = .ok (.aload_n 0, 1) := by decide +kernel
theorem dX6_content_27 : decode cX6_content 27 = .ok (.getfield 26, 3) := by decide +kernel
theorem dX6_content_30 : decode cX6_content 30 = .ok (.iconst 2, 1) := by decide +kernel
theorem dX6_content_31 : decode cX6_content 31 = .ok (.aload_n 0, 1) := by decide +kernel
theorem dX6_content_32 : decode cX6_content 32 = .ok (.getfield 20, 3) := by decide +kernel
theorem dX6_content_35 : decode cX6_content 35 = .ok (.iload 6, 2) := by decide +kernel
theorem dX6_content_37 : decode cX6_content 37 = .ok (.iaload, 1) := by decide +kernel
theorem dX6_content_38 : decode cX6_content 38 = .ok (.imul, 1) := by decide +kernel
theorem dX6_content_39 : decode cX6_content 39 = .ok (.iload_n 2, 1) := by decide +kernel
theorem dX6_content_40 : decode cX6_content 40 = .ok (.iadd, 1) := by decide +kernel
theorem dX6_content_41 : decode cX6_content 41 = .ok (.iaload, 1) := by decide +kernel
theorem dX6_content_42 : decode cX6_content 42 = .ok (.invokevirtual 100, 3) := by decide +kernel
theorem dX6_content_45 : decode cX6_content 45 = .ok (.istore 7, 2) := by decide +kernel
theorem dX6_content_47 : decode cX6_content 47 = .ok (.iload 4, 2) := by decide +kernel
theorem dX6_content_49 : decode cX6_content 49 = .ok (.iload 7, 2) := by decide +kernel
theorem dX6_content_51 : decode cX6_content 51 = .ok (.iadd, 1) := by decide +kernel
theorem dX6_content_52 : decode cX6_content 52 = .ok (.istore 4, 2) := by decide +kernel
theorem dX6_content_54 : decode cX6_content 54 = .ok (.iload 7, 2) := by decide +kernel
theorem dX6_content_56 : decode cX6_content 56 = .ok (.iload 5, 2) := by decide +kernel
theorem dX6_content_58 : decode cX6_content 58 = .ok (.if_icmp .le 8, 3) := by decide +kernel
theorem dX6_content_61 : decode cX6_content 61 = .ok (.iload 7, 2) := by decide +kernel
theorem dX6_content_63 : decode cX6_content 63 = .ok (.goto 5, 3) := by decide +kernel
theorem dX6_content_66 : decode cX6_content 66 = .ok (.iload 5, 2) := by decide +kernel
theorem dX6_content_68 : decode cX6_content 68 = .ok (.istore 5, 2) := by decide +kernel
theorem dX6_content_70 : decode cX6_content 70 = .ok (.iinc 6 1, 3) := by decide +kernel
theorem dX6_content_73 : decode cX6_content 73 = .ok (.goto (-64), 3) := by decide +kernel
theorem dX6_content_76 : decode cX6_content 76 = .ok (.iload_n 3, 1) := by decide +kernel
theorem dX6_content_77 : decode cX6_content 77 = .ok (.ifCond .eq 18, 3) := by decide +kernel
theorem dX6_content_80 : decode cX6_content 80 = .ok (.iload 4, 2) := by decide +kernel
theorem dX6_content_82 : decode cX6_content 82 = .ok (.aload_n 0, 1) := by decide +kernel
theorem dX6_content_83 : decode cX6_content 83 = .ok (.iload_n 1, 1) := by decide +kernel
theorem dX6_content_84 : decode cX6_content 84 = .ok (.aload_n 0, 1) := by decide +kernel
theorem dX6_content_85 : decode cX6_content 85 = .ok (.getfield 77, 3) := by decide +kernel
theorem dX6_content_88 : decode cX6_content 88 = .ok (.invokevirtual 103, 3) := by decide +kernel
theorem dX6_content_91 : decode cX6_content 91 = .ok (.iadd, 1) := by decide +kernel
theorem dX6_content_92 : decode cX6_content 92 = .ok (.goto 5, 3) := by decide +kernel
theorem dX6_content_95 : decode cX6_content 95 = .ok (.iload 5, 2) := by decide +kernel
theorem dX6_content_97 : decode cX6_content 97 = .ok (.ireturn, 1) := by decide +kernel
theorem dX6_setNatural_0 : decode cX6_setNatural 0 = .ok (.iload_n 1, 1) := by decide +kernel
theorem dX6_setNatural_1 : decode cX6_setNatural 1 = .ok (.ifCond .ne 7, 3) := by decide +kernel
theorem dX6_setNatural_4 : decode cX6_setNatural 4 = .ok (.iconst (-1), 1) := by decide +kernel
theorem dX6_setNatural_5 : decode cX6_setNatural 5 = .ok (.goto 12, 3) := by decide +kernel
theorem dX6_setNatural_8 : decode cX6_setNatural 8 = .ok (.aload_n 0, 1) := by decide +kernel
theorem dX6_setNatural_9 : decode cX6_setNatural 9 = .ok (.iload_n 1, 1) := by decide +kernel
theorem dX6_setNatural_10 : decode cX6_setNatural 10 = .ok (.bipush 10, 2) := by decide +kernel
theorem dX6_setNatural_12 : decode cX6_setNatural 12 = .ok (.iload_n 2, 1) := by decide +kernel
theorem dX6_setNatural_13 : decode cX6_setNatural 13 = .ok (.iadd, 1) := by decide +kernel
theorem dX6_setNatural_14 : decode cX6_setNatural 14 = .ok (.invokevirtual 73, 3) := by decide +kernel
theorem dX6_setNatural_17 : decode cX6_setNatural 17 = .ok (.istore 4, 2) := by decide +kernel
theorem dX6_setNatural_19 : decode cX6_setNatural 19 = .ok (.iload 4, 2) := by decide +kernel
theorem dX6_setNatural_21 : decode cX6_setNatural 21 = .ok (.iconst (-1), 1) := by decide +kernel
theorem dX6_setNatural_22 : decode cX6_setNatural 22 = .ok (.if_icmp .eq 8, 3) := by decide +kernel
theorem dX6_setNatural_25 : decode cX6_setNatural 25 = .ok (.iload 4, 2) := by decide +kernel
theorem dX6_setNatural_27 : decode cX6_setNatural 27 = .ok (.goto 13, 3) := by decide +kernel
theorem dX6_setNatural_30 : decode cX6_setNatural 30 = .ok (.iload_n 3, 1) := by decide +kernel
theorem dX6_setNatural_31 : decode cX6_setNatural 31 = .ok (.iconst 2, 1) := by decide +kernel
theorem dX6_setNatural_32 : decode cX6_setNatural 32 = .ok (.aload_n 0, 1) := by decide +kernel
theorem dX6_setNatural_33 : decode cX6_setNatural 33 = .ok (.iload_n 1, 1) := by decide +kernel
theorem dX6_setNatural_34 : decode cX6_setNatural 34 = .ok (.iconst 5, 1) := by decide +kernel
theorem dX6_setNatural_35 : decode cX6_setNatural 35 = .ok (.invokevirtual 73, 3) := by decide +kernel
theorem dX6_setNatural_38 : decode cX6_setNatural 38 = .ok (.imul, 1) := by decide +kernel
theorem dX6_setNatural_39 : decode cX6_setNatural 39 = .ok (.iadd, 1) := by decide +kernel
theorem dX6_setNatural_40 : decode cX6_setNatural 40 = .ok (.istore 5, 2) := by decide +kernel
theorem dX6_setNatural_42 : decode cX6_setNatural 42 = .ok (.aload_n 0, 1) := by decide +kernel
theorem dX6_setNatural_43 : decode cX6_setNatural 43 = .ok (.getfield 26, 3) := by decide +kernel
theorem dX6_setNatural_46 : decode cX6_setNatural 46 = .ok (.iconst 2, 1) := by decide +kernel
theorem dX6_setNatural_47 : decode cX6_setNatural 47 = .ok (.iload_n 1, 1) := by decide +kernel
theorem dX6_setNatural_48 : decode cX6_setNatural 48 = .ok (.imul, 1) := by decide +kernel
theorem dX6_setNatural_49 : decode cX6_setNatural 49 = .ok (.iload_n 2, 1) := by decide +kernel
theorem dX6_setNatural_50 : decode cX6_setNatural 50 = .ok (.iadd, 1) := by decide +kernel
theorem dX6_setNatural_51 : decode cX6_setNatural 51 = .ok (.iload_n 1, 1) := by decide +kernel
theorem dX6_setNatural_52 : decode cX6_setNatural 52 = .ok (.ifCond .ne 8, 3) := by decide +kernel
theorem dX6_setNatural_55 : decode cX6_setNatural 55 = .ok (.iload 5, 2) := by decide +kernel
theorem dX6_setNatural_57 : decode cX6_setNatural 57 = .ok (.goto 11, 3) := by decide +kernel
theorem dX6_setNatural_60 : decode cX6_setNatural 60 = .ok (.aload_n 0, 1) := by decide +kernel
theorem dX6_setNatural_61 : decode cX6_setNatural 61 = .ok (.iload_n 1, 1) := by decide +kernel
theorem dX6_setNatural_62 : decode cX6_setNatural 62 = .ok (.iload_n 2, 1) := by decide +kernel
theorem dX6_setNatural_63 : decode cX6_setNatural 63 = .ok (.iload 5, 2) := by decide +kernel
theorem dX6_setNatural_65 : decode cX6_setNatural 65 = .ok (.invokevirtual 106, 3) := by decide +kernel
theorem dX6_setNatural_68 : decode cX6_setNatural 68 = .ok (.iastore, 1) := by decide +kernel
theorem dX6_setNatural_69 : decode cX6_setNatural 69 = .ok (.return_, 1) := by decide +kernel
theorem dX6_findNaturalWidths_0 : decode cX6_findNaturalWidths 0 = .ok (.aload_n 0, 1) := by decide +kernel
theorem dX6_findNaturalWidths_1 : decode cX6_findNaturalWidths 1 = .ok (.getfield 7, 3) := by decide +kernel
theorem dX6_findNaturalWidths_4 : decode cX6_findNaturalWidths 4 = .ok (.iconst 0, 1) := by decide +kernel
theorem dX6_findNaturalWidths_5 : decode cX6_findNaturalWidths 5 = .ok (.iaload, 1) := by decide +kernel
theorem dX6_findNaturalWidths_6 : decode cX6_findNaturalWidths 6 = .ok (.iconst 1, 1) := by decide +kernel
theorem dX6_findNaturalWidths_7 : decode cX6_findNaturalWidths 7 = .ok (.isub, 1) := by decide +kernel
theorem dX6_findNaturalWidths_8 : decode cX6_findNaturalWidths 8 = .ok (.istore_n 1, 1) := by decide +kernel
theorem dX6_findNaturalWidths_9 : decode cX6_findNaturalWidths 9 = .ok (.iload_n 1, 1) := by decide +kernel
theorem dX6_findNaturalWidths_10 : decode cX6_findNaturalWidths 10 = .ok (.ifCond .lt 73, 3) := by decide +kernel
theorem dX6_findNaturalWidths_13 : decode cX6_findNaturalWidths 13 = .ok (.aload_n 0, 1) := by decide +kernel
theorem dX6_findNaturalWidths_14 : decode cX6_findNaturalWidths 14 = .ok (.getfield 23, 3) := by decide +kernel
theorem dX6_findNaturalWidths_17 : decode cX6_findNaturalWidths 17 = .ok (.iload_n 1, 1) := by decide +kernel
theorem dX6_findNaturalWidths_18 : decode cX6_findNaturalWidths 18 = .ok (.baload, 1) := by decide +kernel
theorem dX6_findNaturalWidths_19 : decode cX6_findNaturalWidths 19 = .ok (.ifCond .eq 58, 3) := by decide +kernel
theorem dX6_findNaturalWidths_22 : decode cX6_findNaturalWidths 22 = .ok (.aload_n 0, 1) := by decide +kernel
theorem dX6_findNaturalWidths_23 : decode cX6_findNaturalWidths 23 = .ok (.iload_n 1, 1) := by decide +kernel
theorem dX6_findNaturalWidths_24 : decode cX6_findNaturalWidths 24 = .ok (.invokevirtual 87, 3) := by decide +kernel
theorem dX6_findNaturalWidths_27 : decode cX6_findNaturalWidths 27 = .ok (.aload_n 0, 1) := by decide +kernel
theorem dX6_findNaturalWidths_28 : decode cX6_findNaturalWidths 28 = .ok (.iload_n 1, 1) := by decide +kernel
theorem dX6_findNaturalWidths_29 : decode cX6_findNaturalWidths 29 = .ok (.invokevirtual 110, 3) := by decide +kernel
theorem dX6_findNaturalWidths_32 : decode cX6_findNaturalWidths 32 = .ok (.ifCond .eq 16, 3) := by decide +kernel
theorem dX6_findNaturalWidths_35 : decode cX6_findNaturalWidths 35 = .ok (.bipush 8, 2) := by decide +kernel
theorem dX6_findNaturalWidths_37 : decode cX6_findNaturalWidths 37 = .ok (.aload_n 0, 1) := by decide +kernel
theorem dX6_findNaturalWidths_38 : decode cX6_findNaturalWidths 38 = .ok (.iload_n 1, 1) := by decide +kernel
theorem dX6_findNaturalWidths_39 : decode cX6_findNaturalWidths 39 = .ok (.bipush 19, 2) := by decide +kernel
theorem dX6_findNaturalWidths_41 : decode cX6_findNaturalWidths 41 = .ok (.invokevirtual 73, 3) := by decide +kernel
theorem dX6_findNaturalWidths_44 : decode cX6_findNaturalWidths 44 = .ok (.imul, 1) := by decide +kernel
theorem dX6_findNaturalWidths_45 : decode cX6_findNaturalWidths 45 = .ok (.goto 24, 3) := by decide +kernel
theorem dX6_findNaturalWidths_48 : decode cX6_findNaturalWidths 48 = .ok (.aload_n 0, 1) := by decide +kernel
theorem dX6_findNaturalWidths_49 : decode cX6_findNaturalWidths 49 = .ok (.iload_n 1, 1) := by decide +kernel
theorem dX6_findNaturalWidths_50 : decode cX6_findNaturalWidths 50 = .ok (.iconst 0, 1) := by decide +kernel
theorem dX6_findNaturalWidths_51 : decode cX6_findNaturalWidths 51 = .ok (.aload_n 0, 1) := by decide +kernel
theorem dX6_findNaturalWidths_52 : decode cX6_findNaturalWidths 52 = .ok (.iload_n 1, 1) := by decide +kernel
theorem dX6_findNaturalWidths_53 : decode cX6_findNaturalWidths 53 = .ok (.iconst 0, 1) := by decide +kernel
theorem dX6_findNaturalWidths_54 : decode cX6_findNaturalWidths 54 = .ok (.invokevirtual 73, 3) := by decide +kernel
theorem dX6_findNaturalWidths_57 : decode cX6_findNaturalWidths 57 = .ok (.iconst 1, 1) := by decide +kernel
theorem dX6_findNaturalWidths_58 : decode cX6_findNaturalWidths 58 = .ok (.if_icmp .eq 7, 3) := by decide +kernel
theorem dX6_findNaturalWidths_61 : decode cX6_findNaturalWidths 61 = .ok (.iconst 1, 1) := by decide +kernel
theorem dX6_findNaturalWidths_62 : decode cX6_findNaturalWidths 62 = .ok (.goto 4, 3) := by decide +kernel
theorem dX6_findNaturalWidths_65 : decode cX6_findNaturalWidths 65 = .ok (.iconst 0, 1) := by decide +kernel
theorem dX6_findNaturalWidths_66 : decode cX6_findNaturalWidths 66 = .ok (.invokevirtual 113, 3) := by decide +kernel
theorem dX6_findNaturalWidths_69 : decode cX6_findNaturalWidths 69 = .ok (.istore_n 2, 1) := by decide +kernel
theorem dX6_findNaturalWidths_70 : decode cX6_findNaturalWidths 70 = .ok (.aload_n 0, 1) := by decide +kernel
theorem dX6_findNaturalWidths_71 : decode cX6_findNaturalWidths 71 = .ok (.iload_n 1, 1) := by decide +kernel
theorem dX6_findNaturalWidths_72 : decode cX6_findNaturalWidths 72 = .ok (.iconst 0, 1) := by decide +kernel
theorem dX6_findNaturalWidths_73 : decode cX6_findNaturalWidths 73 = .ok (.iload_n 2, 1) := by decide +kernel
theorem dX6_findNaturalWidths_74 : decode cX6_findNaturalWidths 74 = .ok (.invokevirtual 117, 3) := by decide +kernel
theorem dX6_findNaturalWidths_77 : decode cX6_findNaturalWidths 77 = .ok (.iinc 1 (-1), 3) := by decide +kernel
theorem dX6_findNaturalWidths_80 : decode cX6_findNaturalWidths 80 = .ok (.goto (-71), 3) := by decide +kernel
theorem dX6_findNaturalWidths_83 : decode cX6_findNaturalWidths 83 = .ok (.return_, 1) := by decide +kernel
theorem dX6_alignment_0 : decode cX6_alignment 0 = .ok (.aload_n 0, 1) := by decide +kernel
theorem dX6_alignment_1 : decode cX6_alignment 1 = .ok (.iload_n 1, 1) := by decide +kernel
theorem dX6_alignment_2 : decode cX6_alignment 2 = .ok (.bipush 16, 2) := by decide +kernel
theorem dX6_alignment_4 : decode cX6_alignment 4 = .ok (.invokevirtual 73, 3) := by decide +kernel
theorem dX6_alignment_7 : decode cX6_alignment 7 = .ok (.iconst (-1), 1) := by decide +kernel
theorem dX6_alignment_8 : decode cX6_alignment 8 = .ok (.if_icmp .eq 13, 3) := by decide +kernel
theorem dX6_alignment_11 : decode cX6_alignment 11 = .ok (.aload_n 0, 1) := by decide +kernel
theorem dX6_alignment_12 : decode cX6_alignment 12 = .ok (.iload_n 1, 1) := by decide +kernel
theorem dX6_alignment_13 : decode cX6_alignment 13 = .ok (.bipush 16, 2) := by decide +kernel
theorem dX6_alignment_15 : decode cX6_alignment 15 = .ok (.invokevirtual 73, 3) := by decide +kernel
theorem dX6_alignment_18 : decode cX6_alignment 18 = .ok (.goto 16, 3) := by decide +kernel
theorem dX6_alignment_21 : decode cX6_alignment 21 = .ok (.aload_n 0, 1) := by decide +kernel
theorem dX6_alignment_22 : decode cX6_alignment 22 = .ok (.aload_n 0, 1) := by decide +kernel
theorem dX6_alignment_23 : decode cX6_alignment 23 = .ok (.getfield 7, 3) := by decide +kernel
theorem dX6_alignment_26 : decode cX6_alignment 26 = .ok (.iconst 3, 1) := by decide +kernel
theorem dX6_alignment_27 : decode cX6_alignment 27 = .ok (.iload_n 1, 1) := by decide +kernel
theorem dX6_alignment_28 : decode cX6_alignment 28 = .ok (.iadd, 1) := by decide +kernel
theorem dX6_alignment_29 : decode cX6_alignment 29 = .ok (.iaload, 1) := by decide +kernel
theorem dX6_alignment_30 : decode cX6_alignment 30 = .ok (.iconst 3, 1) := by decide +kernel
theorem dX6_alignment_31 : decode cX6_alignment 31 = .ok (.invokevirtual 73, 3) := by decide +kernel
theorem dX6_alignment_34 : decode cX6_alignment 34 = .ok (.ireturn, 1) := by decide +kernel
theorem dX6_baseOf_0 : decode cX6_baseOf 0 = .ok (.aload_n 0, 1) := by decide +kernel
theorem dX6_baseOf_1 : decode cX6_baseOf 1 = .ok (.iload_n 1, 1) := by decide +kernel
theorem dX6_baseOf_2 : decode cX6_baseOf 2 = .ok (.bipush 7, 2) := by decide +kernel
theorem dX6_baseOf_4 : decode cX6_baseOf 4 = .ok (.invokevirtual 73, 3) := by decide +kernel
theorem dX6_baseOf_7 : decode cX6_baseOf 7 = .ok (.iconst (-1), 1) := by decide +kernel
theorem dX6_baseOf_8 : decode cX6_baseOf 8 = .ok (.if_icmp .eq 13, 3) := by decide +kernel
theorem dX6_baseOf_11 : decode cX6_baseOf 11 = .ok (.aload_n 0, 1) := by decide +kernel
theorem dX6_baseOf_12 : decode cX6_baseOf 12 = .ok (.iload_n 1, 1) := by decide +kernel
theorem dX6_baseOf_13 : decode cX6_baseOf 13 = .ok (.bipush 7, 2) := by decide +kernel
theorem dX6_baseOf_15 : decode cX6_baseOf 15 = .ok (.invokevirtual 73, 3) := by decide +kernel
theorem dX6_baseOf_18 : decode cX6_baseOf 18 = .ok (.goto 13, 3) := by decide +kernel
theorem dX6_baseOf_21 : decode cX6_baseOf 21 = .ok (.aload_n 0, 1) := by decide +kernel
theorem dX6_baseOf_22 : decode cX6_baseOf 22 = .ok (.getfield 26, 3) := by decide +kernel
theorem dX6_baseOf_25 : decode cX6_baseOf 25 = .ok (.iconst 2, 1) := by decide +kernel
theorem dX6_baseOf_26 : decode cX6_baseOf 26 = .ok (.iload_n 1, 1) := by decide +kernel
theorem dX6_baseOf_27 : decode cX6_baseOf 27 = .ok (.imul, 1) := by decide +kernel
theorem dX6_baseOf_28 : decode cX6_baseOf 28 = .ok (.iload_n 2, 1) := by decide +kernel
theorem dX6_baseOf_29 : decode cX6_baseOf 29 = .ok (.iadd, 1) := by decide +kernel
theorem dX6_baseOf_30 : decode cX6_baseOf 30 = .ok (.iaload, 1) := by decide +kernel
theorem dX6_baseOf_31 : decode cX6_baseOf 31 = .ok (.ireturn, 1) := by decide +kernel
theorem dX6_startOf_0 : decode cX6_startOf 0 = .ok (.aload_n 0, 1) := by decide +kernel
theorem dX6_startOf_1 : decode cX6_startOf 1 = .ok (.iload_n 1, 1) := by decide +kernel
theorem dX6_startOf_2 : decode cX6_startOf 2 = .ok (.iload_n 2, 1) := by decide +kernel
theorem dX6_startOf_3 : decode cX6_startOf 3 = .ok (.aload_n 0, 1) := by decide +kernel
theorem dX6_startOf_4 : decode cX6_startOf 4 = .ok (.iload_n 1, 1) := by decide +kernel
theorem dX6_startOf_5 : decode cX6_startOf 5 = .ok (.iload_n 2, 1) := by decide +kernel
theorem dX6_startOf_6 : decode cX6_startOf 6 = .ok (.invokevirtual 121, 3) := by decide +kernel
theorem dX6_startOf_9 : decode cX6_startOf 9 = .ok (.invokevirtual 106, 3) := by decide +kernel
theorem dX6_startOf_12 : decode cX6_startOf 12 = .ok (.ireturn, 1) := by decide +kernel
theorem dX6_beginFlex_0 : decode cX6_beginFlex 0 = .ok (.aload_n 0, 1) := by decide +kernel
theorem dX6_beginFlex_1 : decode cX6_beginFlex 1 = .ok (.iload_n 1, 1) := by decide +kernel
theorem dX6_beginFlex_2 : decode cX6_beginFlex 2 = .ok (.iload_n 3, 1) := by decide +kernel
theorem dX6_beginFlex_3 : decode cX6_beginFlex 3 = .ok (.iload_n 2, 1) := by decide +kernel
theorem dX6_beginFlex_4 : decode cX6_beginFlex 4 = .ok (.isub, 1) := by decide +kernel
theorem dX6_beginFlex_5 : decode cX6_beginFlex 5 = .ok (.invokevirtual 103, 3) := by decide +kernel
theorem dX6_beginFlex_8 : decode cX6_beginFlex 8 = .ok (.istore 6, 2) := by decide +kernel
theorem dX6_beginFlex_10 : decode cX6_beginFlex 10 = .ok (.iload_n 2, 1) := by decide +kernel
theorem dX6_beginFlex_11 : decode cX6_beginFlex 11 = .ok (.istore 7, 2) := by decide +kernel
theorem dX6_beginFlex_13 : decode cX6_beginFlex 13 = .ok (.iload 7, 2) := by decide +kernel
theorem dX6_beginFlex_15 : decode cX6_beginFlex 15 = .ok (.iload_n 3, 1) := by decide +kernel
theorem dX6_beginFlex_16 : decode cX6_beginFlex 16 = .ok (.if_icmp .ge 38, 3) := by decide +kernel
theorem dX6_beginFlex_19 : decode cX6_beginFlex 19 = .ok (.iload 6, 2) := by decide +kernel
theorem dX6_beginFlex_21 : decode cX6_beginFlex 21 = .ok (.aload_n 0, 1) := by decide +kernel
theorem dX6_beginFlex_22 : decode cX6_beginFlex 22 = .ok (.aload_n 0, 1) := by decide +kernel
theorem dX6_beginFlex_23 : decode cX6_beginFlex 23 = .ok (.getfield 20, 3) := by decide +kernel
theorem dX6_beginFlex_26 : decode cX6_beginFlex 26 = .ok (.iload 7, 2) := by decide +kernel
theorem dX6_beginFlex_28 : decode cX6_beginFlex 28 = .ok (.iaload, 1) := by decide +kernel
theorem dX6_beginFlex_29 : decode cX6_beginFlex 29 = .ok (.aload_n 0, 1) := by decide +kernel
theorem dX6_beginFlex_30 : decode cX6_beginFlex 30 = .ok (.aload_n 0, 1) := by decide +kernel
theorem dX6_beginFlex_31 : decode cX6_beginFlex 31 = .ok (.getfield 20, 3) := by decide +kernel
theorem dX6_beginFlex_34 : decode cX6_beginFlex 34 = .ok (.iload 7, 2) := by decide +kernel
theorem dX6_beginFlex_36 : decode cX6_beginFlex 36 = .ok (.iaload, 1) := by decide +kernel
theorem dX6_beginFlex_37 : decode cX6_beginFlex 37 = .ok (.iload 4, 2) := by decide +kernel
theorem dX6_beginFlex_39 : decode cX6_beginFlex 39 = .ok (.invokevirtual 124, 3) := by decide +kernel
theorem dX6_beginFlex_42 : decode cX6_beginFlex 42 = .ok (.invokevirtual 100, 3) := by decide +kernel
theorem dX6_beginFlex_45 : decode cX6_beginFlex 45 = .ok (.iadd, 1) := by decide +kernel
theorem dX6_beginFlex_46 : decode cX6_beginFlex 46 = .ok (.istore 6, 2) := by decide +kernel
theorem dX6_beginFlex_48 : decode cX6_beginFlex 48 = .ok (.iinc 7 1, 3) := by decide +kernel
theorem dX6_beginFlex_51 : decode cX6_beginFlex 51 = .ok (.goto (-38), 3) := by decide +kernel
theorem dX6_beginFlex_54 : decode cX6_beginFlex 54 = .ok (.iload 6, 2) := by decide +kernel
theorem dX6_beginFlex_56 : decode cX6_beginFlex 56 = .ok (.iload 5, 2) := by decide +kernel
theorem dX6_beginFlex_58 : decode cX6_beginFlex 58 = .ok (.if_icmp .ge 7, 3) := by decide +kernel
theorem dX6_beginFlex_61 : decode cX6_beginFlex 61 = .ok (.iconst 1, 1) := by decide +kernel
theorem dX6_beginFlex_62 : decode cX6_beginFlex 62 = .ok (.goto 4, 3) := by decide +kernel
theorem dX6_beginFlex_65 : decode cX6_beginFlex 65 = .ok (.iconst 0, 1) := by decide +kernel
theorem dX6_beginFlex_66 : decode cX6_beginFlex 66 = .ok (.istore 7, 2) := by decide +kernel
theorem dX6_beginFlex_68 : decode cX6_beginFlex 68 = .ok (.iload_n 2, 1) := by decide +kernel
theorem dX6_beginFlex_69 : decode cX6_beginFlex 69 = .ok (.istore 8, 2) := by decide +kernel
theorem dX6_beginFlex_71 : decode cX6_beginFlex 71 = .ok (.iload 8, 2) := by decide +kernel
theorem dX6_beginFlex_73 : decode cX6_beginFlex 73 = .ok (.iload_n 3, 1) := by decide +kernel
theorem dX6_beginFlex_74 : decode cX6_beginFlex 74 = .ok (.if_icmp .ge 135, 3) := by decide +kernel
theorem dX6_beginFlex_77 : decode cX6_beginFlex 77 = .ok (.aload_n 0, 1) := by decide +kernel
theorem dX6_beginFlex_78 : decode cX6_beginFlex 78 = .ok (.getfield 20, 3) := by decide +kernel
theorem dX6_beginFlex_81 : decode cX6_beginFlex 81 = .ok (.iload 8, 2) := by decide +kernel
theorem dX6_beginFlex_83 : decode cX6_beginFlex 83 = .ok (.iaload, 1) := by decide +kernel
theorem dX6_beginFlex_84 : decode cX6_beginFlex 84 = .ok (.istore 9, 2) := by decide +kernel
theorem dX6_beginFlex_86 : decode cX6_beginFlex 86 = .ok (.aload_n 0, 1) := by decide +kernel
theorem dX6_beginFlex_87 : decode cX6_beginFlex 87 = .ok (.iload 9, 2) := by decide +kernel
theorem dX6_beginFlex_89 : decode cX6_beginFlex 89 = .ok (.iload 4, 2) := by decide +kernel
theorem dX6_beginFlex_91 : decode cX6_beginFlex 91 = .ok (.invokevirtual 121, 3) := by decide +kernel
theorem dX6_beginFlex_94 : decode cX6_beginFlex 94 = .ok (.istore 10, 2) := by decide +kernel
theorem dX6_beginFlex_96 : decode cX6_beginFlex 96 = .ok (.aload_n 0, 1) := by decide +kernel
theorem dX6_beginFlex_97 : decode cX6_beginFlex 97 = .ok (.iload 9, 2) := by decide +kernel
theorem dX6_beginFlex_99 : decode cX6_beginFlex 99 = .ok (.iload 4, 2) := by decide +kernel
theorem dX6_beginFlex_101 : decode cX6_beginFlex 101 = .ok (.invokevirtual 124, 3) := by decide +kernel
theorem dX6_beginFlex_104 : decode cX6_beginFlex 104 = .ok (.istore 11, 2) := by decide +kernel
theorem dX6_beginFlex_106 : decode cX6_beginFlex 106 = .ok (.aload_n 0, 1) := by decide +kernel
theorem dX6_beginFlex_107 : decode cX6_beginFlex 107 = .ok (.getfield 44, 3) := by decide +kernel
theorem dX6_beginFlex_110 : decode cX6_beginFlex 110 = .ok (.iload 8, 2) := by decide +kernel
theorem dX6_beginFlex_112 : decode cX6_beginFlex 112 = .ok (.iload 7, 2) := by decide +kernel
theorem dX6_beginFlex_114 : decode cX6_beginFlex 114 = .ok (.ifCond .eq 15, 3) := by decide +kernel
theorem dX6_beginFlex_117 : decode cX6_beginFlex 117 = .ok (.aload_n 0, 1) := by decide +kernel
theorem dX6_beginFlex_118 : decode cX6_beginFlex 118 = .ok (.iload 9, 2) := by decide +kernel
theorem dX6_beginFlex_120 : decode cX6_beginFlex 120 = .ok (.bipush 8, 2) := by decide +kernel
theorem dX6_beginFlex_122 : decode cX6_beginFlex 122 = .ok (.invokevirtual 73, 3) := by decide +kernel
theorem dX6_beginFlex_125 : decode cX6_beginFlex 125 = .ok (.i2l, 1) := by decide +kernel
theorem dX6_beginFlex_126 : decode cX6_beginFlex 126 = .ok (.goto 16, 3) := by decide +kernel
theorem dX6_beginFlex_129 : decode cX6_beginFlex 129 = .ok (.aload_n 0, 1) := by decide +kernel
theorem dX6_beginFlex_130 : decode cX6_beginFlex 130 = .ok (.iload 9, 2) := by decide +kernel
theorem dX6_beginFlex_132 : decode cX6_beginFlex 132 = .ok (.bipush 9, 2) := by decide +kernel
theorem dX6_beginFlex_134 : decode cX6_beginFlex 134 = .ok (.invokevirtual 73, 3) := by decide +kernel
theorem dX6_beginFlex_137 : decode cX6_beginFlex 137 = .ok (.i2l, 1) := by decide +kernel
theorem dX6_beginFlex_138 : decode cX6_beginFlex 138 = .ok (.iload 10, 2) := by decide +kernel
theorem dX6_beginFlex_140 : decode cX6_beginFlex 140 = .ok (.i2l, 1) := by decide +kernel
theorem dX6_beginFlex_141 : decode cX6_beginFlex 141 = .ok (.lmul, 1) := by decide +kernel
theorem dX6_beginFlex_142 : decode cX6_beginFlex 142 = .ok (.lastore, 1) := by decide +kernel
theorem dX6_beginFlex_143 : decode cX6_beginFlex 143 = .ok (.aload_n 0, 1) := by decide +kernel
theorem dX6_beginFlex_144 : decode cX6_beginFlex 144 = .ok (.getfield 41, 3) := by decide +kernel
theorem dX6_beginFlex_147 : decode cX6_beginFlex 147 = .ok (.iload 8, 2) := by decide +kernel
theorem dX6_beginFlex_149 : decode cX6_beginFlex 149 = .ok (.aload_n 0, 1) := by decide +kernel
theorem dX6_beginFlex_150 : decode cX6_beginFlex 150 = .ok (.getfield 44, 3) := by decide +kernel
theorem dX6_beginFlex_153 : decode cX6_beginFlex 153 = .ok (.iload 8, 2) := by decide +kernel
theorem dX6_beginFlex_155 : decode cX6_beginFlex 155 = .ok (.laload, 1) := by decide +kernel
theorem dX6_beginFlex_156 : decode cX6_beginFlex 156 = .ok (.lconst 0, 1) := by decide +kernel
theorem dX6_beginFlex_157 : decode cX6_beginFlex 157 = .ok (.lcmp, 1) := by decide +kernel
theorem dX6_beginFlex_158 : decode cX6_beginFlex 158 = .ok (.ifCond .eq 25, 3) := by decide +kernel
theorem dX6_beginFlex_161 : decode cX6_beginFlex 161 = .ok (.iload 7, 2) := by decide +kernel
theorem dX6_beginFlex_163 : decode cX6_beginFlex 163 = .ok (.ifCond .eq 13, 3) := by decide +kernel
theorem dX6_beginFlex_166 : decode cX6_beginFlex 166 = .ok (.iload 10, 2) := by decide +kernel
theorem dX6_beginFlex_168 : decode cX6_beginFlex 168 = .ok (.iload 11, 2) := by decide +kernel
theorem dX6_beginFlex_170 : decode cX6_beginFlex 170 = .ok (.if_icmp .le 17, 3) := by decide +kernel
theorem dX6_beginFlex_173 : decode cX6_beginFlex 173 = .ok (.goto 10, 3) := by decide +kernel
theorem dX6_beginFlex_176 : decode cX6_beginFlex 176 = .ok (.iload 10, 2) := by decide +kernel
theorem dX6_beginFlex_178 : decode cX6_beginFlex 178 = .ok (.iload 11, 2) := by decide +kernel
theorem dX6_beginFlex_180 : decode cX6_beginFlex 180 = .ok (.if_icmp .ge 7, 3) := by decide +kernel
theorem dX6_beginFlex_183 : decode cX6_beginFlex 183 = .ok (.iconst 1, 1) := by decide +kernel
theorem dX6_beginFlex_184 : decode cX6_beginFlex 184 = .ok (.goto 4, 3) := by decide +kernel
theorem dX6_beginFlex_187 : decode cX6_beginFlex 187 = .ok (.iconst 0, 1) := by decide +kernel
theorem dX6_beginFlex_188 : decode cX6_beginFlex 188 = .ok (.bastore, 1) := by decide +kernel
theorem dX6_beginFlex_189 : decode cX6_beginFlex 189 = .ok (.aload_n 0, 1) := by decide +kernel
theorem dX6_beginFlex_190 : decode cX6_beginFlex 190 = .ok (.getfield 29, 3) := by decide +kernel
theorem dX6_beginFlex_193 : decode cX6_beginFlex 193 = .ok (.iconst 2, 1) := by decide +kernel
theorem dX6_beginFlex_194 : decode cX6_beginFlex 194 = .ok (.iload 9, 2) := by decide +kernel
theorem dX6_beginFlex_196 : decode cX6_beginFlex 196 = .ok (.imul, 1) := by decide +kernel
theorem dX6_beginFlex_197 : decode cX6_beginFlex 197 = .ok (.iload 4, 2) := by decide +kernel
theorem dX6_beginFlex_199 : decode cX6_beginFlex 199 = .ok (.iadd, 1) := by decide +kernel
theorem dX6_beginFlex_200 : decode cX6_beginFlex 200 = .ok (.iload 11, 2) := by decide +kernel
theorem dX6_beginFlex_202 : decode cX6_beginFlex 202 = .ok (.iastore, 1) := by decide +kernel
theorem dX6_beginFlex_203 : decode cX6_beginFlex 203 = .ok (.iinc 8 1, 3) := by decide +kernel
theorem dX6_beginFlex_206 : decode cX6_beginFlex 206 = .ok (.goto (-135), 3) := by decide +kernel
theorem dX6_beginFlex_209 : decode cX6_beginFlex 209 = .ok (.iload 7, 2) := by decide +kernel
theorem dX6_beginFlex_211 : decode cX6_beginFlex 211 = .ok (.ireturn, 1) := by decide +kernel
theorem dX6_propose_0 : decode cX6_propose 0 = .ok (.iload 5, 2) := by decide +kernel
theorem dX6_propose_2 : decode cX6_propose 2 = .ok (.aload_n 0, 1) := by decide +kernel
theorem dX6_propose_3 : decode cX6_propose 3 = .ok (.iload_n 1, 1) := by decide +kernel
theorem dX6_propose_4 : decode cX6_propose 4 = .ok (.iload_n 3, 1) := by decide +kernel
theorem dX6_propose_5 : decode cX6_propose 5 = .ok (.iload_n 2, 1) := by decide +kernel
theorem dX6_propose_6 : decode cX6_propose 6 = .ok (.isub, 1) := by decide +kernel
theorem dX6_propose_7 : decode cX6_propose 7 = .ok (.invokevirtual 103, 3) := by decide +kernel
theorem dX6_propose_10 : decode cX6_propose 10 = .ok (.isub, 1) := by decide +kernel
theorem dX6_propose_11 : decode cX6_propose 11 = .ok (.i2l, 1) := by decide +kernel
theorem dX6_propose_12 : decode cX6_propose 12 = .ok (.lstore 7, 2) := by decide +kernel
theorem dX6_propose_14 : decode cX6_propose 14 = .ok (.lconst 0, 1) := by decide +kernel
theorem dX6_propose_15 : decode cX6_propose 15 = .ok (.lstore 9, 2) := by decide +kernel
theorem dX6_propose_17 : decode cX6_propose 17 = .ok (.iload_n 2, 1) := by decide +kernel
theorem dX6_propose_18 : decode cX6_propose 18 = .ok (.istore 11, 2) := by decide +kernel
theorem dX6_propose_20 : decode cX6_propose 20 = .ok (.iload 11, 2) := by decide +kernel
theorem dX6_propose_22 : decode cX6_propose 22 = .ok (.iload_n 3, 1) := by decide +kernel
theorem dX6_propose_23 : decode cX6_propose 23 = .ok (.if_icmp .ge 94, 3) := by decide +kernel
theorem dX6_propose_26 : decode cX6_propose 26 = .ok (.aload_n 0, 1) := by decide +kernel
theorem dX6_propose_27 : decode cX6_propose 27 = .ok (.getfield 20, 3) := by decide +kernel
theorem dX6_propose_30 : decode cX6_propose 30 = .ok (.iload 11, 2) := by decide +kernel
theorem dX6_propose_32 : decode cX6_propose 32 = .ok (.iaload, 1) := by decide +kernel
theorem dX6_propose_33 : decode cX6_propose 33 = .ok (.istore 12, 2) := by decide +kernel
theorem dX6_propose_35 : decode cX6_propose 35 = .ok (.lload 7, 2) := by decide +kernel
theorem dX6_propose_37 : decode cX6_propose 37 = .ok (.iconst 2, 1) := by decide +kernel
theorem dX6_propose_38 : decode cX6_propose 38 = .ok (.aload_n 0, 1) := by decide +kernel
theorem dX6_propose_39 : decode cX6_propose 39 = .ok (.iload 12, 2) := by decide +kernel
theorem dX6_propose_41 : decode cX6_propose 41 = .ok (.bipush 6, 2) := by decide +kernel
theorem dX6_propose_43 : decode cX6_propose 43 = .ok (.invokevirtual 73, 3) := by decide +kernel
theorem dX6_propose_46 : decode cX6_propose 46 = .ok (.imul, 1) := by decide +kernel
theorem dX6_propose_47 : decode cX6_propose 47 = .ok (.aload_n 0, 1) := by decide +kernel
theorem dX6_propose_48 : decode cX6_propose 48 = .ok (.getfield 41, 3) := by decide +kernel
theorem dX6_propose_51 : decode cX6_propose 51 = .ok (.iload 11, 2) := by decide +kernel
theorem dX6_propose_53 : decode cX6_propose 53 = .ok (.baload, 1) := by decide +kernel
theorem dX6_propose_54 : decode cX6_propose 54 = .ok (.ifCond .eq 18, 3) := by decide +kernel
theorem dX6_propose_57 : decode cX6_propose 57 = .ok (.aload_n 0, 1) := by decide +kernel
theorem dX6_propose_58 : decode cX6_propose 58 = .ok (.getfield 29, 3) := by decide +kernel
theorem dX6_propose_61 : decode cX6_propose 61 = .ok (.iconst 2, 1) := by decide +kernel
theorem dX6_propose_62 : decode cX6_propose 62 = .ok (.iload 12, 2) := by decide +kernel
theorem dX6_propose_64 : decode cX6_propose 64 = .ok (.imul, 1) := by decide +kernel
theorem dX6_propose_65 : decode cX6_propose 65 = .ok (.iload 4, 2) := by decide +kernel
theorem dX6_propose_67 : decode cX6_propose 67 = .ok (.iadd, 1) := by decide +kernel
theorem dX6_propose_68 : decode cX6_propose 68 = .ok (.iaload, 1) := by decide +kernel
theorem dX6_propose_69 : decode cX6_propose 69 = .ok (.goto 11, 3) := by decide +kernel
theorem dX6_propose_72 : decode cX6_propose 72 = .ok (.aload_n 0, 1) := by decide +kernel
theorem dX6_propose_73 : decode cX6_propose 73 = .ok (.iload 12, 2) := by decide +kernel
theorem dX6_propose_75 : decode cX6_propose 75 = .ok (.iload 4, 2) := by decide +kernel
theorem dX6_propose_77 : decode cX6_propose 77 = .ok (.invokevirtual 121, 3) := by decide +kernel
theorem dX6_propose_80 : decode cX6_propose 80 = .ok (.iadd, 1) := by decide +kernel
theorem dX6_propose_81 : decode cX6_propose 81 = .ok (.i2l, 1) := by decide +kernel
theorem dX6_propose_82 : decode cX6_propose 82 = .ok (.lsub, 1) := by decide +kernel
theorem dX6_propose_83 : decode cX6_propose 83 = .ok (.lstore 7, 2) := by decide +kernel
theorem dX6_propose_85 : decode cX6_propose 85 = .ok (.lload 9, 2) := by decide +kernel
theorem dX6_propose_87 : decode cX6_propose 87 = .ok (.aload_n 0, 1) := by decide +kernel
theorem dX6_propose_88 : decode cX6_propose 88 = .ok (.getfield 41, 3) := by decide +kernel
theorem dX6_propose_91 : decode cX6_propose 91 = .ok (.iload 11, 2) := by decide +kernel
theorem dX6_propose_93 : decode cX6_propose 93 = .ok (.baload, 1) := by decide +kernel
theorem dX6_propose_94 : decode cX6_propose 94 = .ok (.ifCond .eq 7, 3) := by decide +kernel
theorem dX6_propose_97 : decode cX6_propose 97 = .ok (.lconst 0, 1) := by decide +kernel
theorem dX6_propose_98 : decode cX6_propose 98 = .ok (.goto 10, 3) := by decide +kernel
theorem dX6_propose_101 : decode cX6_propose 101 = .ok (.aload_n 0, 1) := by decide +kernel
theorem dX6_propose_102 : decode cX6_propose 102 = .ok (.getfield 44, 3) := by decide +kernel
theorem dX6_propose_105 : decode cX6_propose 105 = .ok (.iload 11, 2) := by decide +kernel
theorem dX6_propose_107 : decode cX6_propose 107 = .ok (.laload, 1) := by decide +kernel
theorem dX6_propose_108 : decode cX6_propose 108 = .ok (.ladd, 1) := by decide +kernel
theorem dX6_propose_109 : decode cX6_propose 109 = .ok (.lstore 9, 2) := by decide +kernel
theorem dX6_propose_111 : decode cX6_propose 111 = .ok (.iinc 11 1, 3) := by decide +kernel
theorem dX6_propose_114 : decode cX6_propose 114 = .ok (.goto (-94), 3) := by decide +kernel
theorem dX6_propose_117 : decode cX6_propose 117 = .ok (.iload 6, 2) := by decide +kernel
theorem dX6_propose_119 : decode cX6_propose 119 = .ok (.ifCond .eq 8, 3) := by decide +kernel
theorem dX6_propose_122 : decode cX6_propose 122 = .ok (.lload 7, 2) := by decide +kernel
theorem dX6_propose_124 : decode cX6_propose 124 = .ok (.goto 6, 3) := by decide +kernel
theorem dX6_propose_127 : decode cX6_propose 127 = .ok (.lload 7, 2) := by decide +kernel
theorem dX6_propose_129 : decode cX6_propose 129 = .ok (.lneg, 1) := by decide +kernel
theorem dX6_propose_130 : decode cX6_propose 130 = .ok (.lstore 11, 2) := by decide +kernel
theorem dX6_propose_132 : decode cX6_propose 132 = .ok (.lload 11, 2) := by decide +kernel
theorem dX6_propose_134 : decode cX6_propose 134 = .ok (.lconst 0, 1) := by decide +kernel
theorem dX6_propose_135 : decode cX6_propose 135 = .ok (.lcmp, 1) := by decide +kernel
theorem dX6_propose_136 : decode cX6_propose 136 = .ok (.ifCond .ge 7, 3) := by decide +kernel
theorem dX6_propose_139 : decode cX6_propose 139 = .ok (.lconst 0, 1) := by decide +kernel
theorem dX6_propose_140 : decode cX6_propose 140 = .ok (.goto 5, 3) := by decide +kernel
theorem dX6_propose_143 : decode cX6_propose 143 = .ok (.lload 11, 2) := by decide +kernel
theorem dX6_propose_145 : decode cX6_propose 145 = .ok (.lstore 11, 2) := by decide +kernel
theorem dX6_propose_147 : decode cX6_propose 147 = .ok (.lconst 0, 1) := by decide +kernel
theorem dX6_propose_148 : decode cX6_propose 148 = .ok (.lstore 13, 2) := by decide +kernel
theorem dX6_propose_150 : decode cX6_propose 150 = .ok (.lconst 0, 1) := by decide +kernel
theorem dX6_propose_151 : decode cX6_propose 151 = .ok (.lstore 15, 2) := by decide +kernel
theorem dX6_propose_153 : decode cX6_propose 153 = .ok (.iload_n 2, 1) := by decide +kernel
theorem dX6_propose_154 : decode cX6_propose 154 = .ok (.istore 17, 2) := by decide +kernel
theorem dX6_propose_156 : decode cX6_propose 156 = .ok (.iload 17, 2) := by decide +kernel
theorem dX6_propose_158 : decode cX6_propose 158 = .ok (.iload_n 3, 1) := by decide +kernel
theorem dX6_propose_159 : decode cX6_propose 159 = .ok (.if_icmp .ge 87, 3) := by decide +kernel
theorem dX6_propose_162 : decode cX6_propose 162 = .ok (.aload_n 0, 1) := by decide +kernel
theorem dX6_propose_163 : decode cX6_propose 163 = .ok (.getfield 41, 3) := by decide +kernel
theorem dX6_propose_166 : decode cX6_propose 166 = .ok (.iload 17, 2) := by decide +kernel
theorem dX6_propose_168 : decode cX6_propose 168 = .ok (.baload, 1) := by decide +kernel
theorem dX6_propose_169 : decode cX6_propose 169 = .ok (.ifCond .ne 71, 3) := by decide +kernel
theorem dX6_propose_172 : decode cX6_propose 172 = .ok (.lload 13, 2) := by decide +kernel
theorem dX6_propose_174 : decode cX6_propose 174 = .ok (.aload_n 0, 1) := by decide +kernel
theorem dX6_propose_175 : decode cX6_propose 175 = .ok (.getfield 44, 3) := by decide +kernel
theorem dX6_propose_178 : decode cX6_propose 178 = .ok (.iload 17, 2) := by decide +kernel
theorem dX6_propose_180 : decode cX6_propose 180 = .ok (.laload, 1) := by decide +kernel
theorem dX6_propose_181 : decode cX6_propose 181 = .ok (.ladd, 1) := by decide +kernel
theorem dX6_propose_182 : decode cX6_propose 182 = .ok (.lstore 13, 2) := by decide +kernel
theorem dX6_propose_184 : decode cX6_propose 184 = .ok (.lload 11, 2) := by decide +kernel
theorem dX6_propose_186 : decode cX6_propose 186 = .ok (.lload 13, 2) := by decide +kernel
theorem dX6_propose_188 : decode cX6_propose 188 = .ok (.lmul, 1) := by decide +kernel
theorem dX6_propose_189 : decode cX6_propose 189 = .ok (.lload 9, 2) := by decide +kernel
theorem dX6_propose_191 : decode cX6_propose 191 = .ok (.ldiv, 1) := by decide +kernel
theorem dX6_propose_192 : decode cX6_propose 192 = .ok (.lstore 18, 2) := by decide +kernel
theorem dX6_propose_194 : decode cX6_propose 194 = .ok (.lload 18, 2) := by decide +kernel
theorem dX6_propose_196 : decode cX6_propose 196 = .ok (.lload 15, 2) := by decide +kernel
theorem dX6_propose_198 : decode cX6_propose 198 = .ok (.lsub, 1) := by decide +kernel
theorem dX6_propose_199 : decode cX6_propose 199 = .ok (.l2i, 1) := by decide +kernel
theorem dX6_propose_200 : decode cX6_propose 200 = .ok (.istore 20, 2) := by decide +kernel
theorem dX6_propose_202 : decode cX6_propose 202 = .ok (.lload 18, 2) := by decide +kernel
theorem dX6_propose_204 : decode cX6_propose 204 = .ok (.lstore 15, 2) := by decide +kernel
theorem dX6_propose_206 : decode cX6_propose 206 = .ok (.aload_n 0, 1) := by decide +kernel
theorem dX6_propose_207 : decode cX6_propose 207 = .ok (.getfield 48, 3) := by decide +kernel
theorem dX6_propose_210 : decode cX6_propose 210 = .ok (.iload 17, 2) := by decide +kernel
theorem dX6_propose_212 : decode cX6_propose 212 = .ok (.aload_n 0, 1) := by decide +kernel
theorem dX6_propose_213 : decode cX6_propose 213 = .ok (.aload_n 0, 1) := by decide +kernel
theorem dX6_propose_214 : decode cX6_propose 214 = .ok (.getfield 20, 3) := by decide +kernel
theorem dX6_propose_217 : decode cX6_propose 217 = .ok (.iload 17, 2) := by decide +kernel
theorem dX6_propose_219 : decode cX6_propose 219 = .ok (.iaload, 1) := by decide +kernel
theorem dX6_propose_220 : decode cX6_propose 220 = .ok (.iload 4, 2) := by decide +kernel
theorem dX6_propose_222 : decode cX6_propose 222 = .ok (.invokevirtual 121, 3) := by decide +kernel
theorem dX6_propose_225 : decode cX6_propose 225 = .ok (.iload 6, 2) := by decide +kernel
theorem dX6_propose_227 : decode cX6_propose 227 = .ok (.ifCond .eq 8, 3) := by decide +kernel
theorem dX6_propose_230 : decode cX6_propose 230 = .ok (.iload 20, 2) := by decide +kernel
theorem dX6_propose_232 : decode cX6_propose 232 = .ok (.goto 6, 3) := by decide +kernel
theorem dX6_propose_235 : decode cX6_propose 235 = .ok (.iload 20, 2) := by decide +kernel
theorem dX6_propose_237 : decode cX6_propose 237 = .ok (.ineg, 1) := by decide +kernel
theorem dX6_propose_238 : decode cX6_propose 238 = .ok (.iadd, 1) := by decide +kernel
theorem dX6_propose_239 : decode cX6_propose 239 = .ok (.iastore, 1) := by decide +kernel
theorem dX6_propose_240 : decode cX6_propose 240 = .ok (.iinc 17 1, 3) := by decide +kernel
theorem dX6_propose_243 : decode cX6_propose 243 = .ok (.goto (-87), 3) := by decide +kernel
theorem dX6_propose_246 : decode cX6_propose 246 = .ok (.return_, 1) := by decide +kernel
theorem dX6_deviation_0 : decode cX6_deviation 0 = .ok (.aload_n 0, 1) := by decide +kernel
theorem dX6_deviation_1 : decode cX6_deviation 1 = .ok (.aload_n 0, 1) := by decide +kernel
theorem dX6_deviation_2 : decode cX6_deviation 2 = .ok (.getfield 20, 3) := by decide +kernel
theorem dX6_deviation_5 : decode cX6_deviation 5 = .ok (.iload_n 1, 1) := by decide +kernel
theorem dX6_deviation_6 : decode cX6_deviation 6 = .ok (.iaload, 1) := by decide +kernel
theorem dX6_deviation_7 : decode cX6_deviation 7 = .ok (.iload_n 2, 1) := by decide +kernel
theorem dX6_deviation_8 : decode cX6_deviation 8 = .ok (.aload_n 0, 1) := by decide +kernel
theorem dX6_deviation_9 : decode cX6_deviation 9 = .ok (.getfield 48, 3) := by decide +kernel
theorem dX6_deviation_12 : decode cX6_deviation 12 = .ok (.iload_n 1, 1) := by decide +kernel
theorem dX6_deviation_13 : decode cX6_deviation 13 = .ok (.iaload, 1) := by decide +kernel
theorem dX6_deviation_14 : decode cX6_deviation 14 = .ok (.invokevirtual 106, 3) := by decide +kernel
theorem dX6_deviation_17 : decode cX6_deviation 17 = .ok (.aload_n 0, 1) := by decide +kernel
theorem dX6_deviation_18 : decode cX6_deviation 18 = .ok (.getfield 48, 3) := by decide +kernel
theorem dX6_deviation_21 : decode cX6_deviation 21 = .ok (.iload_n 1, 1) := by decide +kernel
theorem dX6_deviation_22 : decode cX6_deviation 22 = .ok (.iaload, 1) := by decide +kernel
theorem dX6_deviation_23 : decode cX6_deviation 23 = .ok (.isub, 1) := by decide +kernel
theorem dX6_deviation_24 : decode cX6_deviation 24 = .ok (.ireturn, 1) := by decide +kernel
theorem dX6_fixSome_0 : decode cX6_fixSome 0 = .ok (.lconst 0, 1) := by decide +kernel
theorem dX6_fixSome_1 : decode cX6_fixSome 1 = .ok (.lstore 4, 2) := by decide +kernel
theorem dX6_fixSome_3 : decode cX6_fixSome 3 = .ok (.iload_n 1, 1) := by decide +kernel
theorem dX6_fixSome_4 : decode cX6_fixSome 4 = .ok (.istore 6, 2) := by decide +kernel
theorem dX6_fixSome_6 : decode cX6_fixSome 6 = .ok (.iload 6, 2) := by decide +kernel
theorem dX6_fixSome_8 : decode cX6_fixSome 8 = .ok (.iload_n 2, 1) := by decide +kernel
theorem dX6_fixSome_9 : decode cX6_fixSome 9 = .ok (.if_icmp .ge 36, 3) := by decide +kernel
theorem dX6_fixSome_12 : decode cX6_fixSome 12 = .ok (.lload 4, 2) := by decide +kernel
theorem dX6_fixSome_14 : decode cX6_fixSome 14 = .ok (.aload_n 0, 1) := by decide +kernel
theorem dX6_fixSome_15 : decode cX6_fixSome 15 = .ok (.getfield 41, 3) := by decide +kernel
theorem dX6_fixSome_18 : decode cX6_fixSome 18 = .ok (.iload 6, 2) := by decide +kernel
theorem dX6_fixSome_20 : decode cX6_fixSome 20 = .ok (.baload, 1) := by decide +kernel
theorem dX6_fixSome_21 : decode cX6_fixSome 21 = .ok (.ifCond .eq 7, 3) := by decide +kernel
theorem dX6_fixSome_24 : decode cX6_fixSome 24 = .ok (.lconst 0, 1) := by decide +kernel
theorem dX6_fixSome_25 : decode cX6_fixSome 25 = .ok (.goto 11, 3) := by decide +kernel
theorem dX6_fixSome_28 : decode cX6_fixSome 28 = .ok (.aload_n 0, 1) := by decide +kernel
theorem dX6_fixSome_29 : decode cX6_fixSome 29 = .ok (.iload 6, 2) := by decide +kernel
theorem dX6_fixSome_31 : decode cX6_fixSome 31 = .ok (.iload_n 3, 1) := by decide +kernel
theorem dX6_fixSome_32 : decode cX6_fixSome 32 = .ok (.invokevirtual 127, 3) := by decide +kernel
theorem dX6_fixSome_35 : decode cX6_fixSome 35 = .ok (.i2l, 1) := by decide +kernel
theorem dX6_fixSome_36 : decode cX6_fixSome 36 = .ok (.ladd, 1) := by decide +kernel
theorem dX6_fixSome_37 : decode cX6_fixSome 37 = .ok (.lstore 4, 2) := by decide +kernel
theorem dX6_fixSome_39 : decode cX6_fixSome 39 = .ok (.iinc 6 1, 3) := by decide +kernel
theorem dX6_fixSome_42 : decode cX6_fixSome 42 = .ok (.goto (-36), 3) := by decide +kernel
theorem dX6_fixSome_45 : decode cX6_fixSome 45 = .ok (.iconst 0, 1) := by decide +kernel
theorem dX6_fixSome_46 : decode cX6_fixSome 46 = .ok (.istore 6, 2) := by decide +kernel
theorem dX6_fixSome_48 : decode cX6_fixSome 48 = .ok (.iload_n 1, 1) := by decide +kernel
theorem dX6_fixSome_49 : decode cX6_fixSome 49 = .ok (.istore 7, 2) := by decide +kernel
theorem dX6_fixSome_51 : decode cX6_fixSome 51 = .ok (.iload 7, 2) := by decide +kernel
theorem dX6_fixSome_53 : decode cX6_fixSome 53 = .ok (.iload_n 2, 1) := by decide +kernel
theorem dX6_fixSome_54 : decode cX6_fixSome 54 = .ok (.if_icmp .ge 125, 3) := by decide +kernel
theorem dX6_fixSome_57 : decode cX6_fixSome 57 = .ok (.aload_n 0, 1) := by decide +kernel
theorem dX6_fixSome_58 : decode cX6_fixSome 58 = .ok (.getfield 41, 3) := by decide +kernel
theorem dX6_fixSome_61 : decode cX6_fixSome 61 = .ok (.iload 7, 2) := by decide +kernel
theorem dX6_fixSome_63 : decode cX6_fixSome 63 = .ok (.baload, 1) := by decide +kernel
theorem dX6_fixSome_64 : decode cX6_fixSome 64 = .ok (.ifCond .ne 109, 3) := by decide +kernel
theorem dX6_fixSome_67 : decode cX6_fixSome 67 = .ok (.aload_n 0, 1) := by decide +kernel
theorem dX6_fixSome_68 : decode cX6_fixSome 68 = .ok (.iload 7, 2) := by decide +kernel
theorem dX6_fixSome_70 : decode cX6_fixSome 70 = .ok (.iload_n 3, 1) := by decide +kernel
theorem dX6_fixSome_71 : decode cX6_fixSome 71 = .ok (.invokevirtual 127, 3) := by decide +kernel
theorem dX6_fixSome_74 : decode cX6_fixSome 74 = .ok (.istore 8, 2) := by decide +kernel
theorem dX6_fixSome_76 : decode cX6_fixSome 76 = .ok (.lload 4, 2) := by decide +kernel
theorem dX6_fixSome_78 : decode cX6_fixSome 78 = .ok (.lconst 0, 1) := by decide +kernel
theorem dX6_fixSome_79 : decode cX6_fixSome 79 = .ok (.lcmp, 1) := by decide +kernel
theorem dX6_fixSome_80 : decode cX6_fixSome 80 = .ok (.ifCond .eq 23, 3) := by decide +kernel
theorem dX6_fixSome_83 : decode cX6_fixSome 83 = .ok (.lload 4, 2) := by decide +kernel
theorem dX6_fixSome_85 : decode cX6_fixSome 85 = .ok (.lconst 0, 1) := by decide +kernel
theorem dX6_fixSome_86 : decode cX6_fixSome 86 = .ok (.lcmp, 1) := by decide +kernel
theorem dX6_fixSome_87 : decode cX6_fixSome 87 = .ok (.ifCond .le 11, 3) := by decide +kernel
theorem dX6_fixSome_90 : decode cX6_fixSome 90 = .ok (.iload 8, 2) := by decide +kernel
theorem dX6_fixSome_92 : decode cX6_fixSome 92 = .ok (.ifCond .le 15, 3) := by decide +kernel
theorem dX6_fixSome_95 : decode cX6_fixSome 95 = .ok (.goto 8, 3) := by decide +kernel
theorem dX6_fixSome_98 : decode cX6_fixSome 98 = .ok (.iload 8, 2) := by decide +kernel
theorem dX6_fixSome_100 : decode cX6_fixSome 100 = .ok (.ifCond .ge 7, 3) := by decide +kernel
theorem dX6_fixSome_103 : decode cX6_fixSome 103 = .ok (.iconst 1, 1) := by decide +kernel
theorem dX6_fixSome_104 : decode cX6_fixSome 104 = .ok (.goto 4, 3) := by decide +kernel
theorem dX6_fixSome_107 : decode cX6_fixSome 107 = .ok (.iconst 0, 1) := by decide +kernel
theorem dX6_fixSome_108 : decode cX6_fixSome 108 = .ok (.istore 9, 2) := by decide +kernel
theorem dX6_fixSome_110 : decode cX6_fixSome 110 = .ok (.iload 9, 2) := by decide +kernel
theorem dX6_fixSome_112 : decode cX6_fixSome 112 = .ok (.ifCond .eq 46, 3) := by decide +kernel
theorem dX6_fixSome_115 : decode cX6_fixSome 115 = .ok (.aload_n 0, 1) := by decide +kernel
theorem dX6_fixSome_116 : decode cX6_fixSome 116 = .ok (.getfield 41, 3) := by decide +kernel
theorem dX6_fixSome_119 : decode cX6_fixSome 119 = .ok (.iload 7, 2) := by decide +kernel
theorem dX6_fixSome_121 : decode cX6_fixSome 121 = .ok (.iconst 1, 1) := by decide +kernel
theorem dX6_fixSome_122 : decode cX6_fixSome 122 = .ok (.bastore, 1) := by decide +kernel
theorem dX6_fixSome_123 : decode cX6_fixSome 123 = .ok (.aload_n 0, 1) := by decide +kernel
theorem dX6_fixSome_124 : decode cX6_fixSome 124 = .ok (.getfield 29, 3) := by decide +kernel
theorem dX6_fixSome_127 : decode cX6_fixSome 127 = .ok (.iconst 2, 1) := by decide +kernel
theorem dX6_fixSome_128 : decode cX6_fixSome 128 = .ok (.aload_n 0, 1) := by decide +kernel
theorem dX6_fixSome_129 : decode cX6_fixSome 129 = .ok (.getfield 20, 3) := by decide +kernel
theorem dX6_fixSome_132 : decode cX6_fixSome 132 = .ok (.iload 7, 2) := by decide +kernel
theorem dX6_fixSome_134 : decode cX6_fixSome 134 = .ok (.iaload, 1) := by decide +kernel
theorem dX6_fixSome_135 : decode cX6_fixSome 135 = .ok (.imul, 1) := by decide +kernel
theorem dX6_fixSome_136 : decode cX6_fixSome 136 = .ok (.iload_n 3, 1) := by decide +kernel
theorem dX6_fixSome_137 : decode cX6_fixSome 137 = .ok (.iadd, 1) := by decide +kernel
theorem dX6_fixSome_138 : decode cX6_fixSome 138 = .ok (.aload_n 0, 1) := by decide +kernel
theorem dX6_fixSome_139 : decode cX6_fixSome 139 = .ok (.aload_n 0, 1) := by decide +kernel
theorem dX6_fixSome_140 : decode cX6_fixSome 140 = .ok (.getfield 20, 3) := by decide +kernel
theorem dX6_fixSome_143 : decode cX6_fixSome 143 = .ok (.iload 7, 2) := by decide +kernel
theorem dX6_fixSome_145 : decode cX6_fixSome 145 = .ok (.iaload, 1) := by decide +kernel
theorem dX6_fixSome_146 : decode cX6_fixSome 146 = .ok (.iload_n 3, 1) := by decide +kernel
theorem dX6_fixSome_147 : decode cX6_fixSome 147 = .ok (.aload_n 0, 1) := by decide +kernel
theorem dX6_fixSome_148 : decode cX6_fixSome 148 = .ok (.getfield 48, 3) := by decide +kernel
theorem dX6_fixSome_151 : decode cX6_fixSome 151 = .ok (.iload 7, 2) := by decide +kernel
theorem dX6_fixSome_153 : decode cX6_fixSome 153 = .ok (.iaload, 1) := by decide +kernel
theorem dX6_fixSome_154 : decode cX6_fixSome 154 = .ok (.invokevirtual 106, 3) := by decide +kernel
theorem dX6_fixSome_157 : decode cX6_fixSome 157 = .ok (.iastore, 1) := by decide +kernel
theorem dX6_fixSome_158 : decode cX6_fixSome 158 = .ok (.iload 6, 2) := by decide +kernel
theorem dX6_fixSome_160 : decode cX6_fixSome 160 = .ok (.iload 9, 2) := by decide +kernel
theorem dX6_fixSome_162 : decode cX6_fixSome 162 = .ok (.ifCond .eq 7, 3) := by decide +kernel
theorem dX6_fixSome_165 : decode cX6_fixSome 165 = .ok (.iconst 0, 1) := by decide +kernel
theorem dX6_fixSome_166 : decode cX6_fixSome 166 = .ok (.goto 4, 3) := by decide +kernel
theorem dX6_fixSome_169 : decode cX6_fixSome 169 = .ok (.iconst 1, 1) := by decide +kernel
theorem dX6_fixSome_170 : decode cX6_fixSome 170 = .ok (.iadd, 1) := by decide +kernel
theorem dX6_fixSome_171 : decode cX6_fixSome 171 = .ok (.istore 6, 2) := by decide +kernel
theorem dX6_fixSome_173 : decode cX6_fixSome 173 = .ok (.iinc 7 1, 3) := by decide +kernel
theorem dX6_fixSome_176 : decode cX6_fixSome 176 = .ok (.goto (-125), 3) := by decide +kernel
theorem dX6_fixSome_179 : decode cX6_fixSome 179 = .ok (.iload 6, 2) := by decide +kernel
theorem dX6_fixSome_181 : decode cX6_fixSome 181 = .ok (.ireturn, 1) := by decide +kernel
theorem dX6_flex_0 : decode cX6_flex 0 = .ok (.aload_n 0, 1) := by decide +kernel
theorem dX6_flex_1 : decode cX6_flex 1 = .ok (.iload_n 1, 1) := by decide +kernel
theorem dX6_flex_2 : decode cX6_flex 2 = .ok (.iload_n 2, 1) := by decide +kernel
theorem dX6_flex_3 : decode cX6_flex 3 = .ok (.iload_n 3, 1) := by decide +kernel
theorem dX6_flex_4 : decode cX6_flex 4 = .ok (.iload 4, 2) := by decide +kernel
theorem dX6_flex_6 : decode cX6_flex 6 = .ok (.iload 5, 2) := by decide +kernel
theorem dX6_flex_8 : decode cX6_flex 8 = .ok (.invokevirtual 130, 3) := by decide +kernel
theorem dX6_flex_11 : decode cX6_flex 11 = .ok (.istore 6, 2) := by decide +kernel
theorem dX6_flex_13 : decode cX6_flex 13 = .ok (.iconst 0, 1) := by decide +kernel
theorem dX6_flex_14 : decode cX6_flex 14 = .ok (.istore 7, 2) := by decide +kernel
theorem dX6_flex_16 : decode cX6_flex 16 = .ok (.iload_n 2, 1) := by decide +kernel
theorem dX6_flex_17 : decode cX6_flex 17 = .ok (.istore 8, 2) := by decide +kernel
theorem dX6_flex_19 : decode cX6_flex 19 = .ok (.iload 8, 2) := by decide +kernel
theorem dX6_flex_21 : decode cX6_flex 21 = .ok (.iload_n 3, 1) := by decide +kernel
theorem dX6_flex_22 : decode cX6_flex 22 = .ok (.if_icmp .ge 29, 3) := by decide +kernel
theorem dX6_flex_25 : decode cX6_flex 25 = .ok (.iload 7, 2) := by decide +kernel
theorem dX6_flex_27 : decode cX6_flex 27 = .ok (.aload_n 0, 1) := by decide +kernel
theorem dX6_flex_28 : decode cX6_flex 28 = .ok (.getfield 41, 3) := by decide +kernel
theorem dX6_flex_31 : decode cX6_flex 31 = .ok (.iload 8, 2) := by decide +kernel
theorem dX6_flex_33 : decode cX6_flex 33 = .ok (.baload, 1) := by decide +kernel
theorem dX6_flex_34 : decode cX6_flex 34 = .ok (.ifCond .eq 7, 3) := by decide +kernel
theorem dX6_flex_37 : decode cX6_flex 37 = .ok (.iconst 0, 1) := by decide +kernel
theorem dX6_flex_38 : decode cX6_flex 38 = .ok (.goto 4, 3) := by decide +kernel
theorem dX6_flex_41 : decode cX6_flex 41 = .ok (.iconst 1, 1) := by decide +kernel
theorem dX6_flex_42 : decode cX6_flex 42 = .ok (.iadd, 1) := by decide +kernel
theorem dX6_flex_43 : decode cX6_flex 43 = .ok (.istore 7, 2) := by decide +kernel
theorem dX6_flex_45 : decode cX6_flex 45 = .ok (.iinc 8 1, 3) := by decide +kernel
theorem dX6_flex_48 : decode cX6_flex 48 = .ok (.goto (-29), 3) := by decide +kernel
theorem dX6_flex_51 : decode cX6_flex 51 = .ok (.iload 7, 2) := by decide +kernel
theorem dX6_flex_53 : decode cX6_flex 53 = .ok (.ifCond .le 29, 3) := by decide +kernel
theorem dX6_flex_56 : decode cX6_flex 56 = .ok (.aload_n 0, 1) := by decide +kernel
theorem dX6_flex_57 : decode cX6_flex 57 = .ok (.iload_n 1, 1) := by decide +kernel
theorem dX6_flex_58 : decode cX6_flex 58 = .ok (.iload_n 2, 1) := by decide +kernel
theorem dX6_flex_59 : decode cX6_flex 59 = .ok (.iload_n 3, 1) := by decide +kernel
theorem dX6_flex_60 : decode cX6_flex 60 = .ok (.iload 4, 2) := by decide +kernel
theorem dX6_flex_62 : decode cX6_flex 62 = .ok (.iload 5, 2) := by decide +kernel
theorem dX6_flex_64 : decode cX6_flex 64 = .ok (.iload 6, 2) := by decide +kernel
theorem dX6_flex_66 : decode cX6_flex 66 = .ok (.invokevirtual 134, 3) := by decide +kernel
theorem dX6_flex_69 : decode cX6_flex 69 = .ok (.aload_n 0, 1) := by decide +kernel
theorem dX6_flex_70 : decode cX6_flex 70 = .ok (.iload_n 2, 1) := by decide +kernel
theorem dX6_flex_71 : decode cX6_flex 71 = .ok (.iload_n 3, 1) := by decide +kernel
theorem dX6_flex_72 : decode cX6_flex 72 = .ok (.iload 4, 2) := by decide +kernel
theorem dX6_flex_74 : decode cX6_flex 74 = .ok (.invokevirtual 138, 3) := by decide +kernel
theorem dX6_flex_77 : decode cX6_flex 77 = .ok (.istore 7, 2) := by decide +kernel
theorem dX6_flex_79 : decode cX6_flex 79 = .ok (.goto (-28), 3) := by decide +kernel
theorem dX6_flex_82 : decode cX6_flex 82 = .ok (.return_, 1) := by decide +kernel
theorem dX6_endOfLine_0 : decode cX6_endOfLine 0 = .ok (.aload_n 0, 1) := by decide +kernel
theorem dX6_endOfLine_1 : decode cX6_endOfLine 1 = .ok (.iload_n 1, 1) := by decide +kernel
theorem dX6_endOfLine_2 : decode cX6_endOfLine 2 = .ok (.iconst 1, 1) := by decide +kernel
theorem dX6_endOfLine_3 : decode cX6_endOfLine 3 = .ok (.invokevirtual 73, 3) := by decide +kernel
theorem dX6_endOfLine_6 : decode cX6_endOfLine 6 = .ok (.ifCond .ne 8, 3) := by decide +kernel
theorem dX6_endOfLine_9 : decode cX6_endOfLine 9 = .ok (.aload_n 0, 1) := by decide +kernel
theorem dX6_endOfLine_10 : decode cX6_endOfLine 10 = .ok (.getfield 77, 3) := by decide +kernel
theorem dX6_endOfLine_13 : decode cX6_endOfLine 13 = .ok (.ireturn, 1) := by decide +kernel
theorem dX6_endOfLine_14 : decode cX6_endOfLine 14 = .ok (.aload_n 0, 1) := by decide +kernel
theorem dX6_endOfLine_15 : decode cX6_endOfLine 15 = .ok (.iload_n 1, 1) := by decide +kernel
theorem dX6_endOfLine_16 : decode cX6_endOfLine 16 = .ok (.iconst 0, 1) := by decide +kernel
theorem dX6_endOfLine_17 : decode cX6_endOfLine 17 = .ok (.invokevirtual 141, 3) := by decide +kernel
theorem dX6_endOfLine_20 : decode cX6_endOfLine 20 = .ok (.istore_n 3, 1) := by decide +kernel
theorem dX6_endOfLine_21 : decode cX6_endOfLine 21 = .ok (.aload_n 0, 1) := by decide +kernel
theorem dX6_endOfLine_22 : decode cX6_endOfLine 22 = .ok (.aload_n 0, 1) := by decide +kernel
theorem dX6_endOfLine_23 : decode cX6_endOfLine 23 = .ok (.getfield 20, 3) := by decide +kernel
theorem dX6_endOfLine_26 : decode cX6_endOfLine 26 = .ok (.iload_n 2, 1) := by decide +kernel
theorem dX6_endOfLine_27 : decode cX6_endOfLine 27 = .ok (.iaload, 1) := by decide +kernel
theorem dX6_endOfLine_28 : decode cX6_endOfLine 28 = .ok (.aload_n 0, 1) := by decide +kernel
theorem dX6_endOfLine_29 : decode cX6_endOfLine 29 = .ok (.aload_n 0, 1) := by decide +kernel
theorem dX6_endOfLine_30 : decode cX6_endOfLine 30 = .ok (.getfield 20, 3) := by decide +kernel
theorem dX6_endOfLine_33 : decode cX6_endOfLine 33 = .ok (.iload_n 2, 1) := by decide +kernel
theorem dX6_endOfLine_34 : decode cX6_endOfLine 34 = .ok (.iaload, 1) := by decide +kernel
theorem dX6_endOfLine_35 : decode cX6_endOfLine 35 = .ok (.iconst 0, 1) := by decide +kernel
theorem dX6_endOfLine_36 : decode cX6_endOfLine 36 = .ok (.invokevirtual 124, 3) := by decide +kernel
theorem dX6_endOfLine_39 : decode cX6_endOfLine 39 = .ok (.invokevirtual 100, 3) := by decide +kernel
theorem dX6_endOfLine_42 : decode cX6_endOfLine 42 = .ok (.istore 4, 2) := by decide +kernel
theorem dX6_endOfLine_44 : decode cX6_endOfLine 44 = .ok (.iload_n 2, 1) := by decide +kernel
theorem dX6_endOfLine_45 : decode cX6_endOfLine 45 = .ok (.iconst 1, 1) := by decide +kernel
theorem dX6_endOfLine_46 : decode cX6_endOfLine 46 = .ok (.iadd, 1) := by decide +kernel
theorem dX6_endOfLine_47 : decode cX6_endOfLine 47 = .ok (.istore 5, 2) := by decide +kernel
theorem dX6_endOfLine_49 : decode cX6_endOfLine 49 = .ok (.iconst 1, 1) := by decide +kernel
theorem dX6_endOfLine_50 : decode cX6_endOfLine 50 = .ok (.istore 6, 2) := by decide +kernel
theorem dX6_endOfLine_52 : decode cX6_endOfLine 52 = .ok (.iload 6, 2) := by decide +kernel
theorem dX6_endOfLine_54 : decode cX6_endOfLine 54 = .ok (.ifCond .eq 82, 3) := by decide +kernel
theorem dX6_endOfLine_57 : decode cX6_endOfLine 57 = .ok (.iload 5, 2) := by decide +kernel
theorem dX6_endOfLine_59 : decode cX6_endOfLine 59 = .ok (.aload_n 0, 1) := by decide +kernel
theorem dX6_endOfLine_60 : decode cX6_endOfLine 60 = .ok (.getfield 77, 3) := by decide +kernel
theorem dX6_endOfLine_63 : decode cX6_endOfLine 63 = .ok (.if_icmp .ge 73, 3) := by decide +kernel
theorem dX6_endOfLine_66 : decode cX6_endOfLine 66 = .ok (.iload 4, 2) := by decide +kernel
theorem dX6_endOfLine_68 : decode cX6_endOfLine 68 = .ok (.aload_n 0, 1) := by decide +kernel
theorem dX6_endOfLine_69 : decode cX6_endOfLine 69 = .ok (.iload_n 1, 1) := by decide +kernel
theorem dX6_endOfLine_70 : decode cX6_endOfLine 70 = .ok (.iconst 4, 1) := by decide +kernel
theorem dX6_endOfLine_71 : decode cX6_endOfLine 71 = .ok (.invokevirtual 73, 3) := by decide +kernel
theorem dX6_endOfLine_74 : decode cX6_endOfLine 74 = .ok (.iadd, 1) := by decide +kernel
theorem dX6_endOfLine_75 : decode cX6_endOfLine 75 = .ok (.aload_n 0, 1) := by decide +kernel
theorem dX6_endOfLine_76 : decode cX6_endOfLine 76 = .ok (.aload_n 0, 1) := by decide +kernel
theorem dX6_endOfLine_77 : decode cX6_endOfLine 77 = .ok (.getfield 20, 3) := by decide +kernel
theorem dX6_endOfLine_80 : decode cX6_endOfLine 80 = .ok (.iload 5, 2) := by decide +kernel
theorem dX6_endOfLine_82 : decode cX6_endOfLine 82 = .ok (.iaload, 1) := by decide +kernel
theorem dX6_endOfLine_83 : decode cX6_endOfLine 83 = .ok (.aload_n 0, 1) := by decide +kernel
theorem dX6_endOfLine_84 : decode cX6_endOfLine 84 = .ok (.aload_n 0, 1) := by decide +kernel
theorem dX6_endOfLine_85 : decode cX6_endOfLine 85 = .ok (.getfield 20, 3) := by decide +kernel
theorem dX6_endOfLine_88 : decode cX6_endOfLine 88 = .ok (.iload 5, 2) := by decide +kernel
theorem dX6_endOfLine_90 : decode cX6_endOfLine 90 = .ok (.iaload, 1) := by decide +kernel
theorem dX6_endOfLine_91 : decode cX6_endOfLine 91 = .ok (.iconst 0, 1) := by decide +kernel
theorem dX6_endOfLine_92 : decode cX6_endOfLine 92 = .ok (.invokevirtual 124, 3) := by decide +kernel
theorem dX6_endOfLine_95 : decode cX6_endOfLine 95 = .ok (.invokevirtual 100, 3) := by decide +kernel
theorem dX6_endOfLine_98 : decode cX6_endOfLine 98 = .ok (.iadd, 1) := by decide +kernel
theorem dX6_endOfLine_99 : decode cX6_endOfLine 99 = .ok (.istore 7, 2) := by decide +kernel
theorem dX6_endOfLine_101 : decode cX6_endOfLine 101 = .ok (.iload 7, 2) := by decide +kernel
theorem dX6_endOfLine_103 : decode cX6_endOfLine 103 = .ok (.iload_n 3, 1) := by decide +kernel
theorem dX6_endOfLine_104 : decode cX6_endOfLine 104 = .ok (.if_icmp .gt 7, 3) := by decide +kernel
theorem dX6_endOfLine_107 : decode cX6_endOfLine 107 = .ok (.iconst 1, 1) := by decide +kernel
theorem dX6_endOfLine_108 : decode cX6_endOfLine 108 = .ok (.goto 4, 3) := by decide +kernel
theorem dX6_endOfLine_111 : decode cX6_endOfLine 111 = .ok (.iconst 0, 1) := by decide +kernel
theorem dX6_endOfLine_112 : decode cX6_endOfLine 112 = .ok (.istore 6, 2) := by decide +kernel
theorem dX6_endOfLine_114 : decode cX6_endOfLine 114 = .ok (.iload 7, 2) := by decide +kernel
theorem dX6_endOfLine_116 : decode cX6_endOfLine 116 = .ok (.istore 4, 2) := by decide +kernel
theorem dX6_endOfLine_118 : decode cX6_endOfLine 118 = .ok (.iload 5, 2) := by decide +kernel
theorem dX6_endOfLine_120 : decode cX6_endOfLine 120 = .ok (.iload 6, 2) := by decide +kernel
theorem dX6_endOfLine_122 : decode cX6_endOfLine 122 = .ok (.ifCond .eq 7, 3) := by decide +kernel
theorem dX6_endOfLine_125 : decode cX6_endOfLine 125 = .ok (.iconst 1, 1) := by decide +kernel
theorem dX6_endOfLine_126 : decode cX6_endOfLine 126 = .ok (.goto 4, 3) := by decide +kernel
theorem dX6_endOfLine_129 : decode cX6_endOfLine 129 = .ok (.iconst 0, 1) := by decide +kernel
theorem dX6_endOfLine_130 : decode cX6_endOfLine 130 = .ok (.iadd, 1) := by decide +kernel
theorem dX6_endOfLine_131 : decode cX6_endOfLine 131 = .ok (.istore 5, 2) := by decide +kernel
theorem dX6_endOfLine_133 : decode cX6_endOfLine 133 = .ok (.goto (-81), 3) := by decide +kernel
theorem dX6_endOfLine_136 : decode cX6_endOfLine 136 = .ok (.iload 5, 2) := by decide +kernel
theorem dX6_endOfLine_138 : decode cX6_endOfLine 138 = .ok (.ireturn, 1) := by decide +kernel
theorem dX6_findLines_0 : decode cX6_findLines 0 = .ok (.iconst 0, 1) := by decide +kernel
theorem dX6_findLines_1 : decode cX6_findLines 1 = .ok (.istore_n 2, 1) := by decide +kernel
theorem dX6_findLines_2 : decode cX6_findLines 2 = .ok (.iconst 0, 1) := by decide +kernel
theorem dX6_findLines_3 : decode cX6_findLines 3 = .ok (.istore_n 3, 1) := by decide +kernel
theorem dX6_findLines_4 : decode cX6_findLines 4 = .ok (.iload_n 2, 1) := by decide +kernel
theorem dX6_findLines_5 : decode cX6_findLines 5 = .ok (.aload_n 0, 1) := by decide +kernel
theorem dX6_findLines_6 : decode cX6_findLines 6 = .ok (.getfield 77, 3) := by decide +kernel
theorem dX6_findLines_9 : decode cX6_findLines 9 = .ok (.if_icmp .ge 64, 3) := by decide +kernel
theorem dX6_findLines_12 : decode cX6_findLines 12 = .ok (.aload_n 0, 1) := by decide +kernel
theorem dX6_findLines_13 : decode cX6_findLines 13 = .ok (.iload_n 1, 1) := by decide +kernel
theorem dX6_findLines_14 : decode cX6_findLines 14 = .ok (.iload_n 2, 1) := by decide +kernel
theorem dX6_findLines_15 : decode cX6_findLines 15 = .ok (.invokevirtual 144, 3) := by decide +kernel
theorem dX6_findLines_18 : decode cX6_findLines 18 = .ok (.istore 4, 2) := by decide +kernel
theorem dX6_findLines_20 : decode cX6_findLines 20 = .ok (.iload_n 2, 1) := by decide +kernel
theorem dX6_findLines_21 : decode cX6_findLines 21 = .ok (.istore 5, 2) := by decide +kernel
theorem dX6_findLines_23 : decode cX6_findLines 23 = .ok (.iload 5, 2) := by decide +kernel
theorem dX6_findLines_25 : decode cX6_findLines 25 = .ok (.iload 4, 2) := by decide +kernel
theorem dX6_findLines_27 : decode cX6_findLines 27 = .ok (.if_icmp .ge 22, 3) := by decide +kernel
theorem dX6_findLines_30 : decode cX6_findLines 30 = .ok (.aload_n 0, 1) := by decide +kernel
theorem dX6_findLines_31 : decode cX6_findLines 31 = .ok (.getfield 35, 3) := by decide +kernel
theorem dX6_findLines_34 : decode cX6_findLines 34 = .ok (.aload_n 0, 1) := by decide +kernel
theorem dX6_findLines_35 : decode cX6_findLines 35 = .ok (.getfield 20, 3) := by decide +kernel
theorem dX6_findLines_38 : decode cX6_findLines 38 = .ok (.iload 5, 2) := by decide +kernel
theorem dX6_findLines_40 : decode cX6_findLines 40 = .ok (.iaload, 1) := by decide +kernel
theorem dX6_findLines_41 : decode cX6_findLines 41 = .ok (.iload_n 3, 1) := by decide +kernel
theorem dX6_findLines_42 : decode cX6_findLines 42 = .ok (.iastore, 1) := by decide +kernel
theorem dX6_findLines_43 : decode cX6_findLines 43 = .ok (.iinc 5 1, 3) := by decide +kernel
theorem dX6_findLines_46 : decode cX6_findLines 46 = .ok (.goto (-23), 3) := by decide +kernel
theorem dX6_findLines_49 : decode cX6_findLines 49 = .ok (.aload_n 0, 1) := by decide +kernel
theorem dX6_findLines_50 : decode cX6_findLines 50 = .ok (.iload_n 1, 1) := by decide +kernel
theorem dX6_findLines_51 : decode cX6_findLines 51 = .ok (.iload_n 2, 1) := by decide +kernel
theorem dX6_findLines_52 : decode cX6_findLines 52 = .ok (.iload 4, 2) := by decide +kernel
theorem dX6_findLines_54 : decode cX6_findLines 54 = .ok (.iconst 0, 1) := by decide +kernel
theorem dX6_findLines_55 : decode cX6_findLines 55 = .ok (.aload_n 0, 1) := by decide +kernel
theorem dX6_findLines_56 : decode cX6_findLines 56 = .ok (.iload_n 1, 1) := by decide +kernel
theorem dX6_findLines_57 : decode cX6_findLines 57 = .ok (.iconst 0, 1) := by decide +kernel
theorem dX6_findLines_58 : decode cX6_findLines 58 = .ok (.invokevirtual 141, 3) := by decide +kernel
theorem dX6_findLines_61 : decode cX6_findLines 61 = .ok (.invokevirtual 147, 3) := by decide +kernel
theorem dX6_findLines_64 : decode cX6_findLines 64 = .ok (.iload 4, 2) := by decide +kernel
theorem dX6_findLines_66 : decode cX6_findLines 66 = .ok (.istore_n 2, 1) := by decide +kernel
theorem dX6_findLines_67 : decode cX6_findLines 67 = .ok (.iinc 3 1, 3) := by decide +kernel
theorem dX6_findLines_70 : decode cX6_findLines 70 = .ok (.goto (-66), 3) := by decide +kernel
theorem dX6_findLines_73 : decode cX6_findLines 73 = .ok (.aload_n 0, 1) := by decide +kernel
theorem dX6_findLines_74 : decode cX6_findLines 74 = .ok (.getfield 38, 3) := by decide +kernel
theorem dX6_findLines_77 : decode cX6_findLines 77 = .ok (.iload_n 1, 1) := by decide +kernel
theorem dX6_findLines_78 : decode cX6_findLines 78 = .ok (.iload_n 3, 1) := by decide +kernel
theorem dX6_findLines_79 : decode cX6_findLines 79 = .ok (.iastore, 1) := by decide +kernel
theorem dX6_findLines_80 : decode cX6_findLines 80 = .ok (.return_, 1) := by decide +kernel
theorem dX6_findColumnWidths_0 : decode cX6_findColumnWidths 0 = .ok (.iconst 0, 1) := by decide +kernel
theorem dX6_findColumnWidths_1 : decode cX6_findColumnWidths 1 = .ok (.istore_n 2, 1) := by decide +kernel
theorem dX6_findColumnWidths_2 : decode cX6_findColumnWidths 2 = .ok (.iload_n 2, 1) := by decide +kernel
theorem dX6_findColumnWidths_3 : decode cX6_findColumnWidths 3 = .ok (.aload_n 0, 1) := by decide +kernel
theorem dX6_findColumnWidths_4 : decode cX6_findColumnWidths 4 = .ok (.getfield 77, 3) := by decide +kernel
theorem dX6_findColumnWidths_7 : decode cX6_findColumnWidths 7 = .ok (.if_icmp .ge 116, 3) := by decide +kernel
theorem dX6_findColumnWidths_10 : decode cX6_findColumnWidths 10 = .ok (.aload_n 0, 1) := by decide +kernel
theorem dX6_findColumnWidths_11 : decode cX6_findColumnWidths 11 = .ok (.getfield 20, 3) := by decide +kernel
theorem dX6_findColumnWidths_14 : decode cX6_findColumnWidths 14 = .ok (.iload_n 2, 1) := by decide +kernel
theorem dX6_findColumnWidths_15 : decode cX6_findColumnWidths 15 = .ok (.iaload, 1) := by decide +kernel
theorem dX6_findColumnWidths_16 : decode cX6_findColumnWidths 16 = .ok (.istore_n 3, 1) := by decide +kernel
theorem dX6_findColumnWidths_17 : decode cX6_findColumnWidths 17 = .ok (.aload_n 0, 1) := by decide +kernel
theorem dX6_findColumnWidths_18 : decode cX6_findColumnWidths 18 = .ok (.iload_n 1, 1) := by decide +kernel
theorem dX6_findColumnWidths_19 : decode cX6_findColumnWidths 19 = .ok (.iconst 0, 1) := by decide +kernel
theorem dX6_findColumnWidths_20 : decode cX6_findColumnWidths 20 = .ok (.invokevirtual 141, 3) := by decide +kernel
theorem dX6_findColumnWidths_23 : decode cX6_findColumnWidths 23 = .ok (.iconst 2, 1) := by decide +kernel
theorem dX6_findColumnWidths_24 : decode cX6_findColumnWidths 24 = .ok (.aload_n 0, 1) := by decide +kernel
theorem dX6_findColumnWidths_25 : decode cX6_findColumnWidths 25 = .ok (.iload_n 3, 1) := by decide +kernel
theorem dX6_findColumnWidths_26 : decode cX6_findColumnWidths 26 = .ok (.bipush 6, 2) := by decide +kernel
theorem dX6_findColumnWidths_28 : decode cX6_findColumnWidths 28 = .ok (.invokevirtual 73, 3) := by decide +kernel
theorem dX6_findColumnWidths_31 : decode cX6_findColumnWidths 31 = .ok (.imul, 1) := by decide +kernel
theorem dX6_findColumnWidths_32 : decode cX6_findColumnWidths 32 = .ok (.isub, 1) := by decide +kernel
theorem dX6_findColumnWidths_33 : decode cX6_findColumnWidths 33 = .ok (.invokestatic 97, 3) := by decide +kernel
theorem dX6_findColumnWidths_36 : decode cX6_findColumnWidths 36 = .ok (.istore 4, 2) := by decide +kernel
theorem dX6_findColumnWidths_38 : decode cX6_findColumnWidths 38 = .ok (.aload_n 0, 1) := by decide +kernel
theorem dX6_findColumnWidths_39 : decode cX6_findColumnWidths 39 = .ok (.getfield 26, 3) := by decide +kernel
theorem dX6_findColumnWidths_42 : decode cX6_findColumnWidths 42 = .ok (.iconst 2, 1) := by decide +kernel
theorem dX6_findColumnWidths_43 : decode cX6_findColumnWidths 43 = .ok (.iload_n 3, 1) := by decide +kernel
theorem dX6_findColumnWidths_44 : decode cX6_findColumnWidths 44 = .ok (.imul, 1) := by decide +kernel
theorem dX6_findColumnWidths_45 : decode cX6_findColumnWidths 45 = .ok (.iaload, 1) := by decide +kernel
theorem dX6_findColumnWidths_46 : decode cX6_findColumnWidths 46 = .ok (.istore 5, 2) := by decide +kernel
theorem dX6_findColumnWidths_48 : decode cX6_findColumnWidths 48 = .ok (.aload_n 0, 1) := by decide +kernel
theorem dX6_findColumnWidths_49 : decode cX6_findColumnWidths 49 = .ok (.iload_n 3, 1) := by decide +kernel
theorem dX6_findColumnWidths_50 : decode cX6_findColumnWidths 50 = .ok (.bipush 10, 2) := by decide +kernel
theorem dX6_findColumnWidths_52 : decode cX6_findColumnWidths 52 = .ok (.invokevirtual 73, 3) := by decide +kernel
theorem dX6_findColumnWidths_55 : decode cX6_findColumnWidths 55 = .ok (.iconst (-1), 1) := by decide +kernel
theorem dX6_findColumnWidths_56 : decode cX6_findColumnWidths 56 = .ok (.if_icmp .eq 13, 3) := by decide +kernel
theorem dX6_findColumnWidths_59 : decode cX6_findColumnWidths 59 = .ok (.aload_n 0, 1) := by decide +kernel
theorem dX6_findColumnWidths_60 : decode cX6_findColumnWidths 60 = .ok (.iload_n 3, 1) := by decide +kernel
theorem dX6_findColumnWidths_61 : decode cX6_findColumnWidths 61 = .ok (.bipush 10, 2) := by decide +kernel
theorem dX6_findColumnWidths_63 : decode cX6_findColumnWidths 63 = .ok (.invokevirtual 73, 3) := by decide +kernel
theorem dX6_findColumnWidths_66 : decode cX6_findColumnWidths 66 = .ok (.goto 26, 3) := by decide +kernel
theorem dX6_findColumnWidths_69 : decode cX6_findColumnWidths 69 = .ok (.aload_n 0, 1) := by decide +kernel
theorem dX6_findColumnWidths_70 : decode cX6_findColumnWidths 70 = .ok (.iload_n 3, 1) := by decide +kernel
theorem dX6_findColumnWidths_71 : decode cX6_findColumnWidths 71 = .ok (.invokevirtual 151, 3) := by decide +kernel
theorem dX6_findColumnWidths_74 : decode cX6_findColumnWidths 74 = .ok (.iconst 3, 1) := by decide +kernel
theorem dX6_findColumnWidths_75 : decode cX6_findColumnWidths 75 = .ok (.if_icmp .eq 10, 3) := by decide +kernel
theorem dX6_findColumnWidths_78 : decode cX6_findColumnWidths 78 = .ok (.iload 4, 2) := by decide +kernel
theorem dX6_findColumnWidths_80 : decode cX6_findColumnWidths 80 = .ok (.iload 5, 2) := by decide +kernel
theorem dX6_findColumnWidths_82 : decode cX6_findColumnWidths 82 = .ok (.if_icmp .ge 8, 3) := by decide +kernel
theorem dX6_findColumnWidths_85 : decode cX6_findColumnWidths 85 = .ok (.iload 4, 2) := by decide +kernel
theorem dX6_findColumnWidths_87 : decode cX6_findColumnWidths 87 = .ok (.goto 5, 3) := by decide +kernel
theorem dX6_findColumnWidths_90 : decode cX6_findColumnWidths 90 = .ok (.iload 5, 2) := by decide +kernel
theorem dX6_findColumnWidths_92 : decode cX6_findColumnWidths 92 = .ok (.istore 6, 2) := by decide +kernel
theorem dX6_findColumnWidths_94 : decode cX6_findColumnWidths 94 = .ok (.aload_n 0, 1) := by decide +kernel
theorem dX6_findColumnWidths_95 : decode cX6_findColumnWidths 95 = .ok (.getfield 29, 3) := by decide +kernel
theorem dX6_findColumnWidths_98 : decode cX6_findColumnWidths 98 = .ok (.iconst 2, 1) := by decide +kernel
theorem dX6_findColumnWidths_99 : decode cX6_findColumnWidths 99 = .ok (.iload_n 3, 1) := by decide +kernel
theorem dX6_findColumnWidths_100 : decode cX6_findColumnWidths 100 = .ok (.imul, 1) := by decide +kernel
theorem dX6_findColumnWidths_101 : decode cX6_findColumnWidths 101 = .ok (.aload_n 0, 1) := by decide +kernel
theorem dX6_findColumnWidths_102 : decode cX6_findColumnWidths 102 = .ok (.iload_n 3, 1) := by decide +kernel
theorem dX6_findColumnWidths_103 : decode cX6_findColumnWidths 103 = .ok (.iconst 0, 1) := by decide +kernel
theorem dX6_findColumnWidths_104 : decode cX6_findColumnWidths 104 = .ok (.iload 6, 2) := by decide +kernel
theorem dX6_findColumnWidths_106 : decode cX6_findColumnWidths 106 = .ok (.invokevirtual 106, 3) := by decide +kernel
theorem dX6_findColumnWidths_109 : decode cX6_findColumnWidths 109 = .ok (.iastore, 1) := by decide +kernel
theorem dX6_findColumnWidths_110 : decode cX6_findColumnWidths 110 = .ok (.aload_n 0, 1) := by decide +kernel
theorem dX6_findColumnWidths_111 : decode cX6_findColumnWidths 111 = .ok (.getfield 35, 3) := by decide +kernel
theorem dX6_findColumnWidths_114 : decode cX6_findColumnWidths 114 = .ok (.iload_n 3, 1) := by decide +kernel
theorem dX6_findColumnWidths_115 : decode cX6_findColumnWidths 115 = .ok (.iload_n 2, 1) := by decide +kernel
theorem dX6_findColumnWidths_116 : decode cX6_findColumnWidths 116 = .ok (.iastore, 1) := by decide +kernel
theorem dX6_findColumnWidths_117 : decode cX6_findColumnWidths 117 = .ok (.iinc 2 1, 3) := by decide +kernel
theorem dX6_findColumnWidths_120 : decode cX6_findColumnWidths 120 = .ok (.goto (-118), 3) := by decide +kernel
theorem dX6_findColumnWidths_123 : decode cX6_findColumnWidths 123 = .ok (.aload_n 0, 1) := by decide +kernel
theorem dX6_findColumnWidths_124 : decode cX6_findColumnWidths 124 = .ok (.getfield 38, 3) := by decide +kernel
theorem dX6_findColumnWidths_127 : decode cX6_findColumnWidths 127 = .ok (.iload_n 1, 1) := by decide +kernel
theorem dX6_findColumnWidths_128 : decode cX6_findColumnWidths 128 = .ok (.aload_n 0, 1) := by decide +kernel
theorem dX6_findColumnWidths_129 : decode cX6_findColumnWidths 129 = .ok (.getfield 77, 3) := by decide +kernel
theorem dX6_findColumnWidths_132 : decode cX6_findColumnWidths 132 = .ok (.iastore, 1) := by decide +kernel
theorem dX6_findColumnWidths_133 : decode cX6_findColumnWidths 133 = .ok (.return_, 1) := by decide +kernel
theorem dX6_textLines_0 : decode cX6_textLines 0 = .ok (.aload_n 0, 1) := by decide +kernel
theorem dX6_textLines_1 : decode cX6_textLines 1 = .ok (.iload_n 1, 1) := by decide +kernel
theorem dX6_textLines_2 : decode cX6_textLines 2 = .ok (.iconst 0, 1) := by decide +kernel
theorem dX6_textLines_3 : decode cX6_textLines 3 = .ok (.invokevirtual 141, 3) := by decide +kernel
theorem dX6_textLines_6 : decode cX6_textLines 6 = .ok (.bipush 8, 2) := by decide +kernel
theorem dX6_textLines_8 : decode cX6_textLines 8 = .ok (.idiv, 1) := by decide +kernel
theorem dX6_textLines_9 : decode cX6_textLines 9 = .ok (.istore_n 2, 1) := by decide +kernel
theorem dX6_textLines_10 : decode cX6_textLines 10 = .ok (.iload_n 2, 1) := by decide +kernel
theorem dX6_textLines_11 : decode cX6_textLines 11 = .ok (.iconst 1, 1) := by decide +kernel
theorem dX6_textLines_12 : decode cX6_textLines 12 = .ok (.if_icmp .ge 7, 3) := by decide +kernel
theorem dX6_textLines_15 : decode cX6_textLines 15 = .ok (.iconst 1, 1) := by decide +kernel
theorem dX6_textLines_16 : decode cX6_textLines 16 = .ok (.goto 4, 3) := by decide +kernel
theorem dX6_textLines_19 : decode cX6_textLines 19 = .ok (.iload_n 2, 1) := by decide +kernel
theorem dX6_textLines_20 : decode cX6_textLines 20 = .ok (.istore_n 2, 1) := by decide +kernel
theorem dX6_textLines_21 : decode cX6_textLines 21 = .ok (.aload_n 0, 1) := by decide +kernel
theorem dX6_textLines_22 : decode cX6_textLines 22 = .ok (.iload_n 1, 1) := by decide +kernel
theorem dX6_textLines_23 : decode cX6_textLines 23 = .ok (.bipush 19, 2) := by decide +kernel
theorem dX6_textLines_25 : decode cX6_textLines 25 = .ok (.invokevirtual 73, 3) := by decide +kernel
theorem dX6_textLines_28 : decode cX6_textLines 28 = .ok (.iload_n 2, 1) := by decide +kernel
theorem dX6_textLines_29 : decode cX6_textLines 29 = .ok (.iadd, 1) := by decide +kernel
theorem dX6_textLines_30 : decode cX6_textLines 30 = .ok (.iconst 1, 1) := by decide +kernel
theorem dX6_textLines_31 : decode cX6_textLines 31 = .ok (.isub, 1) := by decide +kernel
theorem dX6_textLines_32 : decode cX6_textLines 32 = .ok (.iload_n 2, 1) := by decide +kernel
theorem dX6_textLines_33 : decode cX6_textLines 33 = .ok (.idiv, 1) := by decide +kernel
theorem dX6_textLines_34 : decode cX6_textLines 34 = .ok (.ireturn, 1) := by decide +kernel
theorem dX6_findWidths_0 : decode cX6_findWidths 0 = .ok (.aload_n 0, 1) := by decide +kernel
theorem dX6_findWidths_1 : decode cX6_findWidths 1 = .ok (.getfield 29, 3) := by decide +kernel
theorem dX6_findWidths_4 : decode cX6_findWidths 4 = .ok (.iconst 0, 1) := by decide +kernel
theorem dX6_findWidths_5 : decode cX6_findWidths 5 = .ok (.aload_n 0, 1) := by decide +kernel
theorem dX6_findWidths_6 : decode cX6_findWidths 6 = .ok (.getfield 7, 3) := by decide +kernel
theorem dX6_findWidths_9 : decode cX6_findWidths 9 = .ok (.iconst 1, 1) := by decide +kernel
theorem dX6_findWidths_10 : decode cX6_findWidths 10 = .ok (.iaload, 1) := by decide +kernel
theorem dX6_findWidths_11 : decode cX6_findWidths 11 = .ok (.iastore, 1) := by decide +kernel
theorem dX6_findWidths_12 : decode cX6_findWidths 12 = .ok (.aload_n 0, 1) := by decide +kernel
theorem dX6_findWidths_13 : decode cX6_findWidths 13 = .ok (.getfield 35, 3) := by decide +kernel
theorem dX6_findWidths_16 : decode cX6_findWidths 16 = .ok (.iconst 0, 1) := by decide +kernel
theorem dX6_findWidths_17 : decode cX6_findWidths 17 = .ok (.iconst 0, 1) := by decide +kernel
theorem dX6_findWidths_18 : decode cX6_findWidths 18 = .ok (.iastore, 1) := by decide +kernel
theorem dX6_findWidths_19 : decode cX6_findWidths 19 = .ok (.iconst 0, 1) := by decide +kernel
theorem dX6_findWidths_20 : decode cX6_findWidths 20 = .ok (.istore_n 1, 1) := by decide +kernel
theorem dX6_findWidths_21 : decode cX6_findWidths 21 = .ok (.iload_n 1, 1) := by decide +kernel
theorem dX6_findWidths_22 : decode cX6_findWidths 22 = .ok (.aload_n 0, 1) := by decide +kernel
theorem dX6_findWidths_23 : decode cX6_findWidths 23 = .ok (.getfield 7, 3) := by decide +kernel
theorem dX6_findWidths_26 : decode cX6_findWidths 26 = .ok (.iconst 0, 1) := by decide +kernel
theorem dX6_findWidths_27 : decode cX6_findWidths 27 = .ok (.iaload, 1) := by decide +kernel
theorem dX6_findWidths_28 : decode cX6_findWidths 28 = .ok (.if_icmp .ge 68, 3) := by decide +kernel
theorem dX6_findWidths_31 : decode cX6_findWidths 31 = .ok (.aload_n 0, 1) := by decide +kernel
theorem dX6_findWidths_32 : decode cX6_findWidths 32 = .ok (.getfield 23, 3) := by decide +kernel
theorem dX6_findWidths_35 : decode cX6_findWidths 35 = .ok (.iload_n 1, 1) := by decide +kernel
theorem dX6_findWidths_36 : decode cX6_findWidths 36 = .ok (.baload, 1) := by decide +kernel
theorem dX6_findWidths_37 : decode cX6_findWidths 37 = .ok (.ifCond .eq 53, 3) := by decide +kernel
theorem dX6_findWidths_40 : decode cX6_findWidths 40 = .ok (.aload_n 0, 1) := by decide +kernel
theorem dX6_findWidths_41 : decode cX6_findWidths 41 = .ok (.iload_n 1, 1) := by decide +kernel
theorem dX6_findWidths_42 : decode cX6_findWidths 42 = .ok (.invokevirtual 87, 3) := by decide +kernel
theorem dX6_findWidths_45 : decode cX6_findWidths 45 = .ok (.aload_n 0, 1) := by decide +kernel
theorem dX6_findWidths_46 : decode cX6_findWidths 46 = .ok (.iload_n 1, 1) := by decide +kernel
theorem dX6_findWidths_47 : decode cX6_findWidths 47 = .ok (.invokevirtual 110, 3) := by decide +kernel
theorem dX6_findWidths_50 : decode cX6_findWidths 50 = .ok (.ifCond .eq 17, 3) := by decide +kernel
theorem dX6_findWidths_53 : decode cX6_findWidths 53 = .ok (.aload_n 0, 1) := by decide +kernel
theorem dX6_findWidths_54 : decode cX6_findWidths 54 = .ok (.getfield 38, 3) := by decide +kernel
theorem dX6_findWidths_57 : decode cX6_findWidths 57 = .ok (.iload_n 1, 1) := by decide +kernel
theorem dX6_findWidths_58 : decode cX6_findWidths 58 = .ok (.aload_n 0, 1) := by decide +kernel
theorem dX6_findWidths_59 : decode cX6_findWidths 59 = .ok (.iload_n 1, 1) := by decide +kernel
theorem dX6_findWidths_60 : decode cX6_findWidths 60 = .ok (.invokevirtual 154, 3) := by decide +kernel
theorem dX6_findWidths_63 : decode cX6_findWidths 63 = .ok (.iastore, 1) := by decide +kernel
theorem dX6_findWidths_64 : decode cX6_findWidths 64 = .ok (.goto 26, 3) := by decide +kernel
theorem dX6_findWidths_67 : decode cX6_findWidths 67 = .ok (.aload_n 0, 1) := by decide +kernel
theorem dX6_findWidths_68 : decode cX6_findWidths 68 = .ok (.iload_n 1, 1) := by decide +kernel
theorem dX6_findWidths_69 : decode cX6_findWidths 69 = .ok (.iconst 0, 1) := by decide +kernel
theorem dX6_findWidths_70 : decode cX6_findWidths 70 = .ok (.invokevirtual 73, 3) := by decide +kernel
theorem dX6_findWidths_73 : decode cX6_findWidths 73 = .ok (.iconst 1, 1) := by decide +kernel
theorem dX6_findWidths_74 : decode cX6_findWidths 74 = .ok (.if_icmp .ne 11, 3) := by decide +kernel
theorem dX6_findWidths_77 : decode cX6_findWidths 77 = .ok (.aload_n 0, 1) := by decide +kernel
theorem dX6_findWidths_78 : decode cX6_findWidths 78 = .ok (.iload_n 1, 1) := by decide +kernel
theorem dX6_findWidths_79 : decode cX6_findWidths 79 = .ok (.invokevirtual 157, 3) := by decide +kernel
theorem dX6_findWidths_82 : decode cX6_findWidths 82 = .ok (.goto 8, 3) := by decide +kernel
theorem dX6_findWidths_85 : decode cX6_findWidths 85 = .ok (.aload_n 0, 1) := by decide +kernel
theorem dX6_findWidths_86 : decode cX6_findWidths 86 = .ok (.iload_n 1, 1) := by decide +kernel
theorem dX6_findWidths_87 : decode cX6_findWidths 87 = .ok (.invokevirtual 160, 3) := by decide +kernel
theorem dX6_findWidths_90 : decode cX6_findWidths 90 = .ok (.iinc 1 1, 3) := by decide +kernel
theorem dX6_findWidths_93 : decode cX6_findWidths 93 = .ok (.goto (-72), 3) := by decide +kernel
theorem dX6_findWidths_96 : decode cX6_findWidths 96 = .ok (.return_, 1) := by decide +kernel
theorem dX6_lineHeight_0 : decode cX6_lineHeight 0 = .ok (.iconst 0, 1) := by decide +kernel
theorem dX6_lineHeight_1 : decode cX6_lineHeight 1 = .ok (.istore_n 2, 1) := by decide +kernel
theorem dX6_lineHeight_2 : decode cX6_lineHeight 2 = .ok (.iconst 0, 1) := by decide +kernel
theorem dX6_lineHeight_3 : decode cX6_lineHeight 3 = .ok (.istore_n 3, 1) := by decide +kernel
theorem dX6_lineHeight_4 : decode cX6_lineHeight 4 = .ok (.iload_n 3, 1) := by decide +kernel
theorem dX6_lineHeight_5 : decode cX6_lineHeight 5 = .ok (.aload_n 0, 1) := by decide +kernel
theorem dX6_lineHeight_6 : decode cX6_lineHeight 6 = .ok (.getfield 77, 3) := by decide +kernel
theorem dX6_lineHeight_9 : decode cX6_lineHeight 9 = .ok (.if_icmp .ge 64, 3) := by decide +kernel
theorem dX6_lineHeight_12 : decode cX6_lineHeight 12 = .ok (.aload_n 0, 1) := by decide +kernel
theorem dX6_lineHeight_13 : decode cX6_lineHeight 13 = .ok (.aload_n 0, 1) := by decide +kernel
theorem dX6_lineHeight_14 : decode cX6_lineHeight 14 = .ok (.getfield 20, 3) := by decide +kernel
theorem dX6_lineHeight_17 : decode cX6_lineHeight 17 = .ok (.iload_n 3, 1) := by decide +kernel
theorem dX6_lineHeight_18 : decode cX6_lineHeight 18 = .ok (.iaload, 1) := by decide +kernel
theorem dX6_lineHeight_19 : decode cX6_lineHeight 19 = .ok (.aload_n 0, 1) := by decide +kernel
theorem dX6_lineHeight_20 : decode cX6_lineHeight 20 = .ok (.getfield 26, 3) := by decide +kernel
theorem dX6_lineHeight_23 : decode cX6_lineHeight 23 = .ok (.iconst 2, 1) := by decide +kernel
theorem dX6_lineHeight_24 : decode cX6_lineHeight 24 = .ok (.aload_n 0, 1) := by decide +kernel
theorem dX6_lineHeight_25 : decode cX6_lineHeight 25 = .ok (.getfield 20, 3) := by decide +kernel
theorem dX6_lineHeight_28 : decode cX6_lineHeight 28 = .ok (.iload_n 3, 1) := by decide +kernel
theorem dX6_lineHeight_29 : decode cX6_lineHeight 29 = .ok (.iaload, 1) := by decide +kernel
theorem dX6_lineHeight_30 : decode cX6_lineHeight 30 = .ok (.imul, 1) := by decide +kernel
theorem dX6_lineHeight_31 : decode cX6_lineHeight 31 = .ok (.iconst 1, 1) := by decide +kernel
theorem dX6_lineHeight_32 : decode cX6_lineHeight 32 = .ok (.iadd, 1) := by decide +kernel
theorem dX6_lineHeight_33 : decode cX6_lineHeight 33 = .ok (.iaload, 1) := by decide +kernel
theorem dX6_lineHeight_34 : decode cX6_lineHeight 34 = .ok (.invokevirtual 100, 3) := by decide +kernel
theorem dX6_lineHeight_37 : decode cX6_lineHeight 37 = .ok (.istore 4, 2) := by decide +kernel
theorem dX6_lineHeight_39 : decode cX6_lineHeight 39 = .ok (.aload_n 0, 1) := by decide +kernel
theorem dX6_lineHeight_40 : decode cX6_lineHeight 40 = .ok (.getfield 35, 3) := by decide +kernel
theorem dX6_lineHeight_43 : decode cX6_lineHeight 43 = .ok (.aload_n 0, 1) := by decide +kernel
theorem dX6_lineHeight_44 : decode cX6_lineHeight 44 = .ok (.getfield 20, 3) := by decide +kernel
theorem dX6_lineHeight_47 : decode cX6_lineHeight 47 = .ok (.iload_n 3, 1) := by decide +kernel
theorem dX6_lineHeight_48 : decode cX6_lineHeight 48 = .ok (.iaload, 1) := by decide +kernel
theorem dX6_lineHeight_49 : decode cX6_lineHeight 49 = .ok (.iaload, 1) := by decide +kernel
theorem dX6_lineHeight_50 : decode cX6_lineHeight 50 = .ok (.iload_n 1, 1) := by decide +kernel
theorem dX6_lineHeight_51 : decode cX6_lineHeight 51 = .ok (.if_icmp .ne 14, 3) := by decide +kernel
theorem dX6_lineHeight_54 : decode cX6_lineHeight 54 = .ok (.iload 4, 2) := by decide +kernel
theorem dX6_lineHeight_56 : decode cX6_lineHeight 56 = .ok (.iload_n 2, 1) := by decide +kernel
theorem dX6_lineHeight_57 : decode cX6_lineHeight 57 = .ok (.if_icmp .le 8, 3) := by decide +kernel
theorem dX6_lineHeight_60 : decode cX6_lineHeight 60 = .ok (.iload 4, 2) := by decide +kernel
theorem dX6_lineHeight_62 : decode cX6_lineHeight 62 = .ok (.goto 4, 3) := by decide +kernel
theorem dX6_lineHeight_65 : decode cX6_lineHeight 65 = .ok (.iload_n 2, 1) := by decide +kernel
theorem dX6_lineHeight_66 : decode cX6_lineHeight 66 = .ok (.istore_n 2, 1) := by decide +kernel
theorem dX6_lineHeight_67 : decode cX6_lineHeight 67 = .ok (.iinc 3 1, 3) := by decide +kernel
theorem dX6_lineHeight_70 : decode cX6_lineHeight 70 = .ok (.goto (-66), 3) := by decide +kernel
theorem dX6_lineHeight_73 : decode cX6_lineHeight 73 = .ok (.iload_n 2, 1) := by decide +kernel
theorem dX6_lineHeight_74 : decode cX6_lineHeight 74 = .ok (.ireturn, 1) := by decide +kernel
theorem dX6_rowContent_0 : decode cX6_rowContent 0 = .ok (.aload_n 0, 1) := by decide +kernel
theorem dX6_rowContent_1 : decode cX6_rowContent 1 = .ok (.iload_n 1, 1) := by decide +kernel
theorem dX6_rowContent_2 : decode cX6_rowContent 2 = .ok (.aload_n 0, 1) := by decide +kernel
theorem dX6_rowContent_3 : decode cX6_rowContent 3 = .ok (.getfield 38, 3) := by decide +kernel
theorem dX6_rowContent_6 : decode cX6_rowContent 6 = .ok (.iload_n 1, 1) := by decide +kernel
theorem dX6_rowContent_7 : decode cX6_rowContent 7 = .ok (.iaload, 1) := by decide +kernel
theorem dX6_rowContent_8 : decode cX6_rowContent 8 = .ok (.invokevirtual 103, 3) := by decide +kernel
theorem dX6_rowContent_11 : decode cX6_rowContent 11 = .ok (.istore_n 2, 1) := by decide +kernel
end
section
theorem dX6_rowContent_12 : decode cX6_rowContent 12 = .ok (.iconst 0, 1) := by decide +kernel
theorem dX6_rowContent_13 : decode cX6_rowContent 13 = .ok (.istore_n 3, 1) := by decide +kernel
theorem dX6_rowContent_14 : decode cX6_rowContent 14 = .ok (.iload_n 3, 1) := by decide +kernel
theorem dX6_rowContent_15 : decode cX6_rowContent 15 = .ok (.aload_n 0, 1) := by decide +kernel
theorem dX6_rowContent_16 : decode cX6_rowContent 16 = .ok (.getfield 38, 3) := by decide +kernel
theorem dX6_rowContent_19 : decode cX6_rowContent 19 = .ok (.iload_n 1, 1) := by decide +kernel
theorem dX6_rowContent_20 : decode cX6_rowContent 20 = .ok (.iaload, 1) := by decide +kernel
theorem dX6_rowContent_21 : decode cX6_rowContent 21 = .ok (.if_icmp .ge 17, 3) := by decide +kernel
theorem dX6_rowContent_24 : decode cX6_rowContent 24 = .ok (.iload_n 2, 1) := by decide +kernel
theorem dX6_rowContent_25 : decode cX6_rowContent 25 = .ok (.aload_n 0, 1) := by decide +kernel
theorem dX6_rowContent_26 : decode cX6_rowContent 26 = .ok (.iload_n 3, 1) := by decide +kernel
theorem dX6_rowContent_27 : decode cX6_rowContent 27 = .ok (.invokevirtual 163, 3) := by decide +kernel
theorem dX6_rowContent_30 : decode cX6_rowContent 30 = .ok (.iadd, 1) := by decide +kernel
theorem dX6_rowContent_31 : decode cX6_rowContent 31 = .ok (.istore_n 2, 1) := by decide +kernel
theorem dX6_rowContent_32 : decode cX6_rowContent 32 = .ok (.iinc 3 1, 3) := by decide +kernel
theorem dX6_rowContent_35 : decode cX6_rowContent 35 = .ok (.goto (-21), 3) := by decide +kernel
theorem dX6_rowContent_38 : decode cX6_rowContent 38 = .ok (.iload_n 2, 1) := by decide +kernel
theorem dX6_rowContent_39 : decode cX6_rowContent 39 = .ok (.ireturn, 1) := by decide +kernel
theorem dX6_findNaturalHeights_0 : decode cX6_findNaturalHeights 0 = .ok (.aload_n 0, 1) := by decide +kernel
theorem dX6_findNaturalHeights_1 : decode cX6_findNaturalHeights 1 = .ok (.getfield 7, 3) := by decide +kernel
theorem dX6_findNaturalHeights_4 : decode cX6_findNaturalHeights 4 = .ok (.iconst 0, 1) := by decide +kernel
theorem dX6_findNaturalHeights_5 : decode cX6_findNaturalHeights 5 = .ok (.iaload, 1) := by decide +kernel
theorem dX6_findNaturalHeights_6 : decode cX6_findNaturalHeights 6 = .ok (.iconst 1, 1) := by decide +kernel
theorem dX6_findNaturalHeights_7 : decode cX6_findNaturalHeights 7 = .ok (.isub, 1) := by decide +kernel
theorem dX6_findNaturalHeights_8 : decode cX6_findNaturalHeights 8 = .ok (.istore_n 1, 1) := by decide +kernel
theorem dX6_findNaturalHeights_9 : decode cX6_findNaturalHeights 9 = .ok (.iload_n 1, 1) := by decide +kernel
theorem dX6_findNaturalHeights_10 : decode cX6_findNaturalHeights 10 = .ok (.ifCond .lt 76, 3) := by decide +kernel
theorem dX6_findNaturalHeights_13 : decode cX6_findNaturalHeights 13 = .ok (.aload_n 0, 1) := by decide +kernel
theorem dX6_findNaturalHeights_14 : decode cX6_findNaturalHeights 14 = .ok (.getfield 23, 3) := by decide +kernel
theorem dX6_findNaturalHeights_17 : decode cX6_findNaturalHeights 17 = .ok (.iload_n 1, 1) := by decide +kernel
theorem dX6_findNaturalHeights_18 : decode cX6_findNaturalHeights 18 = .ok (.baload, 1) := by decide +kernel
theorem dX6_findNaturalHeights_19 : decode cX6_findNaturalHeights 19 = .ok (.ifCond .eq 61, 3) := by decide +kernel
theorem dX6_findNaturalHeights_22 : decode cX6_findNaturalHeights 22 = .ok (.aload_n 0, 1) := by decide +kernel
theorem dX6_findNaturalHeights_23 : decode cX6_findNaturalHeights 23 = .ok (.iload_n 1, 1) := by decide +kernel
theorem dX6_findNaturalHeights_24 : decode cX6_findNaturalHeights 24 = .ok (.invokevirtual 87, 3) := by decide +kernel
theorem dX6_findNaturalHeights_27 : decode cX6_findNaturalHeights 27 = .ok (.aload_n 0, 1) := by decide +kernel
theorem dX6_findNaturalHeights_28 : decode cX6_findNaturalHeights 28 = .ok (.iload_n 1, 1) := by decide +kernel
theorem dX6_findNaturalHeights_29 : decode cX6_findNaturalHeights 29 = .ok (.invokevirtual 110, 3) := by decide +kernel
theorem dX6_findNaturalHeights_32 : decode cX6_findNaturalHeights 32 = .ok (.ifCond .eq 15, 3) := by decide +kernel
theorem dX6_findNaturalHeights_35 : decode cX6_findNaturalHeights 35 = .ok (.bipush 16, 2) := by decide +kernel
theorem dX6_findNaturalHeights_37 : decode cX6_findNaturalHeights 37 = .ok (.aload_n 0, 1) := by decide +kernel
theorem dX6_findNaturalHeights_38 : decode cX6_findNaturalHeights 38 = .ok (.getfield 38, 3) := by decide +kernel
theorem dX6_findNaturalHeights_41 : decode cX6_findNaturalHeights 41 = .ok (.iload_n 1, 1) := by decide +kernel
theorem dX6_findNaturalHeights_42 : decode cX6_findNaturalHeights 42 = .ok (.iaload, 1) := by decide +kernel
theorem dX6_findNaturalHeights_43 : decode cX6_findNaturalHeights 43 = .ok (.imul, 1) := by decide +kernel
theorem dX6_findNaturalHeights_44 : decode cX6_findNaturalHeights 44 = .ok (.goto 28, 3) := by decide +kernel
theorem dX6_findNaturalHeights_47 : decode cX6_findNaturalHeights 47 = .ok (.aload_n 0, 1) := by decide +kernel
theorem dX6_findNaturalHeights_48 : decode cX6_findNaturalHeights 48 = .ok (.iload_n 1, 1) := by decide +kernel
theorem dX6_findNaturalHeights_49 : decode cX6_findNaturalHeights 49 = .ok (.iconst 0, 1) := by decide +kernel
theorem dX6_findNaturalHeights_50 : decode cX6_findNaturalHeights 50 = .ok (.invokevirtual 73, 3) := by decide +kernel
theorem dX6_findNaturalHeights_53 : decode cX6_findNaturalHeights 53 = .ok (.iconst 1, 1) := by decide +kernel
theorem dX6_findNaturalHeights_54 : decode cX6_findNaturalHeights 54 = .ok (.if_icmp .ne 13, 3) := by decide +kernel
theorem dX6_findNaturalHeights_57 : decode cX6_findNaturalHeights 57 = .ok (.aload_n 0, 1) := by decide +kernel
theorem dX6_findNaturalHeights_58 : decode cX6_findNaturalHeights 58 = .ok (.iload_n 1, 1) := by decide +kernel
theorem dX6_findNaturalHeights_59 : decode cX6_findNaturalHeights 59 = .ok (.iconst 1, 1) := by decide +kernel
theorem dX6_findNaturalHeights_60 : decode cX6_findNaturalHeights 60 = .ok (.iconst 1, 1) := by decide +kernel
theorem dX6_findNaturalHeights_61 : decode cX6_findNaturalHeights 61 = .ok (.invokevirtual 113, 3) := by decide +kernel
theorem dX6_findNaturalHeights_64 : decode cX6_findNaturalHeights 64 = .ok (.goto 8, 3) := by decide +kernel
theorem dX6_findNaturalHeights_67 : decode cX6_findNaturalHeights 67 = .ok (.aload_n 0, 1) := by decide +kernel
theorem dX6_findNaturalHeights_68 : decode cX6_findNaturalHeights 68 = .ok (.iload_n 1, 1) := by decide +kernel
theorem dX6_findNaturalHeights_69 : decode cX6_findNaturalHeights 69 = .ok (.invokevirtual 166, 3) := by decide +kernel
theorem dX6_findNaturalHeights_72 : decode cX6_findNaturalHeights 72 = .ok (.istore_n 2, 1) := by decide +kernel
theorem dX6_findNaturalHeights_73 : decode cX6_findNaturalHeights 73 = .ok (.aload_n 0, 1) := by decide +kernel
theorem dX6_findNaturalHeights_74 : decode cX6_findNaturalHeights 74 = .ok (.iload_n 1, 1) := by decide +kernel
theorem dX6_findNaturalHeights_75 : decode cX6_findNaturalHeights 75 = .ok (.iconst 1, 1) := by decide +kernel
theorem dX6_findNaturalHeights_76 : decode cX6_findNaturalHeights 76 = .ok (.iload_n 2, 1) := by decide +kernel
theorem dX6_findNaturalHeights_77 : decode cX6_findNaturalHeights 77 = .ok (.invokevirtual 117, 3) := by decide +kernel
theorem dX6_findNaturalHeights_80 : decode cX6_findNaturalHeights 80 = .ok (.iinc 1 (-1), 3) := by decide +kernel
theorem dX6_findNaturalHeights_83 : decode cX6_findNaturalHeights 83 = .ok (.goto (-74), 3) := by decide +kernel
theorem dX6_findNaturalHeights_86 : decode cX6_findNaturalHeights 86 = .ok (.return_, 1) := by decide +kernel
theorem dX6_moved_0 : decode cX6_moved 0 = .ok (.iload_n 1, 1) := by decide +kernel
theorem dX6_moved_1 : decode cX6_moved 1 = .ok (.ifCond .le 7, 3) := by decide +kernel
theorem dX6_moved_4 : decode cX6_moved 4 = .ok (.iload_n 0, 1) := by decide +kernel
theorem dX6_moved_5 : decode cX6_moved 5 = .ok (.ifCond .ne 5, 3) := by decide +kernel
theorem dX6_moved_8 : decode cX6_moved 8 = .ok (.iconst 0, 1) := by decide +kernel
theorem dX6_moved_9 : decode cX6_moved 9 = .ok (.ireturn, 1) := by decide +kernel
theorem dX6_moved_10 : decode cX6_moved 10 = .ok (.iload_n 0, 1) := by decide +kernel
theorem dX6_moved_11 : decode cX6_moved 11 = .ok (.iconst 1, 1) := by decide +kernel
theorem dX6_moved_12 : decode cX6_moved 12 = .ok (.if_icmp .ne 5, 3) := by decide +kernel
theorem dX6_moved_15 : decode cX6_moved 15 = .ok (.iload_n 1, 1) := by decide +kernel
theorem dX6_moved_16 : decode cX6_moved 16 = .ok (.ireturn, 1) := by decide +kernel
theorem dX6_moved_17 : decode cX6_moved 17 = .ok (.iload_n 0, 1) := by decide +kernel
theorem dX6_moved_18 : decode cX6_moved 18 = .ok (.iconst 2, 1) := by decide +kernel
theorem dX6_moved_19 : decode cX6_moved 19 = .ok (.if_icmp .ne 7, 3) := by decide +kernel
theorem dX6_moved_22 : decode cX6_moved 22 = .ok (.iload_n 1, 1) := by decide +kernel
theorem dX6_moved_23 : decode cX6_moved 23 = .ok (.iconst 2, 1) := by decide +kernel
theorem dX6_moved_24 : decode cX6_moved 24 = .ok (.idiv, 1) := by decide +kernel
theorem dX6_moved_25 : decode cX6_moved 25 = .ok (.ireturn, 1) := by decide +kernel
theorem dX6_moved_26 : decode cX6_moved 26 = .ok (.iload_n 0, 1) := by decide +kernel
theorem dX6_moved_27 : decode cX6_moved 27 = .ok (.iconst 3, 1) := by decide +kernel
theorem dX6_moved_28 : decode cX6_moved 28 = .ok (.if_icmp .ne 20, 3) := by decide +kernel
theorem dX6_moved_31 : decode cX6_moved 31 = .ok (.iload_n 3, 1) := by decide +kernel
theorem dX6_moved_32 : decode cX6_moved 32 = .ok (.iconst 1, 1) := by decide +kernel
theorem dX6_moved_33 : decode cX6_moved 33 = .ok (.if_icmp .ne 7, 3) := by decide +kernel
theorem dX6_moved_36 : decode cX6_moved 36 = .ok (.iconst 0, 1) := by decide +kernel
theorem dX6_moved_37 : decode cX6_moved 37 = .ok (.goto 10, 3) := by decide +kernel
theorem dX6_moved_40 : decode cX6_moved 40 = .ok (.iload_n 1, 1) := by decide +kernel
theorem dX6_moved_41 : decode cX6_moved 41 = .ok (.iload_n 2, 1) := by decide +kernel
theorem dX6_moved_42 : decode cX6_moved 42 = .ok (.imul, 1) := by decide +kernel
theorem dX6_moved_43 : decode cX6_moved 43 = .ok (.iload_n 3, 1) := by decide +kernel
theorem dX6_moved_44 : decode cX6_moved 44 = .ok (.iconst 1, 1) := by decide +kernel
theorem dX6_moved_45 : decode cX6_moved 45 = .ok (.isub, 1) := by decide +kernel
theorem dX6_moved_46 : decode cX6_moved 46 = .ok (.idiv, 1) := by decide +kernel
theorem dX6_moved_47 : decode cX6_moved 47 = .ok (.ireturn, 1) := by decide +kernel
theorem dX6_moved_48 : decode cX6_moved 48 = .ok (.iload_n 1, 1) := by decide +kernel
theorem dX6_moved_49 : decode cX6_moved 49 = .ok (.iload_n 2, 1) := by decide +kernel
theorem dX6_moved_50 : decode cX6_moved 50 = .ok (.iconst 1, 1) := by decide +kernel
theorem dX6_moved_51 : decode cX6_moved 51 = .ok (.iadd, 1) := by decide +kernel
theorem dX6_moved_52 : decode cX6_moved 52 = .ok (.imul, 1) := by decide +kernel
theorem dX6_moved_53 : decode cX6_moved 53 = .ok (.iload_n 3, 1) := by decide +kernel
theorem dX6_moved_54 : decode cX6_moved 54 = .ok (.iconst 1, 1) := by decide +kernel
theorem dX6_moved_55 : decode cX6_moved 55 = .ok (.iadd, 1) := by decide +kernel
theorem dX6_moved_56 : decode cX6_moved 56 = .ok (.idiv, 1) := by decide +kernel
theorem dX6_moved_57 : decode cX6_moved 57 = .ok (.ireturn, 1) := by decide +kernel
theorem dX6_justify_0 : decode cX6_justify 0 = .ok (.aload_n 0, 1) := by decide +kernel
theorem dX6_justify_1 : decode cX6_justify 1 = .ok (.iload_n 1, 1) := by decide +kernel
theorem dX6_justify_2 : decode cX6_justify 2 = .ok (.iload 4, 2) := by decide +kernel
theorem dX6_justify_4 : decode cX6_justify 4 = .ok (.invokevirtual 141, 3) := by decide +kernel
theorem dX6_justify_7 : decode cX6_justify 7 = .ok (.istore 5, 2) := by decide +kernel
theorem dX6_justify_9 : decode cX6_justify 9 = .ok (.aload_n 0, 1) := by decide +kernel
theorem dX6_justify_10 : decode cX6_justify 10 = .ok (.iload_n 1, 1) := by decide +kernel
theorem dX6_justify_11 : decode cX6_justify 11 = .ok (.iload_n 3, 1) := by decide +kernel
theorem dX6_justify_12 : decode cX6_justify 12 = .ok (.iload_n 2, 1) := by decide +kernel
theorem dX6_justify_13 : decode cX6_justify 13 = .ok (.isub, 1) := by decide +kernel
theorem dX6_justify_14 : decode cX6_justify 14 = .ok (.invokevirtual 103, 3) := by decide +kernel
theorem dX6_justify_17 : decode cX6_justify 17 = .ok (.istore 6, 2) := by decide +kernel
theorem dX6_justify_19 : decode cX6_justify 19 = .ok (.iload_n 2, 1) := by decide +kernel
theorem dX6_justify_20 : decode cX6_justify 20 = .ok (.istore 7, 2) := by decide +kernel
theorem dX6_justify_22 : decode cX6_justify 22 = .ok (.iload 7, 2) := by decide +kernel
theorem dX6_justify_24 : decode cX6_justify 24 = .ok (.iload_n 3, 1) := by decide +kernel
theorem dX6_justify_25 : decode cX6_justify 25 = .ok (.if_icmp .ge 42, 3) := by decide +kernel
theorem dX6_justify_28 : decode cX6_justify 28 = .ok (.iload 6, 2) := by decide +kernel
theorem dX6_justify_30 : decode cX6_justify 30 = .ok (.aload_n 0, 1) := by decide +kernel
theorem dX6_justify_31 : decode cX6_justify 31 = .ok (.aload_n 0, 1) := by decide +kernel
theorem dX6_justify_32 : decode cX6_justify 32 = .ok (.getfield 20, 3) := by decide +kernel
theorem dX6_justify_35 : decode cX6_justify 35 = .ok (.iload 7, 2) := by decide +kernel
theorem dX6_justify_37 : decode cX6_justify 37 = .ok (.iaload, 1) := by decide +kernel
theorem dX6_justify_38 : decode cX6_justify 38 = .ok (.aload_n 0, 1) := by decide +kernel
theorem dX6_justify_39 : decode cX6_justify 39 = .ok (.getfield 29, 3) := by decide +kernel
theorem dX6_justify_42 : decode cX6_justify 42 = .ok (.iconst 2, 1) := by decide +kernel
theorem dX6_justify_43 : decode cX6_justify 43 = .ok (.aload_n 0, 1) := by decide +kernel
theorem dX6_justify_44 : decode cX6_justify 44 = .ok (.getfield 20, 3) := by decide +kernel
theorem dX6_justify_47 : decode cX6_justify 47 = .ok (.iload 7, 2) := by decide +kernel
theorem dX6_justify_49 : decode cX6_justify 49 = .ok (.iaload, 1) := by decide +kernel
theorem dX6_justify_50 : decode cX6_justify 50 = .ok (.imul, 1) := by decide +kernel
theorem dX6_justify_51 : decode cX6_justify 51 = .ok (.iload 4, 2) := by decide +kernel
theorem dX6_justify_53 : decode cX6_justify 53 = .ok (.iadd, 1) := by decide +kernel
theorem dX6_justify_54 : decode cX6_justify 54 = .ok (.iaload, 1) := by decide +kernel
theorem dX6_justify_55 : decode cX6_justify 55 = .ok (.invokevirtual 100, 3) := by decide +kernel
theorem dX6_justify_58 : decode cX6_justify 58 = .ok (.iadd, 1) := by decide +kernel
theorem dX6_justify_59 : decode cX6_justify 59 = .ok (.istore 6, 2) := by decide +kernel
theorem dX6_justify_61 : decode cX6_justify 61 = .ok (.iinc 7 1, 3) := by decide +kernel
theorem dX6_justify_64 : decode cX6_justify 64 = .ok (.goto (-42), 3) := by decide +kernel
theorem dX6_justify_67 : decode cX6_justify 67 = .ok (.aload_n 0, 1) := by decide +kernel
theorem dX6_justify_68 : decode cX6_justify 68 = .ok (.getfield 32, 3) := by decide +kernel
theorem dX6_justify_71 : decode cX6_justify 71 = .ok (.iconst 2, 1) := by decide +kernel
theorem dX6_justify_72 : decode cX6_justify 72 = .ok (.iload_n 1, 1) := by decide +kernel
theorem dX6_justify_73 : decode cX6_justify 73 = .ok (.imul, 1) := by decide +kernel
theorem dX6_justify_74 : decode cX6_justify 74 = .ok (.iload 4, 2) := by decide +kernel
theorem dX6_justify_76 : decode cX6_justify 76 = .ok (.iadd, 1) := by decide +kernel
theorem dX6_justify_77 : decode cX6_justify 77 = .ok (.iaload, 1) := by decide +kernel
theorem dX6_justify_78 : decode cX6_justify 78 = .ok (.aload_n 0, 1) := by decide +kernel
theorem dX6_justify_79 : decode cX6_justify 79 = .ok (.iload_n 1, 1) := by decide +kernel
theorem dX6_justify_80 : decode cX6_justify 80 = .ok (.iconst 5, 1) := by decide +kernel
theorem dX6_justify_81 : decode cX6_justify 81 = .ok (.invokevirtual 73, 3) := by decide +kernel
theorem dX6_justify_84 : decode cX6_justify 84 = .ok (.iadd, 1) := by decide +kernel
theorem dX6_justify_85 : decode cX6_justify 85 = .ok (.istore 7, 2) := by decide +kernel
theorem dX6_justify_87 : decode cX6_justify 87 = .ok (.iload_n 2, 1) := by decide +kernel
theorem dX6_justify_88 : decode cX6_justify 88 = .ok (.istore 8, 2) := by decide +kernel
theorem dX6_justify_90 : decode cX6_justify 90 = .ok (.iload 8, 2) := by decide +kernel
theorem dX6_justify_92 : decode cX6_justify 92 = .ok (.iload_n 3, 1) := by decide +kernel
theorem dX6_justify_93 : decode cX6_justify 93 = .ok (.if_icmp .ge 93, 3) := by decide +kernel
theorem dX6_justify_96 : decode cX6_justify 96 = .ok (.aload_n 0, 1) := by decide +kernel
theorem dX6_justify_97 : decode cX6_justify 97 = .ok (.getfield 20, 3) := by decide +kernel
theorem dX6_justify_100 : decode cX6_justify 100 = .ok (.iload 8, 2) := by decide +kernel
theorem dX6_justify_102 : decode cX6_justify 102 = .ok (.iaload, 1) := by decide +kernel
theorem dX6_justify_103 : decode cX6_justify 103 = .ok (.istore 9, 2) := by decide +kernel
theorem dX6_justify_105 : decode cX6_justify 105 = .ok (.aload_n 0, 1) := by decide +kernel
theorem dX6_justify_106 : decode cX6_justify 106 = .ok (.getfield 32, 3) := by decide +kernel
theorem dX6_justify_109 : decode cX6_justify 109 = .ok (.iconst 2, 1) := by decide +kernel
theorem dX6_justify_110 : decode cX6_justify 110 = .ok (.iload 9, 2) := by decide +kernel
theorem dX6_justify_112 : decode cX6_justify 112 = .ok (.imul, 1) := by decide +kernel
theorem dX6_justify_113 : decode cX6_justify 113 = .ok (.iload 4, 2) := by decide +kernel
theorem dX6_justify_115 : decode cX6_justify 115 = .ok (.iadd, 1) := by decide +kernel
theorem dX6_justify_116 : decode cX6_justify 116 = .ok (.iload 7, 2) := by decide +kernel
theorem dX6_justify_118 : decode cX6_justify 118 = .ok (.aload_n 0, 1) := by decide +kernel
theorem dX6_justify_119 : decode cX6_justify 119 = .ok (.iload_n 1, 1) := by decide +kernel
theorem dX6_justify_120 : decode cX6_justify 120 = .ok (.iconst 2, 1) := by decide +kernel
theorem dX6_justify_121 : decode cX6_justify 121 = .ok (.invokevirtual 73, 3) := by decide +kernel
theorem dX6_justify_124 : decode cX6_justify 124 = .ok (.iload 5, 2) := by decide +kernel
theorem dX6_justify_126 : decode cX6_justify 126 = .ok (.iload 6, 2) := by decide +kernel
theorem dX6_justify_128 : decode cX6_justify 128 = .ok (.isub, 1) := by decide +kernel
theorem dX6_justify_129 : decode cX6_justify 129 = .ok (.iload 8, 2) := by decide +kernel
theorem dX6_justify_131 : decode cX6_justify 131 = .ok (.iload_n 2, 1) := by decide +kernel
theorem dX6_justify_132 : decode cX6_justify 132 = .ok (.isub, 1) := by decide +kernel
theorem dX6_justify_133 : decode cX6_justify 133 = .ok (.iload_n 3, 1) := by decide +kernel
theorem dX6_justify_134 : decode cX6_justify 134 = .ok (.iload_n 2, 1) := by decide +kernel
theorem dX6_justify_135 : decode cX6_justify 135 = .ok (.isub, 1) := by decide +kernel
theorem dX6_justify_136 : decode cX6_justify 136 = .ok (.invokestatic 169, 3) := by decide +kernel
theorem dX6_justify_139 : decode cX6_justify 139 = .ok (.iadd, 1) := by decide +kernel
theorem dX6_justify_140 : decode cX6_justify 140 = .ok (.aload_n 0, 1) := by decide +kernel
theorem dX6_justify_141 : decode cX6_justify 141 = .ok (.iload 9, 2) := by decide +kernel
theorem dX6_justify_143 : decode cX6_justify 143 = .ok (.bipush 6, 2) := by decide +kernel
theorem dX6_justify_145 : decode cX6_justify 145 = .ok (.invokevirtual 73, 3) := by decide +kernel
theorem dX6_justify_148 : decode cX6_justify 148 = .ok (.iadd, 1) := by decide +kernel
theorem dX6_justify_149 : decode cX6_justify 149 = .ok (.iastore, 1) := by decide +kernel
theorem dX6_justify_150 : decode cX6_justify 150 = .ok (.iload 7, 2) := by decide +kernel
theorem dX6_justify_152 : decode cX6_justify 152 = .ok (.aload_n 0, 1) := by decide +kernel
theorem dX6_justify_153 : decode cX6_justify 153 = .ok (.iload 9, 2) := by decide +kernel
theorem dX6_justify_155 : decode cX6_justify 155 = .ok (.aload_n 0, 1) := by decide +kernel
theorem dX6_justify_156 : decode cX6_justify 156 = .ok (.getfield 29, 3) := by decide +kernel
theorem dX6_justify_159 : decode cX6_justify 159 = .ok (.iconst 2, 1) := by decide +kernel
theorem dX6_justify_160 : decode cX6_justify 160 = .ok (.iload 9, 2) := by decide +kernel
theorem dX6_justify_162 : decode cX6_justify 162 = .ok (.imul, 1) := by decide +kernel
theorem dX6_justify_163 : decode cX6_justify 163 = .ok (.iload 4, 2) := by decide +kernel
theorem dX6_justify_165 : decode cX6_justify 165 = .ok (.iadd, 1) := by decide +kernel
theorem dX6_justify_166 : decode cX6_justify 166 = .ok (.iaload, 1) := by decide +kernel
theorem dX6_justify_167 : decode cX6_justify 167 = .ok (.invokevirtual 100, 3) := by decide +kernel
theorem dX6_justify_170 : decode cX6_justify 170 = .ok (.aload_n 0, 1) := by decide +kernel
theorem dX6_justify_171 : decode cX6_justify 171 = .ok (.iload_n 1, 1) := by decide +kernel
theorem dX6_justify_172 : decode cX6_justify 172 = .ok (.iconst 4, 1) := by decide +kernel
theorem dX6_justify_173 : decode cX6_justify 173 = .ok (.invokevirtual 73, 3) := by decide +kernel
theorem dX6_justify_176 : decode cX6_justify 176 = .ok (.iadd, 1) := by decide +kernel
theorem dX6_justify_177 : decode cX6_justify 177 = .ok (.iadd, 1) := by decide +kernel
theorem dX6_justify_178 : decode cX6_justify 178 = .ok (.istore 7, 2) := by decide +kernel
theorem dX6_justify_180 : decode cX6_justify 180 = .ok (.iinc 8 1, 3) := by decide +kernel
theorem dX6_justify_183 : decode cX6_justify 183 = .ok (.goto (-93), 3) := by decide +kernel
theorem dX6_justify_186 : decode cX6_justify 186 = .ok (.return_, 1) := by decide +kernel
theorem dX6_align_0 : decode cX6_align 0 = .ok (.iload 4, 2) := by decide +kernel
theorem dX6_align_2 : decode cX6_align 2 = .ok (.aload_n 0, 1) := by decide +kernel
theorem dX6_align_3 : decode cX6_align 3 = .ok (.iload_n 1, 1) := by decide +kernel
theorem dX6_align_4 : decode cX6_align 4 = .ok (.aload_n 0, 1) := by decide +kernel
theorem dX6_align_5 : decode cX6_align 5 = .ok (.getfield 29, 3) := by decide +kernel
theorem dX6_align_8 : decode cX6_align 8 = .ok (.iconst 2, 1) := by decide +kernel
theorem dX6_align_9 : decode cX6_align 9 = .ok (.iload_n 1, 1) := by decide +kernel
theorem dX6_align_10 : decode cX6_align 10 = .ok (.imul, 1) := by decide +kernel
theorem dX6_align_11 : decode cX6_align 11 = .ok (.iload_n 2, 1) := by decide +kernel
theorem dX6_align_12 : decode cX6_align 12 = .ok (.iadd, 1) := by decide +kernel
theorem dX6_align_13 : decode cX6_align 13 = .ok (.iaload, 1) := by decide +kernel
theorem dX6_align_14 : decode cX6_align 14 = .ok (.invokevirtual 100, 3) := by decide +kernel
theorem dX6_align_17 : decode cX6_align 17 = .ok (.isub, 1) := by decide +kernel
theorem dX6_align_18 : decode cX6_align 18 = .ok (.istore 5, 2) := by decide +kernel
theorem dX6_align_20 : decode cX6_align 20 = .ok (.aload_n 0, 1) := by decide +kernel
theorem dX6_align_21 : decode cX6_align 21 = .ok (.iload_n 1, 1) := by decide +kernel
theorem dX6_align_22 : decode cX6_align 22 = .ok (.invokevirtual 151, 3) := by decide +kernel
theorem dX6_align_25 : decode cX6_align 25 = .ok (.istore 6, 2) := by decide +kernel
theorem dX6_align_27 : decode cX6_align 27 = .ok (.iload 5, 2) := by decide +kernel
theorem dX6_align_29 : decode cX6_align 29 = .ok (.ifCond .gt 7, 3) := by decide +kernel
theorem dX6_align_32 : decode cX6_align 32 = .ok (.iconst 0, 1) := by decide +kernel
theorem dX6_align_33 : decode cX6_align 33 = .ok (.goto 28, 3) := by decide +kernel
theorem dX6_align_36 : decode cX6_align 36 = .ok (.iload 6, 2) := by decide +kernel
theorem dX6_align_38 : decode cX6_align 38 = .ok (.iconst 1, 1) := by decide +kernel
theorem dX6_align_39 : decode cX6_align 39 = .ok (.if_icmp .ne 8, 3) := by decide +kernel
theorem dX6_align_42 : decode cX6_align 42 = .ok (.iload 5, 2) := by decide +kernel
theorem dX6_align_44 : decode cX6_align 44 = .ok (.goto 17, 3) := by decide +kernel
theorem dX6_align_47 : decode cX6_align 47 = .ok (.iload 6, 2) := by decide +kernel
theorem dX6_align_49 : decode cX6_align 49 = .ok (.iconst 2, 1) := by decide +kernel
theorem dX6_align_50 : decode cX6_align 50 = .ok (.if_icmp .ne 10, 3) := by decide +kernel
theorem dX6_align_53 : decode cX6_align 53 = .ok (.iload 5, 2) := by decide +kernel
theorem dX6_align_55 : decode cX6_align 55 = .ok (.iconst 2, 1) := by decide +kernel
theorem dX6_align_56 : decode cX6_align 56 = .ok (.idiv, 1) := by decide +kernel
theorem dX6_align_57 : decode cX6_align 57 = .ok (.goto 4, 3) := by decide +kernel
theorem dX6_align_60 : decode cX6_align 60 = .ok (.iconst 0, 1) := by decide +kernel
theorem dX6_align_61 : decode cX6_align 61 = .ok (.istore 7, 2) := by decide +kernel
theorem dX6_align_63 : decode cX6_align 63 = .ok (.aload_n 0, 1) := by decide +kernel
theorem dX6_align_64 : decode cX6_align 64 = .ok (.getfield 32, 3) := by decide +kernel
theorem dX6_align_67 : decode cX6_align 67 = .ok (.iconst 2, 1) := by decide +kernel
theorem dX6_align_68 : decode cX6_align 68 = .ok (.iload_n 1, 1) := by decide +kernel
theorem dX6_align_69 : decode cX6_align 69 = .ok (.imul, 1) := by decide +kernel
theorem dX6_align_70 : decode cX6_align 70 = .ok (.iload_n 2, 1) := by decide +kernel
theorem dX6_align_71 : decode cX6_align 71 = .ok (.iadd, 1) := by decide +kernel
theorem dX6_align_72 : decode cX6_align 72 = .ok (.iload_n 3, 1) := by decide +kernel
theorem dX6_align_73 : decode cX6_align 73 = .ok (.iload 7, 2) := by decide +kernel
theorem dX6_align_75 : decode cX6_align 75 = .ok (.iadd, 1) := by decide +kernel
theorem dX6_align_76 : decode cX6_align 76 = .ok (.aload_n 0, 1) := by decide +kernel
theorem dX6_align_77 : decode cX6_align 77 = .ok (.iload_n 1, 1) := by decide +kernel
theorem dX6_align_78 : decode cX6_align 78 = .ok (.bipush 6, 2) := by decide +kernel
theorem dX6_align_80 : decode cX6_align 80 = .ok (.invokevirtual 73, 3) := by decide +kernel
theorem dX6_align_83 : decode cX6_align 83 = .ok (.iadd, 1) := by decide +kernel
theorem dX6_align_84 : decode cX6_align 84 = .ok (.iastore, 1) := by decide +kernel
theorem dX6_align_85 : decode cX6_align 85 = .ok (.return_, 1) := by decide +kernel
theorem dX6_placeColumn_0 : decode cX6_placeColumn 0 = .ok (.aload_n 0, 1) := by decide +kernel
theorem dX6_placeColumn_1 : decode cX6_placeColumn 1 = .ok (.iload_n 1, 1) := by decide +kernel
theorem dX6_placeColumn_2 : decode cX6_placeColumn 2 = .ok (.iconst 0, 1) := by decide +kernel
theorem dX6_placeColumn_3 : decode cX6_placeColumn 3 = .ok (.aload_n 0, 1) := by decide +kernel
theorem dX6_placeColumn_4 : decode cX6_placeColumn 4 = .ok (.getfield 77, 3) := by decide +kernel
theorem dX6_placeColumn_7 : decode cX6_placeColumn 7 = .ok (.iconst 1, 1) := by decide +kernel
theorem dX6_placeColumn_8 : decode cX6_placeColumn 8 = .ok (.aload_n 0, 1) := by decide +kernel
theorem dX6_placeColumn_9 : decode cX6_placeColumn 9 = .ok (.iload_n 1, 1) := by decide +kernel
theorem dX6_placeColumn_10 : decode cX6_placeColumn 10 = .ok (.iconst 1, 1) := by decide +kernel
theorem dX6_placeColumn_11 : decode cX6_placeColumn 11 = .ok (.invokevirtual 141, 3) := by decide +kernel
theorem dX6_placeColumn_14 : decode cX6_placeColumn 14 = .ok (.invokevirtual 147, 3) := by decide +kernel
theorem dX6_placeColumn_17 : decode cX6_placeColumn 17 = .ok (.aload_n 0, 1) := by decide +kernel
theorem dX6_placeColumn_18 : decode cX6_placeColumn 18 = .ok (.iload_n 1, 1) := by decide +kernel
theorem dX6_placeColumn_19 : decode cX6_placeColumn 19 = .ok (.iconst 0, 1) := by decide +kernel
theorem dX6_placeColumn_20 : decode cX6_placeColumn 20 = .ok (.aload_n 0, 1) := by decide +kernel
theorem dX6_placeColumn_21 : decode cX6_placeColumn 21 = .ok (.getfield 77, 3) := by decide +kernel
theorem dX6_placeColumn_24 : decode cX6_placeColumn 24 = .ok (.iconst 1, 1) := by decide +kernel
theorem dX6_placeColumn_25 : decode cX6_placeColumn 25 = .ok (.invokevirtual 173, 3) := by decide +kernel
theorem dX6_placeColumn_28 : decode cX6_placeColumn 28 = .ok (.iconst 0, 1) := by decide +kernel
theorem dX6_placeColumn_29 : decode cX6_placeColumn 29 = .ok (.istore_n 2, 1) := by decide +kernel
theorem dX6_placeColumn_30 : decode cX6_placeColumn 30 = .ok (.iload_n 2, 1) := by decide +kernel
theorem dX6_placeColumn_31 : decode cX6_placeColumn 31 = .ok (.aload_n 0, 1) := by decide +kernel
theorem dX6_placeColumn_32 : decode cX6_placeColumn 32 = .ok (.getfield 77, 3) := by decide +kernel
theorem dX6_placeColumn_35 : decode cX6_placeColumn 35 = .ok (.if_icmp .ge 41, 3) := by decide +kernel
theorem dX6_placeColumn_38 : decode cX6_placeColumn 38 = .ok (.aload_n 0, 1) := by decide +kernel
theorem dX6_placeColumn_39 : decode cX6_placeColumn 39 = .ok (.aload_n 0, 1) := by decide +kernel
theorem dX6_placeColumn_40 : decode cX6_placeColumn 40 = .ok (.getfield 20, 3) := by decide +kernel
theorem dX6_placeColumn_43 : decode cX6_placeColumn 43 = .ok (.iload_n 2, 1) := by decide +kernel
theorem dX6_placeColumn_44 : decode cX6_placeColumn 44 = .ok (.iaload, 1) := by decide +kernel
theorem dX6_placeColumn_45 : decode cX6_placeColumn 45 = .ok (.iconst 0, 1) := by decide +kernel
theorem dX6_placeColumn_46 : decode cX6_placeColumn 46 = .ok (.aload_n 0, 1) := by decide +kernel
theorem dX6_placeColumn_47 : decode cX6_placeColumn 47 = .ok (.getfield 32, 3) := by decide +kernel
theorem dX6_placeColumn_50 : decode cX6_placeColumn 50 = .ok (.iconst 2, 1) := by decide +kernel
theorem dX6_placeColumn_51 : decode cX6_placeColumn 51 = .ok (.iload_n 1, 1) := by decide +kernel
theorem dX6_placeColumn_52 : decode cX6_placeColumn 52 = .ok (.imul, 1) := by decide +kernel
theorem dX6_placeColumn_53 : decode cX6_placeColumn 53 = .ok (.iaload, 1) := by decide +kernel
theorem dX6_placeColumn_54 : decode cX6_placeColumn 54 = .ok (.aload_n 0, 1) := by decide +kernel
theorem dX6_placeColumn_55 : decode cX6_placeColumn 55 = .ok (.iload_n 1, 1) := by decide +kernel
theorem dX6_placeColumn_56 : decode cX6_placeColumn 56 = .ok (.iconst 5, 1) := by decide +kernel
theorem dX6_placeColumn_57 : decode cX6_placeColumn 57 = .ok (.invokevirtual 73, 3) := by decide +kernel
theorem dX6_placeColumn_60 : decode cX6_placeColumn 60 = .ok (.iadd, 1) := by decide +kernel
theorem dX6_placeColumn_61 : decode cX6_placeColumn 61 = .ok (.aload_n 0, 1) := by decide +kernel
theorem dX6_placeColumn_62 : decode cX6_placeColumn 62 = .ok (.iload_n 1, 1) := by decide +kernel
theorem dX6_placeColumn_63 : decode cX6_placeColumn 63 = .ok (.iconst 0, 1) := by decide +kernel
theorem dX6_placeColumn_64 : decode cX6_placeColumn 64 = .ok (.invokevirtual 141, 3) := by decide +kernel
theorem dX6_placeColumn_67 : decode cX6_placeColumn 67 = .ok (.invokevirtual 177, 3) := by decide +kernel
theorem dX6_placeColumn_70 : decode cX6_placeColumn 70 = .ok (.iinc 2 1, 3) := by decide +kernel
theorem dX6_placeColumn_73 : decode cX6_placeColumn 73 = .ok (.goto (-43), 3) := by decide +kernel
theorem dX6_placeColumn_76 : decode cX6_placeColumn 76 = .ok (.return_, 1) := by decide +kernel
theorem dX6_setRowHeight_0 : decode cX6_setRowHeight 0 = .ok (.iload_n 2, 1) := by decide +kernel
theorem dX6_setRowHeight_1 : decode cX6_setRowHeight 1 = .ok (.iconst 2, 1) := by decide +kernel
theorem dX6_setRowHeight_2 : decode cX6_setRowHeight 2 = .ok (.aload_n 0, 1) := by decide +kernel
theorem dX6_setRowHeight_3 : decode cX6_setRowHeight 3 = .ok (.iload_n 1, 1) := by decide +kernel
theorem dX6_setRowHeight_4 : decode cX6_setRowHeight 4 = .ok (.bipush 6, 2) := by decide +kernel
theorem dX6_setRowHeight_6 : decode cX6_setRowHeight 6 = .ok (.invokevirtual 73, 3) := by decide +kernel
theorem dX6_setRowHeight_9 : decode cX6_setRowHeight 9 = .ok (.imul, 1) := by decide +kernel
theorem dX6_setRowHeight_10 : decode cX6_setRowHeight 10 = .ok (.isub, 1) := by decide +kernel
theorem dX6_setRowHeight_11 : decode cX6_setRowHeight 11 = .ok (.invokestatic 97, 3) := by decide +kernel
theorem dX6_setRowHeight_14 : decode cX6_setRowHeight 14 = .ok (.istore_n 3, 1) := by decide +kernel
theorem dX6_setRowHeight_15 : decode cX6_setRowHeight 15 = .ok (.aload_n 0, 1) := by decide +kernel
theorem dX6_setRowHeight_16 : decode cX6_setRowHeight 16 = .ok (.iload_n 1, 1) := by decide +kernel
theorem dX6_setRowHeight_17 : decode cX6_setRowHeight 17 = .ok (.bipush 11, 2) := by decide +kernel
theorem dX6_setRowHeight_19 : decode cX6_setRowHeight 19 = .ok (.invokevirtual 73, 3) := by decide +kernel
theorem dX6_setRowHeight_22 : decode cX6_setRowHeight 22 = .ok (.iconst (-1), 1) := by decide +kernel
theorem dX6_setRowHeight_23 : decode cX6_setRowHeight 23 = .ok (.if_icmp .eq 13, 3) := by decide +kernel
theorem dX6_setRowHeight_26 : decode cX6_setRowHeight 26 = .ok (.aload_n 0, 1) := by decide +kernel
theorem dX6_setRowHeight_27 : decode cX6_setRowHeight 27 = .ok (.iload_n 1, 1) := by decide +kernel
theorem dX6_setRowHeight_28 : decode cX6_setRowHeight 28 = .ok (.bipush 11, 2) := by decide +kernel
theorem dX6_setRowHeight_30 : decode cX6_setRowHeight 30 = .ok (.invokevirtual 73, 3) := by decide +kernel
theorem dX6_setRowHeight_33 : decode cX6_setRowHeight 33 = .ok (.goto 26, 3) := by decide +kernel
theorem dX6_setRowHeight_36 : decode cX6_setRowHeight 36 = .ok (.aload_n 0, 1) := by decide +kernel
theorem dX6_setRowHeight_37 : decode cX6_setRowHeight 37 = .ok (.iload_n 1, 1) := by decide +kernel
theorem dX6_setRowHeight_38 : decode cX6_setRowHeight 38 = .ok (.invokevirtual 151, 3) := by decide +kernel
theorem dX6_setRowHeight_41 : decode cX6_setRowHeight 41 = .ok (.iconst 3, 1) := by decide +kernel
theorem dX6_setRowHeight_42 : decode cX6_setRowHeight 42 = .ok (.if_icmp .ne 7, 3) := by decide +kernel
theorem dX6_setRowHeight_45 : decode cX6_setRowHeight 45 = .ok (.iload_n 3, 1) := by decide +kernel
theorem dX6_setRowHeight_46 : decode cX6_setRowHeight 46 = .ok (.goto 13, 3) := by decide +kernel
theorem dX6_setRowHeight_49 : decode cX6_setRowHeight 49 = .ok (.aload_n 0, 1) := by decide +kernel
theorem dX6_setRowHeight_50 : decode cX6_setRowHeight 50 = .ok (.getfield 26, 3) := by decide +kernel
theorem dX6_setRowHeight_53 : decode cX6_setRowHeight 53 = .ok (.iconst 2, 1) := by decide +kernel
theorem dX6_setRowHeight_54 : decode cX6_setRowHeight 54 = .ok (.iload_n 1, 1) := by decide +kernel
theorem dX6_setRowHeight_55 : decode cX6_setRowHeight 55 = .ok (.imul, 1) := by decide +kernel
theorem dX6_setRowHeight_56 : decode cX6_setRowHeight 56 = .ok (.iconst 1, 1) := by decide +kernel
theorem dX6_setRowHeight_57 : decode cX6_setRowHeight 57 = .ok (.iadd, 1) := by decide +kernel
theorem dX6_setRowHeight_58 : decode cX6_setRowHeight 58 = .ok (.iaload, 1) := by decide +kernel
theorem dX6_setRowHeight_59 : decode cX6_setRowHeight 59 = .ok (.istore 4, 2) := by decide +kernel
theorem dX6_setRowHeight_61 : decode cX6_setRowHeight 61 = .ok (.aload_n 0, 1) := by decide +kernel
theorem dX6_setRowHeight_62 : decode cX6_setRowHeight 62 = .ok (.getfield 29, 3) := by decide +kernel
theorem dX6_setRowHeight_65 : decode cX6_setRowHeight 65 = .ok (.iconst 2, 1) := by decide +kernel
theorem dX6_setRowHeight_66 : decode cX6_setRowHeight 66 = .ok (.iload_n 1, 1) := by decide +kernel
theorem dX6_setRowHeight_67 : decode cX6_setRowHeight 67 = .ok (.imul, 1) := by decide +kernel
theorem dX6_setRowHeight_68 : decode cX6_setRowHeight 68 = .ok (.iconst 1, 1) := by decide +kernel
theorem dX6_setRowHeight_69 : decode cX6_setRowHeight 69 = .ok (.iadd, 1) := by decide +kernel
theorem dX6_setRowHeight_70 : decode cX6_setRowHeight 70 = .ok (.aload_n 0, 1) := by decide +kernel
theorem dX6_setRowHeight_71 : decode cX6_setRowHeight 71 = .ok (.iload_n 1, 1) := by decide +kernel
theorem dX6_setRowHeight_72 : decode cX6_setRowHeight 72 = .ok (.iconst 1, 1) := by decide +kernel
theorem dX6_setRowHeight_73 : decode cX6_setRowHeight 73 = .ok (.iload 4, 2) := by decide +kernel
theorem dX6_setRowHeight_75 : decode cX6_setRowHeight 75 = .ok (.invokevirtual 106, 3) := by decide +kernel
theorem dX6_setRowHeight_78 : decode cX6_setRowHeight 78 = .ok (.iastore, 1) := by decide +kernel
theorem dX6_setRowHeight_79 : decode cX6_setRowHeight 79 = .ok (.return_, 1) := by decide +kernel
theorem dX6_placeRow_0 : decode cX6_placeRow 0 = .ok (.aload_n 0, 1) := by decide +kernel
theorem dX6_placeRow_1 : decode cX6_placeRow 1 = .ok (.getfield 32, 3) := by decide +kernel
theorem dX6_placeRow_4 : decode cX6_placeRow 4 = .ok (.iconst 2, 1) := by decide +kernel
theorem dX6_placeRow_5 : decode cX6_placeRow 5 = .ok (.iload_n 1, 1) := by decide +kernel
theorem dX6_placeRow_6 : decode cX6_placeRow 6 = .ok (.imul, 1) := by decide +kernel
theorem dX6_placeRow_7 : decode cX6_placeRow 7 = .ok (.iconst 1, 1) := by decide +kernel
theorem dX6_placeRow_8 : decode cX6_placeRow 8 = .ok (.iadd, 1) := by decide +kernel
theorem dX6_placeRow_9 : decode cX6_placeRow 9 = .ok (.iaload, 1) := by decide +kernel
theorem dX6_placeRow_10 : decode cX6_placeRow 10 = .ok (.aload_n 0, 1) := by decide +kernel
theorem dX6_placeRow_11 : decode cX6_placeRow 11 = .ok (.iload_n 1, 1) := by decide +kernel
theorem dX6_placeRow_12 : decode cX6_placeRow 12 = .ok (.iconst 5, 1) := by decide +kernel
theorem dX6_placeRow_13 : decode cX6_placeRow 13 = .ok (.invokevirtual 73, 3) := by decide +kernel
theorem dX6_placeRow_16 : decode cX6_placeRow 16 = .ok (.iadd, 1) := by decide +kernel
theorem dX6_placeRow_17 : decode cX6_placeRow 17 = .ok (.istore_n 2, 1) := by decide +kernel
theorem dX6_placeRow_18 : decode cX6_placeRow 18 = .ok (.iconst 0, 1) := by decide +kernel
theorem dX6_placeRow_19 : decode cX6_placeRow 19 = .ok (.istore_n 3, 1) := by decide +kernel
theorem dX6_placeRow_20 : decode cX6_placeRow 20 = .ok (.iconst 0, 1) := by decide +kernel
theorem dX6_placeRow_21 : decode cX6_placeRow 21 = .ok (.istore 4, 2) := by decide +kernel
theorem dX6_placeRow_23 : decode cX6_placeRow 23 = .ok (.iload 4, 2) := by decide +kernel
theorem dX6_placeRow_25 : decode cX6_placeRow 25 = .ok (.aload_n 0, 1) := by decide +kernel
theorem dX6_placeRow_26 : decode cX6_placeRow 26 = .ok (.getfield 38, 3) := by decide +kernel
theorem dX6_placeRow_29 : decode cX6_placeRow 29 = .ok (.iload_n 1, 1) := by decide +kernel
theorem dX6_placeRow_30 : decode cX6_placeRow 30 = .ok (.iaload, 1) := by decide +kernel
theorem dX6_placeRow_31 : decode cX6_placeRow 31 = .ok (.if_icmp .ge 122, 3) := by decide +kernel
theorem dX6_placeRow_34 : decode cX6_placeRow 34 = .ok (.aload_n 0, 1) := by decide +kernel
theorem dX6_placeRow_35 : decode cX6_placeRow 35 = .ok (.iload_n 1, 1) := by decide +kernel
theorem dX6_placeRow_36 : decode cX6_placeRow 36 = .ok (.iconst 1, 1) := by decide +kernel
theorem dX6_placeRow_37 : decode cX6_placeRow 37 = .ok (.invokevirtual 73, 3) := by decide +kernel
theorem dX6_placeRow_40 : decode cX6_placeRow 40 = .ok (.ifCond .ne 12, 3) := by decide +kernel
theorem dX6_placeRow_43 : decode cX6_placeRow 43 = .ok (.aload_n 0, 1) := by decide +kernel
theorem dX6_placeRow_44 : decode cX6_placeRow 44 = .ok (.iload_n 1, 1) := by decide +kernel
theorem dX6_placeRow_45 : decode cX6_placeRow 45 = .ok (.iconst 1, 1) := by decide +kernel
theorem dX6_placeRow_46 : decode cX6_placeRow 46 = .ok (.invokevirtual 141, 3) := by decide +kernel
theorem dX6_placeRow_49 : decode cX6_placeRow 49 = .ok (.goto 9, 3) := by decide +kernel
theorem dX6_placeRow_52 : decode cX6_placeRow 52 = .ok (.aload_n 0, 1) := by decide +kernel
theorem dX6_placeRow_53 : decode cX6_placeRow 53 = .ok (.iload 4, 2) := by decide +kernel
theorem dX6_placeRow_55 : decode cX6_placeRow 55 = .ok (.invokevirtual 163, 3) := by decide +kernel
theorem dX6_placeRow_58 : decode cX6_placeRow 58 = .ok (.istore 5, 2) := by decide +kernel
theorem dX6_placeRow_60 : decode cX6_placeRow 60 = .ok (.iload_n 3, 1) := by decide +kernel
theorem dX6_placeRow_61 : decode cX6_placeRow 61 = .ok (.istore 6, 2) := by decide +kernel
theorem dX6_placeRow_63 : decode cX6_placeRow 63 = .ok (.iload 6, 2) := by decide +kernel
theorem dX6_placeRow_65 : decode cX6_placeRow 65 = .ok (.aload_n 0, 1) := by decide +kernel
theorem dX6_placeRow_66 : decode cX6_placeRow 66 = .ok (.getfield 77, 3) := by decide +kernel
theorem dX6_placeRow_69 : decode cX6_placeRow 69 = .ok (.if_icmp .ge 54, 3) := by decide +kernel
theorem dX6_placeRow_72 : decode cX6_placeRow 72 = .ok (.aload_n 0, 1) := by decide +kernel
theorem dX6_placeRow_73 : decode cX6_placeRow 73 = .ok (.getfield 35, 3) := by decide +kernel
theorem dX6_placeRow_76 : decode cX6_placeRow 76 = .ok (.aload_n 0, 1) := by decide +kernel
theorem dX6_placeRow_77 : decode cX6_placeRow 77 = .ok (.getfield 20, 3) := by decide +kernel
theorem dX6_placeRow_80 : decode cX6_placeRow 80 = .ok (.iload 6, 2) := by decide +kernel
theorem dX6_placeRow_82 : decode cX6_placeRow 82 = .ok (.iaload, 1) := by decide +kernel
theorem dX6_placeRow_83 : decode cX6_placeRow 83 = .ok (.iaload, 1) := by decide +kernel
theorem dX6_placeRow_84 : decode cX6_placeRow 84 = .ok (.iload 4, 2) := by decide +kernel
theorem dX6_placeRow_86 : decode cX6_placeRow 86 = .ok (.if_icmp .ne 37, 3) := by decide +kernel
theorem dX6_placeRow_89 : decode cX6_placeRow 89 = .ok (.aload_n 0, 1) := by decide +kernel
theorem dX6_placeRow_90 : decode cX6_placeRow 90 = .ok (.aload_n 0, 1) := by decide +kernel
theorem dX6_placeRow_91 : decode cX6_placeRow 91 = .ok (.getfield 20, 3) := by decide +kernel
theorem dX6_placeRow_94 : decode cX6_placeRow 94 = .ok (.iload 6, 2) := by decide +kernel
theorem dX6_placeRow_96 : decode cX6_placeRow 96 = .ok (.iaload, 1) := by decide +kernel
theorem dX6_placeRow_97 : decode cX6_placeRow 97 = .ok (.iload 5, 2) := by decide +kernel
theorem dX6_placeRow_99 : decode cX6_placeRow 99 = .ok (.invokevirtual 180, 3) := by decide +kernel
theorem dX6_placeRow_102 : decode cX6_placeRow 102 = .ok (.aload_n 0, 1) := by decide +kernel
theorem dX6_placeRow_103 : decode cX6_placeRow 103 = .ok (.aload_n 0, 1) := by decide +kernel
theorem dX6_placeRow_104 : decode cX6_placeRow 104 = .ok (.getfield 20, 3) := by decide +kernel
theorem dX6_placeRow_107 : decode cX6_placeRow 107 = .ok (.iload 6, 2) := by decide +kernel
theorem dX6_placeRow_109 : decode cX6_placeRow 109 = .ok (.iaload, 1) := by decide +kernel
theorem dX6_placeRow_110 : decode cX6_placeRow 110 = .ok (.iconst 1, 1) := by decide +kernel
theorem dX6_placeRow_111 : decode cX6_placeRow 111 = .ok (.iload_n 2, 1) := by decide +kernel
theorem dX6_placeRow_112 : decode cX6_placeRow 112 = .ok (.iload 5, 2) := by decide +kernel
theorem dX6_placeRow_114 : decode cX6_placeRow 114 = .ok (.invokevirtual 177, 3) := by decide +kernel
theorem dX6_placeRow_117 : decode cX6_placeRow 117 = .ok (.iinc 6 1, 3) := by decide +kernel
theorem dX6_placeRow_120 : decode cX6_placeRow 120 = .ok (.goto (-57), 3) := by decide +kernel
theorem dX6_placeRow_123 : decode cX6_placeRow 123 = .ok (.aload_n 0, 1) := by decide +kernel
theorem dX6_placeRow_124 : decode cX6_placeRow 124 = .ok (.iload_n 1, 1) := by decide +kernel
theorem dX6_placeRow_125 : decode cX6_placeRow 125 = .ok (.iload_n 3, 1) := by decide +kernel
theorem dX6_placeRow_126 : decode cX6_placeRow 126 = .ok (.iload 6, 2) := by decide +kernel
theorem dX6_placeRow_128 : decode cX6_placeRow 128 = .ok (.iconst 0, 1) := by decide +kernel
theorem dX6_placeRow_129 : decode cX6_placeRow 129 = .ok (.invokevirtual 173, 3) := by decide +kernel
theorem dX6_placeRow_132 : decode cX6_placeRow 132 = .ok (.iload 6, 2) := by decide +kernel
theorem dX6_placeRow_134 : decode cX6_placeRow 134 = .ok (.istore_n 3, 1) := by decide +kernel
theorem dX6_placeRow_135 : decode cX6_placeRow 135 = .ok (.iload_n 2, 1) := by decide +kernel
theorem dX6_placeRow_136 : decode cX6_placeRow 136 = .ok (.iload 5, 2) := by decide +kernel
theorem dX6_placeRow_138 : decode cX6_placeRow 138 = .ok (.aload_n 0, 1) := by decide +kernel
theorem dX6_placeRow_139 : decode cX6_placeRow 139 = .ok (.iload_n 1, 1) := by decide +kernel
theorem dX6_placeRow_140 : decode cX6_placeRow 140 = .ok (.iconst 4, 1) := by decide +kernel
theorem dX6_placeRow_141 : decode cX6_placeRow 141 = .ok (.invokevirtual 73, 3) := by decide +kernel
theorem dX6_placeRow_144 : decode cX6_placeRow 144 = .ok (.iadd, 1) := by decide +kernel
theorem dX6_placeRow_145 : decode cX6_placeRow 145 = .ok (.iadd, 1) := by decide +kernel
theorem dX6_placeRow_146 : decode cX6_placeRow 146 = .ok (.istore_n 2, 1) := by decide +kernel
theorem dX6_placeRow_147 : decode cX6_placeRow 147 = .ok (.iinc 4 1, 3) := by decide +kernel
theorem dX6_placeRow_150 : decode cX6_placeRow 150 = .ok (.goto (-127), 3) := by decide +kernel
theorem dX6_placeRow_153 : decode cX6_placeRow 153 = .ok (.return_, 1) := by decide +kernel
theorem dX6_findPlaces_0 : decode cX6_findPlaces 0 = .ok (.aload_n 0, 1) := by decide +kernel
theorem dX6_findPlaces_1 : decode cX6_findPlaces 1 = .ok (.getfield 29, 3) := by decide +kernel
theorem dX6_findPlaces_4 : decode cX6_findPlaces 4 = .ok (.iconst 1, 1) := by decide +kernel
theorem dX6_findPlaces_5 : decode cX6_findPlaces 5 = .ok (.aload_n 0, 1) := by decide +kernel
theorem dX6_findPlaces_6 : decode cX6_findPlaces 6 = .ok (.getfield 7, 3) := by decide +kernel
theorem dX6_findPlaces_9 : decode cX6_findPlaces 9 = .ok (.iconst 2, 1) := by decide +kernel
theorem dX6_findPlaces_10 : decode cX6_findPlaces 10 = .ok (.iaload, 1) := by decide +kernel
theorem dX6_findPlaces_11 : decode cX6_findPlaces 11 = .ok (.iastore, 1) := by decide +kernel
theorem dX6_findPlaces_12 : decode cX6_findPlaces 12 = .ok (.aload_n 0, 1) := by decide +kernel
theorem dX6_findPlaces_13 : decode cX6_findPlaces 13 = .ok (.getfield 32, 3) := by decide +kernel
theorem dX6_findPlaces_16 : decode cX6_findPlaces 16 = .ok (.iconst 0, 1) := by decide +kernel
theorem dX6_findPlaces_17 : decode cX6_findPlaces 17 = .ok (.iconst 0, 1) := by decide +kernel
theorem dX6_findPlaces_18 : decode cX6_findPlaces 18 = .ok (.iastore, 1) := by decide +kernel
theorem dX6_findPlaces_19 : decode cX6_findPlaces 19 = .ok (.aload_n 0, 1) := by decide +kernel
theorem dX6_findPlaces_20 : decode cX6_findPlaces 20 = .ok (.getfield 32, 3) := by decide +kernel
theorem dX6_findPlaces_23 : decode cX6_findPlaces 23 = .ok (.iconst 1, 1) := by decide +kernel
theorem dX6_findPlaces_24 : decode cX6_findPlaces 24 = .ok (.iconst 0, 1) := by decide +kernel
theorem dX6_findPlaces_25 : decode cX6_findPlaces 25 = .ok (.iastore, 1) := by decide +kernel
theorem dX6_findPlaces_26 : decode cX6_findPlaces 26 = .ok (.iconst 0, 1) := by decide +kernel
theorem dX6_findPlaces_27 : decode cX6_findPlaces 27 = .ok (.istore_n 1, 1) := by decide +kernel
theorem dX6_findPlaces_28 : decode cX6_findPlaces 28 = .ok (.iload_n 1, 1) := by decide +kernel
theorem dX6_findPlaces_29 : decode cX6_findPlaces 29 = .ok (.aload_n 0, 1) := by decide +kernel
theorem dX6_findPlaces_30 : decode cX6_findPlaces 30 = .ok (.getfield 7, 3) := by decide +kernel
theorem dX6_findPlaces_33 : decode cX6_findPlaces 33 = .ok (.iconst 0, 1) := by decide +kernel
theorem dX6_findPlaces_34 : decode cX6_findPlaces 34 = .ok (.iaload, 1) := by decide +kernel
theorem dX6_findPlaces_35 : decode cX6_findPlaces 35 = .ok (.if_icmp .ge 53, 3) := by decide +kernel
theorem dX6_findPlaces_38 : decode cX6_findPlaces 38 = .ok (.aload_n 0, 1) := by decide +kernel
theorem dX6_findPlaces_39 : decode cX6_findPlaces 39 = .ok (.getfield 23, 3) := by decide +kernel
theorem dX6_findPlaces_42 : decode cX6_findPlaces 42 = .ok (.iload_n 1, 1) := by decide +kernel
theorem dX6_findPlaces_43 : decode cX6_findPlaces 43 = .ok (.baload, 1) := by decide +kernel
theorem dX6_findPlaces_44 : decode cX6_findPlaces 44 = .ok (.ifCond .eq 38, 3) := by decide +kernel
theorem dX6_findPlaces_47 : decode cX6_findPlaces 47 = .ok (.aload_n 0, 1) := by decide +kernel
theorem dX6_findPlaces_48 : decode cX6_findPlaces 48 = .ok (.iload_n 1, 1) := by decide +kernel
theorem dX6_findPlaces_49 : decode cX6_findPlaces 49 = .ok (.invokevirtual 87, 3) := by decide +kernel
theorem dX6_findPlaces_52 : decode cX6_findPlaces 52 = .ok (.aload_n 0, 1) := by decide +kernel
theorem dX6_findPlaces_53 : decode cX6_findPlaces 53 = .ok (.iload_n 1, 1) := by decide +kernel
theorem dX6_findPlaces_54 : decode cX6_findPlaces 54 = .ok (.iconst 0, 1) := by decide +kernel
theorem dX6_findPlaces_55 : decode cX6_findPlaces 55 = .ok (.invokevirtual 73, 3) := by decide +kernel
theorem dX6_findPlaces_58 : decode cX6_findPlaces 58 = .ok (.iconst 1, 1) := by decide +kernel
theorem dX6_findPlaces_59 : decode cX6_findPlaces 59 = .ok (.if_icmp .ne 11, 3) := by decide +kernel
theorem dX6_findPlaces_62 : decode cX6_findPlaces 62 = .ok (.aload_n 0, 1) := by decide +kernel
theorem dX6_findPlaces_63 : decode cX6_findPlaces 63 = .ok (.iload_n 1, 1) := by decide +kernel
theorem dX6_findPlaces_64 : decode cX6_findPlaces 64 = .ok (.invokevirtual 184, 3) := by decide +kernel
theorem dX6_findPlaces_67 : decode cX6_findPlaces 67 = .ok (.goto 15, 3) := by decide +kernel
theorem dX6_findPlaces_70 : decode cX6_findPlaces 70 = .ok (.aload_n 0, 1) := by decide +kernel
theorem dX6_findPlaces_71 : decode cX6_findPlaces 71 = .ok (.getfield 77, 3) := by decide +kernel
theorem dX6_findPlaces_74 : decode cX6_findPlaces 74 = .ok (.ifCond .le 8, 3) := by decide +kernel
theorem dX6_findPlaces_77 : decode cX6_findPlaces 77 = .ok (.aload_n 0, 1) := by decide +kernel
theorem dX6_findPlaces_78 : decode cX6_findPlaces 78 = .ok (.iload_n 1, 1) := by decide +kernel
theorem dX6_findPlaces_79 : decode cX6_findPlaces 79 = .ok (.invokevirtual 187, 3) := by decide +kernel
theorem dX6_findPlaces_82 : decode cX6_findPlaces 82 = .ok (.iinc 1 1, 3) := by decide +kernel
theorem dX6_findPlaces_85 : decode cX6_findPlaces 85 = .ok (.goto (-57), 3) := by decide +kernel
theorem dX6_findPlaces_88 : decode cX6_findPlaces 88 = .ok (.return_, 1) := by decide +kernel
theorem dX6_layOut_0 : decode cX6_layOut 0 = .ok (.aload_n 0, 1) := by decide +kernel
theorem dX6_layOut_1 : decode cX6_layOut 1 = .ok (.invokevirtual 190, 3) := by decide +kernel
theorem dX6_layOut_4 : decode cX6_layOut 4 = .ok (.aload_n 0, 1) := by decide +kernel
theorem dX6_layOut_5 : decode cX6_layOut 5 = .ok (.invokevirtual 193, 3) := by decide +kernel
theorem dX6_layOut_8 : decode cX6_layOut 8 = .ok (.aload_n 0, 1) := by decide +kernel
theorem dX6_layOut_9 : decode cX6_layOut 9 = .ok (.invokevirtual 196, 3) := by decide +kernel
theorem dX6_layOut_12 : decode cX6_layOut 12 = .ok (.aload_n 0, 1) := by decide +kernel
theorem dX6_layOut_13 : decode cX6_layOut 13 = .ok (.invokevirtual 199, 3) := by decide +kernel
theorem dX6_layOut_16 : decode cX6_layOut 16 = .ok (.aload_n 0, 1) := by decide +kernel
theorem dX6_layOut_17 : decode cX6_layOut 17 = .ok (.invokevirtual 202, 3) := by decide +kernel
theorem dX6_layOut_20 : decode cX6_layOut 20 = .ok (.return_, 1) := by decide +kernel
theorem dX6_hasLayout_0 : decode cX6_hasLayout 0 = .ok (.aload_n 0, 1) := by decide +kernel
theorem dX6_hasLayout_1 : decode cX6_hasLayout 1 = .ok (.aload_n 0, 1) := by decide +kernel
theorem dX6_hasLayout_2 : decode cX6_hasLayout 2 = .ok (.iload_n 1, 1) := by decide +kernel
theorem dX6_hasLayout_3 : decode cX6_hasLayout 3 = .ok (.invokevirtual 69, 3) := by decide +kernel
theorem dX6_hasLayout_6 : decode cX6_hasLayout 6 = .ok (.ifCond .eq 7, 3) := by decide +kernel
theorem dX6_hasLayout_9 : decode cX6_hasLayout 9 = .ok (.iconst 0, 1) := by decide +kernel
theorem dX6_hasLayout_10 : decode cX6_hasLayout 10 = .ok (.goto 4, 3) := by decide +kernel
theorem dX6_hasLayout_13 : decode cX6_hasLayout 13 = .ok (.iconst 1, 1) := by decide +kernel
theorem dX6_hasLayout_14 : decode cX6_hasLayout 14 = .ok (.putfield 58, 3) := by decide +kernel
theorem dX6_hasLayout_17 : decode cX6_hasLayout 17 = .ok (.aload_n 0, 1) := by decide +kernel
theorem dX6_hasLayout_18 : decode cX6_hasLayout 18 = .ok (.getfield 58, 3) := by decide +kernel
theorem dX6_hasLayout_21 : decode cX6_hasLayout 21 = .ok (.ifCond .ne 25, 3) := by decide +kernel
theorem dX6_hasLayout_24 : decode cX6_hasLayout 24 = .ok (.aload_n 0, 1) := by decide +kernel
theorem dX6_hasLayout_25 : decode cX6_hasLayout 25 = .ok (.invokevirtual 190, 3) := by decide +kernel
theorem dX6_hasLayout_28 : decode cX6_hasLayout 28 = .ok (.aload_n 0, 1) := by decide +kernel
theorem dX6_hasLayout_29 : decode cX6_hasLayout 29 = .ok (.aload_n 0, 1) := by decide +kernel
theorem dX6_hasLayout_30 : decode cX6_hasLayout 30 = .ok (.getfield 23, 3) := by decide +kernel
theorem dX6_hasLayout_33 : decode cX6_hasLayout 33 = .ok (.iload_n 1, 1) := by decide +kernel
theorem dX6_hasLayout_34 : decode cX6_hasLayout 34 = .ok (.baload, 1) := by decide +kernel
theorem dX6_hasLayout_35 : decode cX6_hasLayout 35 = .ok (.ifCond .eq 7, 3) := by decide +kernel
theorem dX6_hasLayout_38 : decode cX6_hasLayout 38 = .ok (.iconst 0, 1) := by decide +kernel
theorem dX6_hasLayout_39 : decode cX6_hasLayout 39 = .ok (.goto 4, 3) := by decide +kernel
theorem dX6_hasLayout_42 : decode cX6_hasLayout 42 = .ok (.iconst 2, 1) := by decide +kernel
theorem dX6_hasLayout_43 : decode cX6_hasLayout 43 = .ok (.putfield 58, 3) := by decide +kernel
theorem dX6_hasLayout_46 : decode cX6_hasLayout 46 = .ok (.aload_n 0, 1) := by decide +kernel
theorem dX6_hasLayout_47 : decode cX6_hasLayout 47 = .ok (.getfield 58, 3) := by decide +kernel
theorem dX6_hasLayout_50 : decode cX6_hasLayout 50 = .ok (.ifCond .ne 7, 3) := by decide +kernel
theorem dX6_hasLayout_53 : decode cX6_hasLayout 53 = .ok (.aload_n 0, 1) := by decide +kernel
theorem dX6_hasLayout_54 : decode cX6_hasLayout 54 = .ok (.invokevirtual 205, 3) := by decide +kernel
theorem dX6_hasLayout_57 : decode cX6_hasLayout 57 = .ok (.aload_n 0, 1) := by decide +kernel
theorem dX6_hasLayout_58 : decode cX6_hasLayout 58 = .ok (.getfield 58, 3) := by decide +kernel
theorem dX6_hasLayout_61 : decode cX6_hasLayout 61 = .ok (.ifCond .ne 7, 3) := by decide +kernel
theorem dX6_hasLayout_64 : decode cX6_hasLayout 64 = .ok (.iconst 1, 1) := by decide +kernel
theorem dX6_hasLayout_65 : decode cX6_hasLayout 65 = .ok (.goto 4, 3) := by decide +kernel
theorem dX6_hasLayout_68 : decode cX6_hasLayout 68 = .ok (.iconst 0, 1) := by decide +kernel
theorem dX6_hasLayout_69 : decode cX6_hasLayout 69 = .ok (.ireturn, 1) := by decide +kernel
theorem dX6_x_0 : decode cX6_x 0 = .ok (.aload_n 0, 1) := by decide +kernel
theorem dX6_x_1 : decode cX6_x 1 = .ok (.iload_n 1, 1) := by decide +kernel
theorem dX6_x_2 : decode cX6_x 2 = .ok (.invokevirtual 208, 3) := by decide +kernel
theorem dX6_x_5 : decode cX6_x 5 = .ok (.ifCond .eq 14, 3) := by decide +kernel
theorem dX6_x_8 : decode cX6_x 8 = .ok (.aload_n 0, 1) := by decide +kernel
theorem dX6_x_9 : decode cX6_x 9 = .ok (.getfield 32, 3) := by decide +kernel
theorem dX6_x_12 : decode cX6_x 12 = .ok (.iconst 2, 1) := by decide +kernel
theorem dX6_x_13 : decode cX6_x 13 = .ok (.iload_n 1, 1) := by decide +kernel
theorem dX6_x_14 : decode cX6_x 14 = .ok (.imul, 1) := by decide +kernel
theorem dX6_x_15 : decode cX6_x 15 = .ok (.iaload, 1) := by decide +kernel
theorem dX6_x_16 : decode cX6_x 16 = .ok (.goto 4, 3) := by decide +kernel
theorem dX6_x_19 : decode cX6_x 19 = .ok (.iconst 0, 1) := by decide +kernel
theorem dX6_x_20 : decode cX6_x 20 = .ok (.ireturn, 1) := by decide +kernel
theorem dX6_y_0 : decode cX6_y 0 = .ok (.aload_n 0, 1) := by decide +kernel
theorem dX6_y_1 : decode cX6_y 1 = .ok (.iload_n 1, 1) := by decide +kernel
theorem dX6_y_2 : decode cX6_y 2 = .ok (.invokevirtual 208, 3) := by decide +kernel
theorem dX6_y_5 : decode cX6_y 5 = .ok (.ifCond .eq 16, 3) := by decide +kernel
theorem dX6_y_8 : decode cX6_y 8 = .ok (.aload_n 0, 1) := by decide +kernel
theorem dX6_y_9 : decode cX6_y 9 = .ok (.getfield 32, 3) := by decide +kernel
theorem dX6_y_12 : decode cX6_y 12 = .ok (.iconst 2, 1) := by decide +kernel
theorem dX6_y_13 : decode cX6_y 13 = .ok (.iload_n 1, 1) := by decide +kernel
theorem dX6_y_14 : decode cX6_y 14 = .ok (.imul, 1) := by decide +kernel
theorem dX6_y_15 : decode cX6_y 15 = .ok (.iconst 1, 1) := by decide +kernel
theorem dX6_y_16 : decode cX6_y 16 = .ok (.iadd, 1) := by decide +kernel
theorem dX6_y_17 : decode cX6_y 17 = .ok (.iaload, 1) := by decide +kernel
theorem dX6_y_18 : decode cX6_y 18 = .ok (.goto 4, 3) := by decide +kernel
theorem dX6_y_21 : decode cX6_y 21 = .ok (.iconst 0, 1) := by decide +kernel
theorem dX6_y_22 : decode cX6_y 22 = .ok (.ireturn, 1) := by decide +kernel
theorem dX6_width_0 : decode cX6_width 0 = .ok (.aload_n 0, 1) := by decide +kernel
theorem dX6_width_1 : decode cX6_width 1 = .ok (.iload_n 1, 1) := by decide +kernel
theorem dX6_width_2 : decode cX6_width 2 = .ok (.invokevirtual 208, 3) := by decide +kernel
theorem dX6_width_5 : decode cX6_width 5 = .ok (.ifCond .eq 14, 3) := by decide +kernel
theorem dX6_width_8 : decode cX6_width 8 = .ok (.aload_n 0, 1) := by decide +kernel
theorem dX6_width_9 : decode cX6_width 9 = .ok (.getfield 29, 3) := by decide +kernel
theorem dX6_width_12 : decode cX6_width 12 = .ok (.iconst 2, 1) := by decide +kernel
theorem dX6_width_13 : decode cX6_width 13 = .ok (.iload_n 1, 1) := by decide +kernel
theorem dX6_width_14 : decode cX6_width 14 = .ok (.imul, 1) := by decide +kernel
theorem dX6_width_15 : decode cX6_width 15 = .ok (.iaload, 1) := by decide +kernel
theorem dX6_width_16 : decode cX6_width 16 = .ok (.goto 4, 3) := by decide +kernel
theorem dX6_width_19 : decode cX6_width 19 = .ok (.iconst 0, 1) := by decide +kernel
theorem dX6_width_20 : decode cX6_width 20 = .ok (.ireturn, 1) := by decide +kernel
theorem dX6_height_0 : decode cX6_height 0 = .ok (.aload_n 0, 1) := by decide +kernel
theorem dX6_height_1 : decode cX6_height 1 = .ok (.iload_n 1, 1) := by decide +kernel
theorem dX6_height_2 : decode cX6_height 2 = .ok (.invokevirtual 208, 3) := by decide +kernel
theorem dX6_height_5 : decode cX6_height 5 = .ok (.ifCond .eq 16, 3) := by decide +kernel
theorem dX6_height_8 : decode cX6_height 8 = .ok (.aload_n 0, 1) := by decide +kernel
theorem dX6_height_9 : decode cX6_height 9 = .ok (.getfield 29, 3) := by decide +kernel
theorem dX6_height_12 : decode cX6_height 12 = .ok (.iconst 2, 1) := by decide +kernel
theorem dX6_height_13 : decode cX6_height 13 = .ok (.iload_n 1, 1) := by decide +kernel
theorem dX6_height_14 : decode cX6_height 14 = .ok (.imul, 1) := by decide +kernel
theorem dX6_height_15 : decode cX6_height 15 = .ok (.iconst 1, 1) := by decide +kernel
theorem dX6_height_16 : decode cX6_height 16 = .ok (.iadd, 1) := by decide +kernel
theorem dX6_height_17 : decode cX6_height 17 = .ok (.iaload, 1) := by decide +kernel
theorem dX6_height_18 : decode cX6_height 18 = .ok (.goto 4, 3) := by decide +kernel
theorem dX6_height_21 : decode cX6_height 21 = .ok (.iconst 0, 1) := by decide +kernel
theorem dX6_height_22 : decode cX6_height 22 = .ok (.ireturn, 1) := by decide +kernel
theorem dX6_naturalWidth_0 : decode cX6_naturalWidth 0 = .ok (.aload_n 0, 1) := by decide +kernel
theorem dX6_naturalWidth_1 : decode cX6_naturalWidth 1 = .ok (.iload_n 1, 1) := by decide +kernel
theorem dX6_naturalWidth_2 : decode cX6_naturalWidth 2 = .ok (.invokevirtual 208, 3) := by decide +kernel
theorem dX6_naturalWidth_5 : decode cX6_naturalWidth 5 = .ok (.ifCond .eq 14, 3) := by decide +kernel
theorem dX6_naturalWidth_8 : decode cX6_naturalWidth 8 = .ok (.aload_n 0, 1) := by decide +kernel
theorem dX6_naturalWidth_9 : decode cX6_naturalWidth 9 = .ok (.getfield 26, 3) := by decide +kernel
theorem dX6_naturalWidth_12 : decode cX6_naturalWidth 12 = .ok (.iconst 2, 1) := by decide +kernel
theorem dX6_naturalWidth_13 : decode cX6_naturalWidth 13 = .ok (.iload_n 1, 1) := by decide +kernel
theorem dX6_naturalWidth_14 : decode cX6_naturalWidth 14 = .ok (.imul, 1) := by decide +kernel
theorem dX6_naturalWidth_15 : decode cX6_naturalWidth 15 = .ok (.iaload, 1) := by decide +kernel
theorem dX6_naturalWidth_16 : decode cX6_naturalWidth 16 = .ok (.goto 4, 3) := by decide +kernel
theorem dX6_naturalWidth_19 : decode cX6_naturalWidth 19 = .ok (.iconst 0, 1) := by decide +kernel
theorem dX6_naturalWidth_20 : decode cX6_naturalWidth 20 = .ok (.ireturn, 1) := by decide +kernel
theorem dX6_naturalHeight_0 : decode cX6_naturalHeight 0 = .ok (.aload_n 0, 1) := by decide +kernel
theorem dX6_naturalHeight_1 : decode cX6_naturalHeight 1 = .ok (.iload_n 1, 1) := by decide +kernel
theorem dX6_naturalHeight_2 : decode cX6_naturalHeight 2 = .ok (.invokevirtual 208, 3) := by decide +kernel
theorem dX6_naturalHeight_5 : decode cX6_naturalHeight 5 = .ok (.ifCond .eq 16, 3) := by decide +kernel
theorem dX6_naturalHeight_8 : decode cX6_naturalHeight 8 = .ok (.aload_n 0, 1) := by decide +kernel
theorem dX6_naturalHeight_9 : decode cX6_naturalHeight 9 = .ok (.getfield 26, 3) := by decide +kernel
theorem dX6_naturalHeight_12 : decode cX6_naturalHeight 12 = .ok (.iconst 2, 1) := by decide +kernel
theorem dX6_naturalHeight_13 : decode cX6_naturalHeight 13 = .ok (.iload_n 1, 1) := by decide +kernel
theorem dX6_naturalHeight_14 : decode cX6_naturalHeight 14 = .ok (.imul, 1) := by decide +kernel
theorem dX6_naturalHeight_15 : decode cX6_naturalHeight 15 = .ok (.iconst 1, 1) := by decide +kernel
theorem dX6_naturalHeight_16 : decode cX6_naturalHeight 16 = .ok (.iadd, 1) := by decide +kernel
theorem dX6_naturalHeight_17 : decode cX6_naturalHeight 17 = .ok (.iaload, 1) := by decide +kernel
theorem dX6_naturalHeight_18 : decode cX6_naturalHeight 18 = .ok (.goto 4, 3) := by decide +kernel
theorem dX6_naturalHeight_21 : decode cX6_naturalHeight 21 = .ok (.iconst 0, 1) := by decide +kernel
theorem dX6_naturalHeight_22 : decode cX6_naturalHeight 22 = .ok (.ireturn, 1) := by decide +kernel
theorem dX6_lines_0 : decode cX6_lines 0 = .ok (.aload_n 0, 1) := by decide +kernel
theorem dX6_lines_1 : decode cX6_lines 1 = .ok (.iload_n 1, 1) := by decide +kernel
theorem dX6_lines_2 : decode cX6_lines 2 = .ok (.invokevirtual 208, 3) := by decide +kernel
theorem dX6_lines_5 : decode cX6_lines 5 = .ok (.ifCond .eq 12, 3) := by decide +kernel
theorem dX6_lines_8 : decode cX6_lines 8 = .ok (.aload_n 0, 1) := by decide +kernel
theorem dX6_lines_9 : decode cX6_lines 9 = .ok (.getfield 38, 3) := by decide +kernel
theorem dX6_lines_12 : decode cX6_lines 12 = .ok (.iload_n 1, 1) := by decide +kernel
theorem dX6_lines_13 : decode cX6_lines 13 = .ok (.iaload, 1) := by decide +kernel
theorem dX6_lines_14 : decode cX6_lines 14 = .ok (.goto 4, 3) := by decide +kernel
theorem dX6_lines_17 : decode cX6_lines 17 = .ok (.iconst 0, 1) := by decide +kernel
theorem dX6_lines_18 : decode cX6_lines 18 = .ok (.ireturn, 1) := by decide +kernel
theorem dX6_lineOf_0 : decode cX6_lineOf 0 = .ok (.aload_n 0, 1) := by decide +kernel
theorem dX6_lineOf_1 : decode cX6_lineOf 1 = .ok (.iload_n 1, 1) := by decide +kernel
theorem dX6_lineOf_2 : decode cX6_lineOf 2 = .ok (.invokevirtual 208, 3) := by decide +kernel
theorem dX6_lineOf_5 : decode cX6_lineOf 5 = .ok (.ifCond .eq 12, 3) := by decide +kernel
theorem dX6_lineOf_8 : decode cX6_lineOf 8 = .ok (.aload_n 0, 1) := by decide +kernel
theorem dX6_lineOf_9 : decode cX6_lineOf 9 = .ok (.getfield 35, 3) := by decide +kernel
theorem dX6_lineOf_12 : decode cX6_lineOf 12 = .ok (.iload_n 1, 1) := by decide +kernel
theorem dX6_lineOf_13 : decode cX6_lineOf 13 = .ok (.iaload, 1) := by decide +kernel
theorem dX6_lineOf_14 : decode cX6_lineOf 14 = .ok (.goto 4, 3) := by decide +kernel
theorem dX6_lineOf_17 : decode cX6_lineOf 17 = .ok (.iconst 0, 1) := by decide +kernel
theorem dX6_lineOf_18 : decode cX6_lineOf 18 = .ok (.ireturn, 1) := by decide +kernel
theorem dX6_end_0 : decode cX6_end 0 = .ok (.aload_n 0, 1) := by decide +kernel
theorem dX6_end_1 : decode cX6_end 1 = .ok (.getfield 32, 3) := by decide +kernel
theorem dX6_end_4 : decode cX6_end 4 = .ok (.iconst 2, 1) := by decide +kernel
theorem dX6_end_5 : decode cX6_end 5 = .ok (.iload_n 1, 1) := by decide +kernel
theorem dX6_end_6 : decode cX6_end 6 = .ok (.imul, 1) := by decide +kernel
theorem dX6_end_7 : decode cX6_end 7 = .ok (.iload_n 2, 1) := by decide +kernel
theorem dX6_end_8 : decode cX6_end 8 = .ok (.iadd, 1) := by decide +kernel
theorem dX6_end_9 : decode cX6_end 9 = .ok (.iaload, 1) := by decide +kernel
theorem dX6_end_10 : decode cX6_end 10 = .ok (.aload_n 0, 1) := by decide +kernel
theorem dX6_end_11 : decode cX6_end 11 = .ok (.getfield 29, 3) := by decide +kernel
theorem dX6_end_14 : decode cX6_end 14 = .ok (.iconst 2, 1) := by decide +kernel
theorem dX6_end_15 : decode cX6_end 15 = .ok (.iload_n 1, 1) := by decide +kernel
theorem dX6_end_16 : decode cX6_end 16 = .ok (.imul, 1) := by decide +kernel
theorem dX6_end_17 : decode cX6_end 17 = .ok (.iload_n 2, 1) := by decide +kernel
theorem dX6_end_18 : decode cX6_end 18 = .ok (.iadd, 1) := by decide +kernel
theorem dX6_end_19 : decode cX6_end 19 = .ok (.iaload, 1) := by decide +kernel
theorem dX6_end_20 : decode cX6_end 20 = .ok (.iadd, 1) := by decide +kernel
theorem dX6_end_21 : decode cX6_end 21 = .ok (.ireturn, 1) := by decide +kernel
theorem dX6_overflow_0 : decode cX6_overflow 0 = .ok (.aload_n 0, 1) := by decide +kernel
theorem dX6_overflow_1 : decode cX6_overflow 1 = .ok (.iload_n 1, 1) := by decide +kernel
theorem dX6_overflow_2 : decode cX6_overflow 2 = .ok (.invokevirtual 208, 3) := by decide +kernel
theorem dX6_overflow_5 : decode cX6_overflow 5 = .ok (.ifCond .ne 5, 3) := by decide +kernel
theorem dX6_overflow_8 : decode cX6_overflow 8 = .ok (.iconst 0, 1) := by decide +kernel
theorem dX6_overflow_9 : decode cX6_overflow 9 = .ok (.ireturn, 1) := by decide +kernel
theorem dX6_overflow_10 : decode cX6_overflow 10 = .ok (.aload_n 0, 1) := by decide +kernel
theorem dX6_overflow_11 : decode cX6_overflow 11 = .ok (.iload_n 1, 1) := by decide +kernel
theorem dX6_overflow_12 : decode cX6_overflow 12 = .ok (.invokevirtual 110, 3) := by decide +kernel
theorem dX6_overflow_15 : decode cX6_overflow 15 = .ok (.ifCond .eq 64, 3) := by decide +kernel
theorem dX6_overflow_18 : decode cX6_overflow 18 = .ok (.aload_n 0, 1) := by decide +kernel
theorem dX6_overflow_19 : decode cX6_overflow 19 = .ok (.iload_n 1, 1) := by decide +kernel
theorem dX6_overflow_20 : decode cX6_overflow 20 = .ok (.bipush 19, 2) := by decide +kernel
theorem dX6_overflow_22 : decode cX6_overflow 22 = .ok (.invokevirtual 73, 3) := by decide +kernel
theorem dX6_overflow_25 : decode cX6_overflow 25 = .ok (.ifCond .le 18, 3) := by decide +kernel
theorem dX6_overflow_28 : decode cX6_overflow 28 = .ok (.aload_n 0, 1) := by decide +kernel
theorem dX6_overflow_29 : decode cX6_overflow 29 = .ok (.iload_n 1, 1) := by decide +kernel
theorem dX6_overflow_30 : decode cX6_overflow 30 = .ok (.iconst 0, 1) := by decide +kernel
theorem dX6_overflow_31 : decode cX6_overflow 31 = .ok (.invokevirtual 141, 3) := by decide +kernel
theorem dX6_overflow_34 : decode cX6_overflow 34 = .ok (.bipush 8, 2) := by decide +kernel
theorem dX6_overflow_36 : decode cX6_overflow 36 = .ok (.if_icmp .ge 7, 3) := by decide +kernel
theorem dX6_overflow_39 : decode cX6_overflow 39 = .ok (.iconst 1, 1) := by decide +kernel
theorem dX6_overflow_40 : decode cX6_overflow 40 = .ok (.goto 4, 3) := by decide +kernel
theorem dX6_overflow_43 : decode cX6_overflow 43 = .ok (.iconst 0, 1) := by decide +kernel
theorem dX6_overflow_44 : decode cX6_overflow 44 = .ok (.istore_n 2, 1) := by decide +kernel
theorem dX6_overflow_45 : decode cX6_overflow 45 = .ok (.iload_n 2, 1) := by decide +kernel
theorem dX6_overflow_46 : decode cX6_overflow 46 = .ok (.ifCond .eq 7, 3) := by decide +kernel
theorem dX6_overflow_49 : decode cX6_overflow 49 = .ok (.iconst 1, 1) := by decide +kernel
theorem dX6_overflow_50 : decode cX6_overflow 50 = .ok (.goto 4, 3) := by decide +kernel
theorem dX6_overflow_53 : decode cX6_overflow 53 = .ok (.iconst 0, 1) := by decide +kernel
theorem dX6_overflow_54 : decode cX6_overflow 54 = .ok (.bipush 16, 2) := by decide +kernel
theorem dX6_overflow_56 : decode cX6_overflow 56 = .ok (.aload_n 0, 1) := by decide +kernel
theorem dX6_overflow_57 : decode cX6_overflow 57 = .ok (.getfield 38, 3) := by decide +kernel
theorem dX6_overflow_60 : decode cX6_overflow 60 = .ok (.iload_n 1, 1) := by decide +kernel
theorem dX6_overflow_61 : decode cX6_overflow 61 = .ok (.iaload, 1) := by decide +kernel
theorem dX6_overflow_62 : decode cX6_overflow 62 = .ok (.imul, 1) := by decide +kernel
theorem dX6_overflow_63 : decode cX6_overflow 63 = .ok (.aload_n 0, 1) := by decide +kernel
theorem dX6_overflow_64 : decode cX6_overflow 64 = .ok (.iload_n 1, 1) := by decide +kernel
theorem dX6_overflow_65 : decode cX6_overflow 65 = .ok (.iconst 1, 1) := by decide +kernel
theorem dX6_overflow_66 : decode cX6_overflow 66 = .ok (.invokevirtual 141, 3) := by decide +kernel
theorem dX6_overflow_69 : decode cX6_overflow 69 = .ok (.if_icmp .le 7, 3) := by decide +kernel
theorem dX6_overflow_72 : decode cX6_overflow 72 = .ok (.iconst 2, 1) := by decide +kernel
theorem dX6_overflow_73 : decode cX6_overflow 73 = .ok (.goto 4, 3) := by decide +kernel
theorem dX6_overflow_76 : decode cX6_overflow 76 = .ok (.iconst 0, 1) := by decide +kernel
theorem dX6_overflow_77 : decode cX6_overflow 77 = .ok (.iadd, 1) := by decide +kernel
theorem dX6_overflow_78 : decode cX6_overflow 78 = .ok (.ireturn, 1) := by decide +kernel
theorem dX6_overflow_79 : decode cX6_overflow 79 = .ok (.aload_n 0, 1) := by decide +kernel
theorem dX6_overflow_80 : decode cX6_overflow 80 = .ok (.iload_n 1, 1) := by decide +kernel
theorem dX6_overflow_81 : decode cX6_overflow 81 = .ok (.invokevirtual 87, 3) := by decide +kernel
theorem dX6_overflow_84 : decode cX6_overflow 84 = .ok (.iconst 0, 1) := by decide +kernel
theorem dX6_overflow_85 : decode cX6_overflow 85 = .ok (.istore_n 2, 1) := by decide +kernel
theorem dX6_overflow_86 : decode cX6_overflow 86 = .ok (.iconst 0, 1) := by decide +kernel
theorem dX6_overflow_87 : decode cX6_overflow 87 = .ok (.istore_n 3, 1) := by decide +kernel
theorem dX6_overflow_88 : decode cX6_overflow 88 = .ok (.iload_n 3, 1) := by decide +kernel
theorem dX6_overflow_89 : decode cX6_overflow 89 = .ok (.aload_n 0, 1) := by decide +kernel
theorem dX6_overflow_90 : decode cX6_overflow 90 = .ok (.getfield 77, 3) := by decide +kernel
theorem dX6_overflow_93 : decode cX6_overflow 93 = .ok (.if_icmp .ge 89, 3) := by decide +kernel
theorem dX6_overflow_96 : decode cX6_overflow 96 = .ok (.iconst 0, 1) := by decide +kernel
theorem dX6_overflow_97 : decode cX6_overflow 97 = .ok (.istore 4, 2) := by decide +kernel
theorem dX6_overflow_99 : decode cX6_overflow 99 = .ok (.iload 4, 2) := by decide +kernel
theorem dX6_overflow_101 : decode cX6_overflow 101 = .ok (.iconst 2, 1) := by decide +kernel
theorem dX6_overflow_102 : decode cX6_overflow 102 = .ok (.if_icmp .ge 74, 3) := by decide +kernel
theorem dX6_overflow_105 : decode cX6_overflow 105 = .ok (.aload_n 0, 1) := by decide +kernel
theorem dX6_overflow_106 : decode cX6_overflow 106 = .ok (.aload_n 0, 1) := by decide +kernel
theorem dX6_overflow_107 : decode cX6_overflow 107 = .ok (.getfield 20, 3) := by decide +kernel
theorem dX6_overflow_110 : decode cX6_overflow 110 = .ok (.iload_n 3, 1) := by decide +kernel
theorem dX6_overflow_111 : decode cX6_overflow 111 = .ok (.iaload, 1) := by decide +kernel
theorem dX6_overflow_112 : decode cX6_overflow 112 = .ok (.iload 4, 2) := by decide +kernel
theorem dX6_overflow_114 : decode cX6_overflow 114 = .ok (.invokevirtual 211, 3) := by decide +kernel
theorem dX6_overflow_117 : decode cX6_overflow 117 = .ok (.aload_n 0, 1) := by decide +kernel
theorem dX6_overflow_118 : decode cX6_overflow 118 = .ok (.aload_n 0, 1) := by decide +kernel
theorem dX6_overflow_119 : decode cX6_overflow 119 = .ok (.getfield 20, 3) := by decide +kernel
theorem dX6_overflow_122 : decode cX6_overflow 122 = .ok (.iload_n 3, 1) := by decide +kernel
theorem dX6_overflow_123 : decode cX6_overflow 123 = .ok (.iaload, 1) := by decide +kernel
theorem dX6_overflow_124 : decode cX6_overflow 124 = .ok (.bipush 6, 2) := by decide +kernel
theorem dX6_overflow_126 : decode cX6_overflow 126 = .ok (.invokevirtual 73, 3) := by decide +kernel
theorem dX6_overflow_129 : decode cX6_overflow 129 = .ok (.iadd, 1) := by decide +kernel
theorem dX6_overflow_130 : decode cX6_overflow 130 = .ok (.aload_n 0, 1) := by decide +kernel
theorem dX6_overflow_131 : decode cX6_overflow 131 = .ok (.iload_n 1, 1) := by decide +kernel
theorem dX6_overflow_132 : decode cX6_overflow 132 = .ok (.iload 4, 2) := by decide +kernel
theorem dX6_overflow_134 : decode cX6_overflow 134 = .ok (.invokevirtual 211, 3) := by decide +kernel
theorem dX6_overflow_137 : decode cX6_overflow 137 = .ok (.aload_n 0, 1) := by decide +kernel
theorem dX6_overflow_138 : decode cX6_overflow 138 = .ok (.iload_n 1, 1) := by decide +kernel
theorem dX6_overflow_139 : decode cX6_overflow 139 = .ok (.iconst 5, 1) := by decide +kernel
theorem dX6_overflow_140 : decode cX6_overflow 140 = .ok (.invokevirtual 73, 3) := by decide +kernel
theorem dX6_overflow_143 : decode cX6_overflow 143 = .ok (.isub, 1) := by decide +kernel
theorem dX6_overflow_144 : decode cX6_overflow 144 = .ok (.if_icmp .le 7, 3) := by decide +kernel
theorem dX6_overflow_147 : decode cX6_overflow 147 = .ok (.iconst 1, 1) := by decide +kernel
theorem dX6_overflow_148 : decode cX6_overflow 148 = .ok (.goto 4, 3) := by decide +kernel
theorem dX6_overflow_151 : decode cX6_overflow 151 = .ok (.iconst 0, 1) := by decide +kernel
theorem dX6_overflow_152 : decode cX6_overflow 152 = .ok (.istore 5, 2) := by decide +kernel
theorem dX6_overflow_154 : decode cX6_overflow 154 = .ok (.iload_n 2, 1) := by decide +kernel
theorem dX6_overflow_155 : decode cX6_overflow 155 = .ok (.iload 5, 2) := by decide +kernel
theorem dX6_overflow_157 : decode cX6_overflow 157 = .ok (.ifCond .eq 10, 3) := by decide +kernel
theorem dX6_overflow_160 : decode cX6_overflow 160 = .ok (.iconst 1, 1) := by decide +kernel
theorem dX6_overflow_161 : decode cX6_overflow 161 = .ok (.iload 4, 2) := by decide +kernel
theorem dX6_overflow_163 : decode cX6_overflow 163 = .ok (.iadd, 1) := by decide +kernel
theorem dX6_overflow_164 : decode cX6_overflow 164 = .ok (.goto 4, 3) := by decide +kernel
theorem dX6_overflow_167 : decode cX6_overflow 167 = .ok (.iconst 0, 1) := by decide +kernel
theorem dX6_overflow_168 : decode cX6_overflow 168 = .ok (.ior, 1) := by decide +kernel
theorem dX6_overflow_169 : decode cX6_overflow 169 = .ok (.istore_n 2, 1) := by decide +kernel
theorem dX6_overflow_170 : decode cX6_overflow 170 = .ok (.iinc 4 1, 3) := by decide +kernel
theorem dX6_overflow_173 : decode cX6_overflow 173 = .ok (.goto (-74), 3) := by decide +kernel
theorem dX6_overflow_176 : decode cX6_overflow 176 = .ok (.iinc 3 1, 3) := by decide +kernel
theorem dX6_overflow_179 : decode cX6_overflow 179 = .ok (.goto (-91), 3) := by decide +kernel
theorem dX6_overflow_182 : decode cX6_overflow 182 = .ok (.iload_n 2, 1) := by decide +kernel
theorem dX6_overflow_183 : decode cX6_overflow 183 = .ok (.ireturn, 1) := by decide +kernel
theorem dX6_covers_0 : decode cX6_covers 0 = .ok (.iload_n 2, 1) := by decide +kernel
theorem dX6_covers_1 : decode cX6_covers 1 = .ok (.aload_n 0, 1) := by decide +kernel
theorem dX6_covers_2 : decode cX6_covers 2 = .ok (.getfield 32, 3) := by decide +kernel
theorem dX6_covers_5 : decode cX6_covers 5 = .ok (.iconst 2, 1) := by decide +kernel
theorem dX6_covers_6 : decode cX6_covers 6 = .ok (.iload_n 1, 1) := by decide +kernel
theorem dX6_covers_7 : decode cX6_covers 7 = .ok (.imul, 1) := by decide +kernel
theorem dX6_covers_8 : decode cX6_covers 8 = .ok (.iaload, 1) := by decide +kernel
theorem dX6_covers_9 : decode cX6_covers 9 = .ok (.if_icmp .lt 41, 3) := by decide +kernel
theorem dX6_covers_12 : decode cX6_covers 12 = .ok (.iload_n 2, 1) := by decide +kernel
theorem dX6_covers_13 : decode cX6_covers 13 = .ok (.aload_n 0, 1) := by decide +kernel
theorem dX6_covers_14 : decode cX6_covers 14 = .ok (.iload_n 1, 1) := by decide +kernel
theorem dX6_covers_15 : decode cX6_covers 15 = .ok (.iconst 0, 1) := by decide +kernel
theorem dX6_covers_16 : decode cX6_covers 16 = .ok (.invokevirtual 211, 3) := by decide +kernel
theorem dX6_covers_19 : decode cX6_covers 19 = .ok (.if_icmp .ge 31, 3) := by decide +kernel
theorem dX6_covers_22 : decode cX6_covers 22 = .ok (.iload_n 3, 1) := by decide +kernel
theorem dX6_covers_23 : decode cX6_covers 23 = .ok (.aload_n 0, 1) := by decide +kernel
theorem dX6_covers_24 : decode cX6_covers 24 = .ok (.getfield 32, 3) := by decide +kernel
theorem dX6_covers_27 : decode cX6_covers 27 = .ok (.iconst 2, 1) := by decide +kernel
theorem dX6_covers_28 : decode cX6_covers 28 = .ok (.iload_n 1, 1) := by decide +kernel
theorem dX6_covers_29 : decode cX6_covers 29 = .ok (.imul, 1) := by decide +kernel
theorem dX6_covers_30 : decode cX6_covers 30 = .ok (.iconst 1, 1) := by decide +kernel
theorem dX6_covers_31 : decode cX6_covers 31 = .ok (.iadd, 1) := by decide +kernel
theorem dX6_covers_32 : decode cX6_covers 32 = .ok (.iaload, 1) := by decide +kernel
theorem dX6_covers_33 : decode cX6_covers 33 = .ok (.if_icmp .lt 17, 3) := by decide +kernel
theorem dX6_covers_36 : decode cX6_covers 36 = .ok (.iload_n 3, 1) := by decide +kernel
theorem dX6_covers_37 : decode cX6_covers 37 = .ok (.aload_n 0, 1) := by decide +kernel
theorem dX6_covers_38 : decode cX6_covers 38 = .ok (.iload_n 1, 1) := by decide +kernel
theorem dX6_covers_39 : decode cX6_covers 39 = .ok (.iconst 1, 1) := by decide +kernel
theorem dX6_covers_40 : decode cX6_covers 40 = .ok (.invokevirtual 211, 3) := by decide +kernel
theorem dX6_covers_43 : decode cX6_covers 43 = .ok (.if_icmp .ge 7, 3) := by decide +kernel
theorem dX6_covers_46 : decode cX6_covers 46 = .ok (.iconst 1, 1) := by decide +kernel
theorem dX6_covers_47 : decode cX6_covers 47 = .ok (.goto 4, 3) := by decide +kernel
theorem dX6_covers_50 : decode cX6_covers 50 = .ok (.iconst 0, 1) := by decide +kernel
theorem dX6_covers_51 : decode cX6_covers 51 = .ok (.ireturn, 1) := by decide +kernel
theorem dX6_hit_0 : decode cX6_hit 0 = .ok (.aload_n 0, 1) := by decide +kernel
theorem dX6_hit_1 : decode cX6_hit 1 = .ok (.iconst 0, 1) := by decide +kernel
theorem dX6_hit_2 : decode cX6_hit 2 = .ok (.putfield 58, 3) := by decide +kernel
theorem dX6_hit_5 : decode cX6_hit 5 = .ok (.aload_n 0, 1) := by decide +kernel
theorem dX6_hit_6 : decode cX6_hit 6 = .ok (.invokevirtual 205, 3) := by decide +kernel
theorem dX6_hit_9 : decode cX6_hit 9 = .ok (.iconst (-1), 1) := by decide +kernel
theorem dX6_hit_10 : decode cX6_hit 10 = .ok (.istore_n 3, 1) := by decide +kernel
theorem dX6_hit_11 : decode cX6_hit 11 = .ok (.iconst 1, 1) := by decide +kernel
theorem dX6_hit_12 : decode cX6_hit 12 = .ok (.istore 4, 2) := by decide +kernel
theorem dX6_hit_14 : decode cX6_hit 14 = .ok (.aload_n 0, 1) := by decide +kernel
theorem dX6_hit_15 : decode cX6_hit 15 = .ok (.getfield 51, 3) := by decide +kernel
theorem dX6_hit_18 : decode cX6_hit 18 = .ok (.iconst 0, 1) := by decide +kernel
theorem dX6_hit_19 : decode cX6_hit 19 = .ok (.iconst 0, 1) := by decide +kernel
theorem dX6_hit_20 : decode cX6_hit 20 = .ok (.iastore, 1) := by decide +kernel
theorem dX6_hit_21 : decode cX6_hit 21 = .ok (.iload 4, 2) := by decide +kernel
theorem dX6_hit_23 : decode cX6_hit 23 = .ok (.ifCond .le 78, 3) := by decide +kernel
theorem dX6_hit_26 : decode cX6_hit 26 = .ok (.iinc 4 (-1), 3) := by decide +kernel
theorem dX6_hit_29 : decode cX6_hit 29 = .ok (.aload_n 0, 1) := by decide +kernel
theorem dX6_hit_30 : decode cX6_hit 30 = .ok (.getfield 51, 3) := by decide +kernel
theorem dX6_hit_33 : decode cX6_hit 33 = .ok (.iload 4, 2) := by decide +kernel
theorem dX6_hit_35 : decode cX6_hit 35 = .ok (.iaload, 1) := by decide +kernel
theorem dX6_hit_36 : decode cX6_hit 36 = .ok (.istore 5, 2) := by decide +kernel
theorem dX6_hit_38 : decode cX6_hit 38 = .ok (.aload_n 0, 1) := by decide +kernel
theorem dX6_hit_39 : decode cX6_hit 39 = .ok (.iload 5, 2) := by decide +kernel
theorem dX6_hit_41 : decode cX6_hit 41 = .ok (.iload_n 1, 1) := by decide +kernel
theorem dX6_hit_42 : decode cX6_hit 42 = .ok (.iload_n 2, 1) := by decide +kernel
theorem dX6_hit_43 : decode cX6_hit 43 = .ok (.invokevirtual 214, 3) := by decide +kernel
theorem dX6_hit_46 : decode cX6_hit 46 = .ok (.ifCond .eq 8, 3) := by decide +kernel
theorem dX6_hit_49 : decode cX6_hit 49 = .ok (.iload 5, 2) := by decide +kernel
theorem dX6_hit_51 : decode cX6_hit 51 = .ok (.goto 4, 3) := by decide +kernel
theorem dX6_hit_54 : decode cX6_hit 54 = .ok (.iload_n 3, 1) := by decide +kernel
theorem dX6_hit_55 : decode cX6_hit 55 = .ok (.istore_n 3, 1) := by decide +kernel
theorem dX6_hit_56 : decode cX6_hit 56 = .ok (.aload_n 0, 1) := by decide +kernel
theorem dX6_hit_57 : decode cX6_hit 57 = .ok (.iload 5, 2) := by decide +kernel
theorem dX6_hit_59 : decode cX6_hit 59 = .ok (.invokevirtual 87, 3) := by decide +kernel
theorem dX6_hit_62 : decode cX6_hit 62 = .ok (.aload_n 0, 1) := by decide +kernel
theorem dX6_hit_63 : decode cX6_hit 63 = .ok (.getfield 77, 3) := by decide +kernel
theorem dX6_hit_66 : decode cX6_hit 66 = .ok (.iconst 1, 1) := by decide +kernel
theorem dX6_hit_67 : decode cX6_hit 67 = .ok (.isub, 1) := by decide +kernel
theorem dX6_hit_68 : decode cX6_hit 68 = .ok (.istore 6, 2) := by decide +kernel
theorem dX6_hit_70 : decode cX6_hit 70 = .ok (.iload 6, 2) := by decide +kernel
theorem dX6_hit_72 : decode cX6_hit 72 = .ok (.ifCond .lt 26, 3) := by decide +kernel
theorem dX6_hit_75 : decode cX6_hit 75 = .ok (.aload_n 0, 1) := by decide +kernel
theorem dX6_hit_76 : decode cX6_hit 76 = .ok (.getfield 51, 3) := by decide +kernel
theorem dX6_hit_79 : decode cX6_hit 79 = .ok (.iload 4, 2) := by decide +kernel
theorem dX6_hit_81 : decode cX6_hit 81 = .ok (.aload_n 0, 1) := by decide +kernel
theorem dX6_hit_82 : decode cX6_hit 82 = .ok (.getfield 20, 3) := by decide +kernel
theorem dX6_hit_85 : decode cX6_hit 85 = .ok (.iload 6, 2) := by decide +kernel
theorem dX6_hit_87 : decode cX6_hit 87 = .ok (.iaload, 1) := by decide +kernel
theorem dX6_hit_88 : decode cX6_hit 88 = .ok (.iastore, 1) := by decide +kernel
theorem dX6_hit_89 : decode cX6_hit 89 = .ok (.iinc 4 1, 3) := by decide +kernel
theorem dX6_hit_92 : decode cX6_hit 92 = .ok (.iinc 6 (-1), 3) := by decide +kernel
theorem dX6_hit_95 : decode cX6_hit 95 = .ok (.goto (-25), 3) := by decide +kernel
theorem dX6_hit_98 : decode cX6_hit 98 = .ok (.goto (-77), 3) := by decide +kernel
theorem dX6_hit_101 : decode cX6_hit 101 = .ok (.iload_n 3, 1) := by decide +kernel
theorem dX6_hit_102 : decode cX6_hit 102 = .ok (.ireturn, 1) := by decide +kernel
theorem dX6_widthFor_0 : decode cX6_widthFor 0 = .ok (.aload_n 0, 1) := by decide +kernel
theorem dX6_widthFor_1 : decode cX6_widthFor 1 = .ok (.aload_n 0, 1) := by decide +kernel
theorem dX6_widthFor_2 : decode cX6_widthFor 2 = .ok (.iload_n 1, 1) := by decide +kernel
theorem dX6_widthFor_3 : decode cX6_widthFor 3 = .ok (.invokevirtual 69, 3) := by decide +kernel
theorem dX6_widthFor_6 : decode cX6_widthFor 6 = .ok (.ifCond .ne 7, 3) := by decide +kernel
theorem dX6_widthFor_9 : decode cX6_widthFor 9 = .ok (.iconst 1, 1) := by decide +kernel
theorem dX6_widthFor_10 : decode cX6_widthFor 10 = .ok (.goto 18, 3) := by decide +kernel
theorem dX6_widthFor_13 : decode cX6_widthFor 13 = .ok (.iload_n 2, 1) := by decide +kernel
theorem dX6_widthFor_14 : decode cX6_widthFor 14 = .ok (.iconst 0, 1) := by decide +kernel
theorem dX6_widthFor_15 : decode cX6_widthFor 15 = .ok (.bipush 100, 2) := by decide +kernel
theorem dX6_widthFor_17 : decode cX6_widthFor 17 = .ok (.invokestatic 65, 3) := by decide +kernel
theorem dX6_widthFor_20 : decode cX6_widthFor 20 = .ok (.ifCond .ne 7, 3) := by decide +kernel
theorem dX6_widthFor_23 : decode cX6_widthFor 23 = .ok (.iconst 2, 1) := by decide +kernel
theorem dX6_widthFor_24 : decode cX6_widthFor 24 = .ok (.goto 4, 3) := by decide +kernel
theorem dX6_widthFor_27 : decode cX6_widthFor 27 = .ok (.iconst 0, 1) := by decide +kernel
theorem dX6_widthFor_28 : decode cX6_widthFor 28 = .ok (.putfield 58, 3) := by decide +kernel
theorem dX6_widthFor_31 : decode cX6_widthFor 31 = .ok (.aload_n 0, 1) := by decide +kernel
theorem dX6_widthFor_32 : decode cX6_widthFor 32 = .ok (.getfield 58, 3) := by decide +kernel
theorem dX6_widthFor_35 : decode cX6_widthFor 35 = .ok (.ifCond .ne 25, 3) := by decide +kernel
theorem dX6_widthFor_38 : decode cX6_widthFor 38 = .ok (.aload_n 0, 1) := by decide +kernel
theorem dX6_widthFor_39 : decode cX6_widthFor 39 = .ok (.invokevirtual 190, 3) := by decide +kernel
theorem dX6_widthFor_42 : decode cX6_widthFor 42 = .ok (.aload_n 0, 1) := by decide +kernel
theorem dX6_widthFor_43 : decode cX6_widthFor 43 = .ok (.aload_n 0, 1) := by decide +kernel
theorem dX6_widthFor_44 : decode cX6_widthFor 44 = .ok (.getfield 23, 3) := by decide +kernel
theorem dX6_widthFor_47 : decode cX6_widthFor 47 = .ok (.iload_n 1, 1) := by decide +kernel
theorem dX6_widthFor_48 : decode cX6_widthFor 48 = .ok (.baload, 1) := by decide +kernel
theorem dX6_widthFor_49 : decode cX6_widthFor 49 = .ok (.ifCond .eq 7, 3) := by decide +kernel
theorem dX6_widthFor_52 : decode cX6_widthFor 52 = .ok (.iconst 0, 1) := by decide +kernel
theorem dX6_widthFor_53 : decode cX6_widthFor 53 = .ok (.goto 4, 3) := by decide +kernel
theorem dX6_widthFor_56 : decode cX6_widthFor 56 = .ok (.iconst 3, 1) := by decide +kernel
theorem dX6_widthFor_57 : decode cX6_widthFor 57 = .ok (.putfield 58, 3) := by decide +kernel
theorem dX6_widthFor_60 : decode cX6_widthFor 60 = .ok (.aload_n 0, 1) := by decide +kernel
theorem dX6_widthFor_61 : decode cX6_widthFor 61 = .ok (.getfield 58, 3) := by decide +kernel
theorem dX6_widthFor_64 : decode cX6_widthFor 64 = .ok (.ifCond .eq 5, 3) := by decide +kernel
theorem dX6_widthFor_67 : decode cX6_widthFor 67 = .ok (.iconst 0, 1) := by decide +kernel
theorem dX6_widthFor_68 : decode cX6_widthFor 68 = .ok (.ireturn, 1) := by decide +kernel
theorem dX6_widthFor_69 : decode cX6_widthFor 69 = .ok (.aload_n 0, 1) := by decide +kernel
theorem dX6_widthFor_70 : decode cX6_widthFor 70 = .ok (.getfield 7, 3) := by decide +kernel
theorem dX6_widthFor_73 : decode cX6_widthFor 73 = .ok (.iconst 1, 1) := by decide +kernel
theorem dX6_widthFor_74 : decode cX6_widthFor 74 = .ok (.iaload, 1) := by decide +kernel
theorem dX6_widthFor_75 : decode cX6_widthFor 75 = .ok (.istore_n 3, 1) := by decide +kernel
theorem dX6_widthFor_76 : decode cX6_widthFor 76 = .ok (.iconst (-1), 1) := by decide +kernel
theorem dX6_widthFor_77 : decode cX6_widthFor 77 = .ok (.istore 4, 2) := by decide +kernel
theorem dX6_widthFor_79 : decode cX6_widthFor 79 = .ok (.aload_n 0, 1) := by decide +kernel
theorem dX6_widthFor_80 : decode cX6_widthFor 80 = .ok (.invokevirtual 193, 3) := by decide +kernel
theorem dX6_widthFor_83 : decode cX6_widthFor 83 = .ok (.iconst 0, 1) := by decide +kernel
theorem dX6_widthFor_84 : decode cX6_widthFor 84 = .ok (.istore 5, 2) := by decide +kernel
theorem dX6_widthFor_86 : decode cX6_widthFor 86 = .ok (.iload 5, 2) := by decide +kernel
theorem dX6_widthFor_88 : decode cX6_widthFor 88 = .ok (.sipush 2000, 3) := by decide +kernel
theorem dX6_widthFor_91 : decode cX6_widthFor 91 = .ok (.if_icmp .gt 44, 3) := by decide +kernel
theorem dX6_widthFor_94 : decode cX6_widthFor 94 = .ok (.iload 4, 2) := by decide +kernel
theorem dX6_widthFor_96 : decode cX6_widthFor 96 = .ok (.ifCond .ge 39, 3) := by decide +kernel
theorem dX6_widthFor_99 : decode cX6_widthFor 99 = .ok (.aload_n 0, 1) := by decide +kernel
theorem dX6_widthFor_100 : decode cX6_widthFor 100 = .ok (.getfield 7, 3) := by decide +kernel
theorem dX6_widthFor_103 : decode cX6_widthFor 103 = .ok (.iconst 1, 1) := by decide +kernel
theorem dX6_widthFor_104 : decode cX6_widthFor 104 = .ok (.iload 5, 2) := by decide +kernel
theorem dX6_widthFor_106 : decode cX6_widthFor 106 = .ok (.iastore, 1) := by decide +kernel
theorem dX6_widthFor_107 : decode cX6_widthFor 107 = .ok (.aload_n 0, 1) := by decide +kernel
theorem dX6_widthFor_108 : decode cX6_widthFor 108 = .ok (.invokevirtual 196, 3) := by decide +kernel
theorem dX6_widthFor_111 : decode cX6_widthFor 111 = .ok (.aload_n 0, 1) := by decide +kernel
theorem dX6_widthFor_112 : decode cX6_widthFor 112 = .ok (.getfield 38, 3) := by decide +kernel
theorem dX6_widthFor_115 : decode cX6_widthFor 115 = .ok (.iload_n 1, 1) := by decide +kernel
theorem dX6_widthFor_116 : decode cX6_widthFor 116 = .ok (.iaload, 1) := by decide +kernel
theorem dX6_widthFor_117 : decode cX6_widthFor 117 = .ok (.iload_n 2, 1) := by decide +kernel
theorem dX6_widthFor_118 : decode cX6_widthFor 118 = .ok (.if_icmp .gt 8, 3) := by decide +kernel
theorem dX6_widthFor_121 : decode cX6_widthFor 121 = .ok (.iload 5, 2) := by decide +kernel
theorem dX6_widthFor_123 : decode cX6_widthFor 123 = .ok (.goto 4, 3) := by decide +kernel
theorem dX6_widthFor_126 : decode cX6_widthFor 126 = .ok (.iconst (-1), 1) := by decide +kernel
theorem dX6_widthFor_127 : decode cX6_widthFor 127 = .ok (.istore 4, 2) := by decide +kernel
theorem dX6_widthFor_129 : decode cX6_widthFor 129 = .ok (.iinc 5 1, 3) := by decide +kernel
theorem dX6_widthFor_132 : decode cX6_widthFor 132 = .ok (.goto (-46), 3) := by decide +kernel
theorem dX6_widthFor_135 : decode cX6_widthFor 135 = .ok (.aload_n 0, 1) := by decide +kernel
theorem dX6_widthFor_136 : decode cX6_widthFor 136 = .ok (.getfield 7, 3) := by decide +kernel
theorem dX6_widthFor_139 : decode cX6_widthFor 139 = .ok (.iconst 1, 1) := by decide +kernel
theorem dX6_widthFor_140 : decode cX6_widthFor 140 = .ok (.iload_n 3, 1) := by decide +kernel
theorem dX6_widthFor_141 : decode cX6_widthFor 141 = .ok (.iastore, 1) := by decide +kernel
theorem dX6_widthFor_142 : decode cX6_widthFor 142 = .ok (.iload 4, 2) := by decide +kernel
theorem dX6_widthFor_144 : decode cX6_widthFor 144 = .ok (.ireturn, 1) := by decide +kernel
theorem dX6_save_0 : decode cX6_save 0 = .ok (.aload_n 0, 1) := by decide +kernel
theorem dX6_save_1 : decode cX6_save 1 = .ok (.iload_n 1, 1) := by decide +kernel
theorem dX6_save_2 : decode cX6_save 2 = .ok (.iconst 0, 1) := by decide +kernel
theorem dX6_save_3 : decode cX6_save 3 = .ok (.iconst 1, 1) := by decide +kernel
theorem dX6_save_4 : decode cX6_save 4 = .ok (.invokestatic 65, 3) := by decide +kernel
theorem dX6_save_7 : decode cX6_save 7 = .ok (.ifCond .eq 7, 3) := by decide +kernel
theorem dX6_save_10 : decode cX6_save 10 = .ok (.iconst 0, 1) := by decide +kernel
theorem dX6_save_11 : decode cX6_save 11 = .ok (.goto 4, 3) := by decide +kernel
theorem dX6_save_14 : decode cX6_save 14 = .ok (.iconst 1, 1) := by decide +kernel
theorem dX6_save_15 : decode cX6_save 15 = .ok (.putfield 58, 3) := by decide +kernel
theorem dX6_save_18 : decode cX6_save 18 = .ok (.aload_n 0, 1) := by decide +kernel
theorem dX6_save_19 : decode cX6_save 19 = .ok (.getfield 58, 3) := by decide +kernel
theorem dX6_save_22 : decode cX6_save 22 = .ok (.ifCond .ne 43, 3) := by decide +kernel
theorem dX6_save_25 : decode cX6_save 25 = .ok (.iconst 0, 1) := by decide +kernel
theorem dX6_save_26 : decode cX6_save 26 = .ok (.istore_n 2, 1) := by decide +kernel
theorem dX6_save_27 : decode cX6_save 27 = .ok (.iload_n 2, 1) := by decide +kernel
theorem dX6_save_28 : decode cX6_save 28 = .ok (.sipush 843, 3) := by decide +kernel
theorem dX6_save_31 : decode cX6_save 31 = .ok (.if_icmp .ge 27, 3) := by decide +kernel
theorem dX6_save_34 : decode cX6_save 34 = .ok (.aload_n 0, 1) := by decide +kernel
theorem dX6_save_35 : decode cX6_save 35 = .ok (.getfield 13, 3) := by decide +kernel
theorem dX6_save_38 : decode cX6_save 38 = .ok (.sipush 843, 3) := by decide +kernel
theorem dX6_save_41 : decode cX6_save 41 = .ok (.iload_n 1, 1) := by decide +kernel
theorem dX6_save_42 : decode cX6_save 42 = .ok (.imul, 1) := by decide +kernel
theorem dX6_save_43 : decode cX6_save 43 = .ok (.iload_n 2, 1) := by decide +kernel
theorem dX6_save_44 : decode cX6_save 44 = .ok (.iadd, 1) := by decide +kernel
theorem dX6_save_45 : decode cX6_save 45 = .ok (.aload_n 0, 1) := by decide +kernel
theorem dX6_save_46 : decode cX6_save 46 = .ok (.getfield 7, 3) := by decide +kernel
theorem dX6_save_49 : decode cX6_save 49 = .ok (.iload_n 2, 1) := by decide +kernel
theorem dX6_save_50 : decode cX6_save 50 = .ok (.iaload, 1) := by decide +kernel
theorem dX6_save_51 : decode cX6_save 51 = .ok (.iastore, 1) := by decide +kernel
theorem dX6_save_52 : decode cX6_save 52 = .ok (.iinc 2 1, 3) := by decide +kernel
theorem dX6_save_55 : decode cX6_save 55 = .ok (.goto (-28), 3) := by decide +kernel
theorem dX6_save_58 : decode cX6_save 58 = .ok (.aload_n 0, 1) := by decide +kernel
theorem dX6_save_59 : decode cX6_save 59 = .ok (.getfield 16, 3) := by decide +kernel
theorem dX6_save_62 : decode cX6_save 62 = .ok (.iload_n 1, 1) := by decide +kernel
theorem dX6_save_63 : decode cX6_save 63 = .ok (.iconst 1, 1) := by decide +kernel
theorem dX6_save_64 : decode cX6_save 64 = .ok (.bastore, 1) := by decide +kernel
theorem dX6_save_65 : decode cX6_save 65 = .ok (.return_, 1) := by decide +kernel
theorem dX6_restore_0 : decode cX6_restore 0 = .ok (.aload_n 0, 1) := by decide +kernel
theorem dX6_restore_1 : decode cX6_restore 1 = .ok (.iload_n 1, 1) := by decide +kernel
theorem dX6_restore_2 : decode cX6_restore 2 = .ok (.iconst 0, 1) := by decide +kernel
theorem dX6_restore_3 : decode cX6_restore 3 = .ok (.iconst 1, 1) := by decide +kernel
theorem dX6_restore_4 : decode cX6_restore 4 = .ok (.invokestatic 65, 3) := by decide +kernel
theorem dX6_restore_7 : decode cX6_restore 7 = .ok (.ifCond .ne 7, 3) := by decide +kernel
theorem dX6_restore_10 : decode cX6_restore 10 = .ok (.iconst 1, 1) := by decide +kernel
theorem dX6_restore_11 : decode cX6_restore 11 = .ok (.goto 17, 3) := by decide +kernel
theorem dX6_restore_14 : decode cX6_restore 14 = .ok (.aload_n 0, 1) := by decide +kernel
theorem dX6_restore_15 : decode cX6_restore 15 = .ok (.getfield 16, 3) := by decide +kernel
theorem dX6_restore_18 : decode cX6_restore 18 = .ok (.iload_n 1, 1) := by decide +kernel
theorem dX6_restore_19 : decode cX6_restore 19 = .ok (.baload, 1) := by decide +kernel
theorem dX6_restore_20 : decode cX6_restore 20 = .ok (.ifCond .ne 7, 3) := by decide +kernel
theorem dX6_restore_23 : decode cX6_restore 23 = .ok (.iconst 2, 1) := by decide +kernel
theorem dX6_restore_24 : decode cX6_restore 24 = .ok (.goto 4, 3) := by decide +kernel
theorem dX6_restore_27 : decode cX6_restore 27 = .ok (.iconst 0, 1) := by decide +kernel
theorem dX6_restore_28 : decode cX6_restore 28 = .ok (.putfield 58, 3) := by decide +kernel
theorem dX6_restore_31 : decode cX6_restore 31 = .ok (.aload_n 0, 1) := by decide +kernel
theorem dX6_restore_32 : decode cX6_restore 32 = .ok (.getfield 58, 3) := by decide +kernel
theorem dX6_restore_35 : decode cX6_restore 35 = .ok (.ifCond .ne 36, 3) := by decide +kernel
theorem dX6_restore_38 : decode cX6_restore 38 = .ok (.iconst 0, 1) := by decide +kernel
theorem dX6_restore_39 : decode cX6_restore 39 = .ok (.istore_n 2, 1) := by decide +kernel
theorem dX6_restore_40 : decode cX6_restore 40 = .ok (.iload_n 2, 1) := by decide +kernel
theorem dX6_restore_41 : decode cX6_restore 41 = .ok (.sipush 843, 3) := by decide +kernel
theorem dX6_restore_44 : decode cX6_restore 44 = .ok (.if_icmp .ge 27, 3) := by decide +kernel
theorem dX6_restore_47 : decode cX6_restore 47 = .ok (.aload_n 0, 1) := by decide +kernel
theorem dX6_restore_48 : decode cX6_restore 48 = .ok (.getfield 7, 3) := by decide +kernel
theorem dX6_restore_51 : decode cX6_restore 51 = .ok (.iload_n 2, 1) := by decide +kernel
theorem dX6_restore_52 : decode cX6_restore 52 = .ok (.aload_n 0, 1) := by decide +kernel
theorem dX6_restore_53 : decode cX6_restore 53 = .ok (.getfield 13, 3) := by decide +kernel
theorem dX6_restore_56 : decode cX6_restore 56 = .ok (.sipush 843, 3) := by decide +kernel
theorem dX6_restore_59 : decode cX6_restore 59 = .ok (.iload_n 1, 1) := by decide +kernel
theorem dX6_restore_60 : decode cX6_restore 60 = .ok (.imul, 1) := by decide +kernel
theorem dX6_restore_61 : decode cX6_restore 61 = .ok (.iload_n 2, 1) := by decide +kernel
theorem dX6_restore_62 : decode cX6_restore 62 = .ok (.iadd, 1) := by decide +kernel
theorem dX6_restore_63 : decode cX6_restore 63 = .ok (.iaload, 1) := by decide +kernel
theorem dX6_restore_64 : decode cX6_restore 64 = .ok (.iastore, 1) := by decide +kernel
theorem dX6_restore_65 : decode cX6_restore 65 = .ok (.iinc 2 1, 3) := by decide +kernel
theorem dX6_restore_68 : decode cX6_restore 68 = .ok (.goto (-28), 3) := by decide +kernel
theorem dX6_restore_71 : decode cX6_restore 71 = .ok (.return_, 1) := by decide +kernel
theorem dJ9_max_7cf53_0 : decode cJ9_max_7cf53 0 = .ok (.iload_n 0, 1) := by decide +kernel
theorem dJ9_max_7cf53_1 : decode cJ9_max_7cf53 1 = .ok (.iload_n 1, 1) := by decide +kernel
theorem dJ9_max_7cf53_2 : decode cJ9_max_7cf53 2 = .ok (.if_icmp .lt 7, 3) := by decide +kernel
theorem dJ9_max_7cf53_5 : decode cJ9_max_7cf53 5 = .ok (.iload_n 0, 1) := by decide +kernel
theorem dJ9_max_7cf53_6 : decode cJ9_max_7cf53 6 = .ok (.goto 4, 3) := by decide +kernel
theorem dJ9_max_7cf53_9 : decode cJ9_max_7cf53 9 = .ok (.iload_n 1, 1) := by decide +kernel
theorem dJ9_max_7cf53_10 : decode cJ9_max_7cf53 10 = .ok (.ireturn, 1) := by decide +kernel
theorem dJ9_min_7cf53_0 : decode cJ9_min_7cf53 0 = .ok (.iload_n 0, 1) := by decide +kernel
theorem dJ9_min_7cf53_1 : decode cJ9_min_7cf53 1 = .ok (.iload_n 1, 1) := by decide +kernel
theorem dJ9_min_7cf53_2 : decode cJ9_min_7cf53 2 = .ok (.if_icmp .gt 7, 3) := by decide +kernel
theorem dJ9_min_7cf53_5 : decode cJ9_min_7cf53 5 = .ok (.iload_n 0, 1) := by decide +kernel
theorem dJ9_min_7cf53_6 : decode cJ9_min_7cf53 6 = .ok (.goto 4, 3) := by decide +kernel
theorem dJ9_min_7cf53_9 : decode cJ9_min_7cf53 9 = .ok (.iload_n 1, 1) := by decide +kernel
theorem dJ9_min_7cf53_10 : decode cJ9_min_7cf53 10 = .ok (.ireturn, 1) := by decide +kernel
theorem dL_add_0 : decode cL_add 0 = .ok (.aload_n 2, 1) := by decide +kernel
theorem dL_add_1 : decode cL_add 1 = .ok (.iconst 0, 1) := by decide +kernel
theorem dL_add_2 : decode cL_add 2 = .ok (.aload_n 0, 1) := by decide +kernel
theorem dL_add_3 : decode cL_add 3 = .ok (.iload_n 1, 1) := by decide +kernel
theorem dL_add_4 : decode cL_add 4 = .ok (.invokevirtual 7, 3) := by decide +kernel
theorem dL_add_7 : decode cL_add 7 = .ok (.i2l, 1) := by decide +kernel
theorem dL_add_8 : decode cL_add 8 = .ok (.lastore, 1) := by decide +kernel
theorem dL_add_9 : decode cL_add 9 = .ok (.goto 9, 3) := by decide +kernel
theorem dL_add_12 : decode cL_add 12 = .ok (.astore_n 3, 1) := by decide +kernel
theorem dL_add_13 : decode cL_add 13 = .ok (.iconst 1, 1) := by decide +kernel
theorem dL_add_14 : decode cL_add 14 = .ok (.ireturn, 1) := by decide +kernel
theorem dL_add_15 : decode cL_add 15 = .ok (.astore_n 3, 1) := by decide +kernel
theorem dL_add_16 : decode cL_add 16 = .ok (.iconst 2, 1) := by decide +kernel
theorem dL_add_17 : decode cL_add 17 = .ok (.ireturn, 1) := by decide +kernel
theorem dL_add_18 : decode cL_add 18 = .ok (.iconst 0, 1) := by decide +kernel
theorem dL_add_19 : decode cL_add 19 = .ok (.ireturn, 1) := by decide +kernel
theorem dL_remove_0 : decode cL_remove 0 = .ok (.aload_n 2, 1) := by decide +kernel
theorem dL_remove_1 : decode cL_remove 1 = .ok (.iconst 0, 1) := by decide +kernel
theorem dL_remove_2 : decode cL_remove 2 = .ok (.aload_n 0, 1) := by decide +kernel
theorem dL_remove_3 : decode cL_remove 3 = .ok (.iload_n 1, 1) := by decide +kernel
theorem dL_remove_4 : decode cL_remove 4 = .ok (.invokevirtual 17, 3) := by decide +kernel
theorem dL_remove_7 : decode cL_remove 7 = .ok (.i2l, 1) := by decide +kernel
theorem dL_remove_8 : decode cL_remove 8 = .ok (.lastore, 1) := by decide +kernel
theorem dL_remove_9 : decode cL_remove 9 = .ok (.goto 9, 3) := by decide +kernel
theorem dL_remove_12 : decode cL_remove 12 = .ok (.astore_n 3, 1) := by decide +kernel
theorem dL_remove_13 : decode cL_remove 13 = .ok (.iconst 1, 1) := by decide +kernel
theorem dL_remove_14 : decode cL_remove 14 = .ok (.ireturn, 1) := by decide +kernel
theorem dL_remove_15 : decode cL_remove 15 = .ok (.astore_n 3, 1) := by decide +kernel
theorem dL_remove_16 : decode cL_remove 16 = .ok (.iconst 2, 1) := by decide +kernel
theorem dL_remove_17 : decode cL_remove 17 = .ok (.ireturn, 1) := by decide +kernel
theorem dL_remove_18 : decode cL_remove 18 = .ok (.iconst 0, 1) := by decide +kernel
theorem dL_remove_19 : decode cL_remove 19 = .ok (.ireturn, 1) := by decide +kernel
theorem dL_parent_0 : decode cL_parent 0 = .ok (.aload_n 2, 1) := by decide +kernel
theorem dL_parent_1 : decode cL_parent 1 = .ok (.iconst 0, 1) := by decide +kernel
theorem dL_parent_2 : decode cL_parent 2 = .ok (.aload_n 0, 1) := by decide +kernel
theorem dL_parent_3 : decode cL_parent 3 = .ok (.iload_n 1, 1) := by decide +kernel
theorem dL_parent_4 : decode cL_parent 4 = .ok (.invokevirtual 22, 3) := by decide +kernel
end
section
theorem dL_parent_7 : decode cL_parent 7 = .ok (.i2l, 1) := by decide +kernel
theorem dL_parent_8 : decode cL_parent 8 = .ok (.lastore, 1) := by decide +kernel
theorem dL_parent_9 : decode cL_parent 9 = .ok (.goto 6, 3) := by decide +kernel
theorem dL_parent_12 : decode cL_parent 12 = .ok (.astore_n 3, 1) := by decide +kernel
theorem dL_parent_13 : decode cL_parent 13 = .ok (.iconst 1, 1) := by decide +kernel
theorem dL_parent_14 : decode cL_parent 14 = .ok (.ireturn, 1) := by decide +kernel
theorem dL_parent_15 : decode cL_parent 15 = .ok (.iconst 0, 1) := by decide +kernel
theorem dL_parent_16 : decode cL_parent 16 = .ok (.ireturn, 1) := by decide +kernel
theorem dL_child_0 : decode cL_child 0 = .ok (.aload_n 3, 1) := by decide +kernel
theorem dL_child_1 : decode cL_child 1 = .ok (.iconst 0, 1) := by decide +kernel
theorem dL_child_2 : decode cL_child 2 = .ok (.aload_n 0, 1) := by decide +kernel
theorem dL_child_3 : decode cL_child 3 = .ok (.iload_n 1, 1) := by decide +kernel
theorem dL_child_4 : decode cL_child 4 = .ok (.iload_n 2, 1) := by decide +kernel
theorem dL_child_5 : decode cL_child 5 = .ok (.invokevirtual 25, 3) := by decide +kernel
theorem dL_child_8 : decode cL_child 8 = .ok (.i2l, 1) := by decide +kernel
theorem dL_child_9 : decode cL_child 9 = .ok (.lastore, 1) := by decide +kernel
theorem dL_child_10 : decode cL_child 10 = .ok (.goto 7, 3) := by decide +kernel
theorem dL_child_13 : decode cL_child 13 = .ok (.astore 4, 2) := by decide +kernel
theorem dL_child_15 : decode cL_child 15 = .ok (.iconst 1, 1) := by decide +kernel
theorem dL_child_16 : decode cL_child 16 = .ok (.ireturn, 1) := by decide +kernel
theorem dL_child_17 : decode cL_child 17 = .ok (.iconst 0, 1) := by decide +kernel
theorem dL_child_18 : decode cL_child 18 = .ok (.ireturn, 1) := by decide +kernel
theorem dL_set_0 : decode cL_set 0 = .ok (.aload 4, 2) := by decide +kernel
theorem dL_set_2 : decode cL_set 2 = .ok (.iconst 0, 1) := by decide +kernel
theorem dL_set_3 : decode cL_set 3 = .ok (.aload_n 0, 1) := by decide +kernel
theorem dL_set_4 : decode cL_set 4 = .ok (.iload_n 1, 1) := by decide +kernel
theorem dL_set_5 : decode cL_set 5 = .ok (.iload_n 2, 1) := by decide +kernel
theorem dL_set_6 : decode cL_set 6 = .ok (.iload_n 3, 1) := by decide +kernel
theorem dL_set_7 : decode cL_set 7 = .ok (.invokevirtual 29, 3) := by decide +kernel
theorem dL_set_10 : decode cL_set 10 = .ok (.i2l, 1) := by decide +kernel
theorem dL_set_11 : decode cL_set 11 = .ok (.lastore, 1) := by decide +kernel
theorem dL_set_12 : decode cL_set 12 = .ok (.goto 11, 3) := by decide +kernel
theorem dL_set_15 : decode cL_set 15 = .ok (.astore 5, 2) := by decide +kernel
theorem dL_set_17 : decode cL_set 17 = .ok (.iconst 1, 1) := by decide +kernel
theorem dL_set_18 : decode cL_set 18 = .ok (.ireturn, 1) := by decide +kernel
theorem dL_set_19 : decode cL_set 19 = .ok (.astore 5, 2) := by decide +kernel
theorem dL_set_21 : decode cL_set 21 = .ok (.iconst 2, 1) := by decide +kernel
theorem dL_set_22 : decode cL_set 22 = .ok (.ireturn, 1) := by decide +kernel
theorem dL_set_23 : decode cL_set 23 = .ok (.iconst 0, 1) := by decide +kernel
theorem dL_set_24 : decode cL_set 24 = .ok (.ireturn, 1) := by decide +kernel
theorem dL_get_0 : decode cL_get 0 = .ok (.aload_n 3, 1) := by decide +kernel
theorem dL_get_1 : decode cL_get 1 = .ok (.iconst 0, 1) := by decide +kernel
theorem dL_get_2 : decode cL_get 2 = .ok (.aload_n 0, 1) := by decide +kernel
theorem dL_get_3 : decode cL_get 3 = .ok (.iload_n 1, 1) := by decide +kernel
theorem dL_get_4 : decode cL_get 4 = .ok (.iload_n 2, 1) := by decide +kernel
theorem dL_get_5 : decode cL_get 5 = .ok (.invokevirtual 33, 3) := by decide +kernel
theorem dL_get_8 : decode cL_get 8 = .ok (.i2l, 1) := by decide +kernel
theorem dL_get_9 : decode cL_get 9 = .ok (.lastore, 1) := by decide +kernel
theorem dL_get_10 : decode cL_get 10 = .ok (.goto 11, 3) := by decide +kernel
theorem dL_get_13 : decode cL_get 13 = .ok (.astore 4, 2) := by decide +kernel
theorem dL_get_15 : decode cL_get 15 = .ok (.iconst 1, 1) := by decide +kernel
theorem dL_get_16 : decode cL_get 16 = .ok (.ireturn, 1) := by decide +kernel
theorem dL_get_17 : decode cL_get 17 = .ok (.astore 4, 2) := by decide +kernel
theorem dL_get_19 : decode cL_get 19 = .ok (.iconst 2, 1) := by decide +kernel
theorem dL_get_20 : decode cL_get 20 = .ok (.ireturn, 1) := by decide +kernel
theorem dL_get_21 : decode cL_get 21 = .ok (.iconst 0, 1) := by decide +kernel
theorem dL_get_22 : decode cL_get 22 = .ok (.ireturn, 1) := by decide +kernel
theorem dL_copyStyle_0 : decode cL_copyStyle 0 = .ok (.aload_n 3, 1) := by decide +kernel
theorem dL_copyStyle_1 : decode cL_copyStyle 1 = .ok (.iconst 0, 1) := by decide +kernel
theorem dL_copyStyle_2 : decode cL_copyStyle 2 = .ok (.aload_n 0, 1) := by decide +kernel
theorem dL_copyStyle_3 : decode cL_copyStyle 3 = .ok (.iload_n 1, 1) := by decide +kernel
theorem dL_copyStyle_4 : decode cL_copyStyle 4 = .ok (.iload_n 2, 1) := by decide +kernel
theorem dL_copyStyle_5 : decode cL_copyStyle 5 = .ok (.invokevirtual 36, 3) := by decide +kernel
theorem dL_copyStyle_8 : decode cL_copyStyle 8 = .ok (.i2l, 1) := by decide +kernel
theorem dL_copyStyle_9 : decode cL_copyStyle 9 = .ok (.lastore, 1) := by decide +kernel
theorem dL_copyStyle_10 : decode cL_copyStyle 10 = .ok (.goto 7, 3) := by decide +kernel
theorem dL_copyStyle_13 : decode cL_copyStyle 13 = .ok (.astore 4, 2) := by decide +kernel
theorem dL_copyStyle_15 : decode cL_copyStyle 15 = .ok (.iconst 1, 1) := by decide +kernel
theorem dL_copyStyle_16 : decode cL_copyStyle 16 = .ok (.ireturn, 1) := by decide +kernel
theorem dL_copyStyle_17 : decode cL_copyStyle 17 = .ok (.iconst 0, 1) := by decide +kernel
theorem dL_copyStyle_18 : decode cL_copyStyle 18 = .ok (.ireturn, 1) := by decide +kernel
theorem dL_viewport_0 : decode cL_viewport 0 = .ok (.aload_n 0, 1) := by decide +kernel
theorem dL_viewport_1 : decode cL_viewport 1 = .ok (.iload_n 1, 1) := by decide +kernel
theorem dL_viewport_2 : decode cL_viewport 2 = .ok (.iload_n 2, 1) := by decide +kernel
theorem dL_viewport_3 : decode cL_viewport 3 = .ok (.invokevirtual 39, 3) := by decide +kernel
theorem dL_viewport_6 : decode cL_viewport 6 = .ok (.goto 6, 3) := by decide +kernel
theorem dL_viewport_9 : decode cL_viewport 9 = .ok (.astore_n 3, 1) := by decide +kernel
theorem dL_viewport_10 : decode cL_viewport 10 = .ok (.iconst 1, 1) := by decide +kernel
theorem dL_viewport_11 : decode cL_viewport 11 = .ok (.ireturn, 1) := by decide +kernel
theorem dL_viewport_12 : decode cL_viewport 12 = .ok (.iconst 0, 1) := by decide +kernel
theorem dL_viewport_13 : decode cL_viewport 13 = .ok (.ireturn, 1) := by decide +kernel
theorem dL_x_0 : decode cL_x 0 = .ok (.aload_n 2, 1) := by decide +kernel
theorem dL_x_1 : decode cL_x 1 = .ok (.iconst 0, 1) := by decide +kernel
theorem dL_x_2 : decode cL_x 2 = .ok (.aload_n 0, 1) := by decide +kernel
theorem dL_x_3 : decode cL_x 3 = .ok (.iload_n 1, 1) := by decide +kernel
theorem dL_x_4 : decode cL_x 4 = .ok (.invokevirtual 43, 3) := by decide +kernel
theorem dL_x_7 : decode cL_x 7 = .ok (.i2l, 1) := by decide +kernel
theorem dL_x_8 : decode cL_x 8 = .ok (.lastore, 1) := by decide +kernel
theorem dL_x_9 : decode cL_x 9 = .ok (.goto 9, 3) := by decide +kernel
theorem dL_x_12 : decode cL_x 12 = .ok (.astore_n 3, 1) := by decide +kernel
theorem dL_x_13 : decode cL_x 13 = .ok (.iconst 1, 1) := by decide +kernel
theorem dL_x_14 : decode cL_x 14 = .ok (.ireturn, 1) := by decide +kernel
theorem dL_x_15 : decode cL_x 15 = .ok (.astore_n 3, 1) := by decide +kernel
theorem dL_x_16 : decode cL_x 16 = .ok (.iconst 2, 1) := by decide +kernel
theorem dL_x_17 : decode cL_x 17 = .ok (.ireturn, 1) := by decide +kernel
theorem dL_x_18 : decode cL_x 18 = .ok (.iconst 0, 1) := by decide +kernel
theorem dL_x_19 : decode cL_x 19 = .ok (.ireturn, 1) := by decide +kernel
theorem dL_y_0 : decode cL_y 0 = .ok (.aload_n 2, 1) := by decide +kernel
theorem dL_y_1 : decode cL_y 1 = .ok (.iconst 0, 1) := by decide +kernel
theorem dL_y_2 : decode cL_y 2 = .ok (.aload_n 0, 1) := by decide +kernel
theorem dL_y_3 : decode cL_y 3 = .ok (.iload_n 1, 1) := by decide +kernel
theorem dL_y_4 : decode cL_y 4 = .ok (.invokevirtual 46, 3) := by decide +kernel
theorem dL_y_7 : decode cL_y 7 = .ok (.i2l, 1) := by decide +kernel
theorem dL_y_8 : decode cL_y 8 = .ok (.lastore, 1) := by decide +kernel
theorem dL_y_9 : decode cL_y 9 = .ok (.goto 9, 3) := by decide +kernel
theorem dL_y_12 : decode cL_y 12 = .ok (.astore_n 3, 1) := by decide +kernel
theorem dL_y_13 : decode cL_y 13 = .ok (.iconst 1, 1) := by decide +kernel
theorem dL_y_14 : decode cL_y 14 = .ok (.ireturn, 1) := by decide +kernel
theorem dL_y_15 : decode cL_y 15 = .ok (.astore_n 3, 1) := by decide +kernel
theorem dL_y_16 : decode cL_y 16 = .ok (.iconst 2, 1) := by decide +kernel
theorem dL_y_17 : decode cL_y 17 = .ok (.ireturn, 1) := by decide +kernel
theorem dL_y_18 : decode cL_y 18 = .ok (.iconst 0, 1) := by decide +kernel
theorem dL_y_19 : decode cL_y 19 = .ok (.ireturn, 1) := by decide +kernel
theorem dL_width_0 : decode cL_width 0 = .ok (.aload_n 2, 1) := by decide +kernel
theorem dL_width_1 : decode cL_width 1 = .ok (.iconst 0, 1) := by decide +kernel
theorem dL_width_2 : decode cL_width 2 = .ok (.aload_n 0, 1) := by decide +kernel
theorem dL_width_3 : decode cL_width 3 = .ok (.iload_n 1, 1) := by decide +kernel
theorem dL_width_4 : decode cL_width 4 = .ok (.invokevirtual 49, 3) := by decide +kernel
theorem dL_width_7 : decode cL_width 7 = .ok (.i2l, 1) := by decide +kernel
theorem dL_width_8 : decode cL_width 8 = .ok (.lastore, 1) := by decide +kernel
theorem dL_width_9 : decode cL_width 9 = .ok (.goto 9, 3) := by decide +kernel
theorem dL_width_12 : decode cL_width 12 = .ok (.astore_n 3, 1) := by decide +kernel
theorem dL_width_13 : decode cL_width 13 = .ok (.iconst 1, 1) := by decide +kernel
theorem dL_width_14 : decode cL_width 14 = .ok (.ireturn, 1) := by decide +kernel
theorem dL_width_15 : decode cL_width 15 = .ok (.astore_n 3, 1) := by decide +kernel
theorem dL_width_16 : decode cL_width 16 = .ok (.iconst 2, 1) := by decide +kernel
theorem dL_width_17 : decode cL_width 17 = .ok (.ireturn, 1) := by decide +kernel
theorem dL_width_18 : decode cL_width 18 = .ok (.iconst 0, 1) := by decide +kernel
theorem dL_width_19 : decode cL_width 19 = .ok (.ireturn, 1) := by decide +kernel
theorem dL_height_0 : decode cL_height 0 = .ok (.aload_n 2, 1) := by decide +kernel
theorem dL_height_1 : decode cL_height 1 = .ok (.iconst 0, 1) := by decide +kernel
theorem dL_height_2 : decode cL_height 2 = .ok (.aload_n 0, 1) := by decide +kernel
theorem dL_height_3 : decode cL_height 3 = .ok (.iload_n 1, 1) := by decide +kernel
theorem dL_height_4 : decode cL_height 4 = .ok (.invokevirtual 52, 3) := by decide +kernel
theorem dL_height_7 : decode cL_height 7 = .ok (.i2l, 1) := by decide +kernel
theorem dL_height_8 : decode cL_height 8 = .ok (.lastore, 1) := by decide +kernel
theorem dL_height_9 : decode cL_height 9 = .ok (.goto 9, 3) := by decide +kernel
theorem dL_height_12 : decode cL_height 12 = .ok (.astore_n 3, 1) := by decide +kernel
theorem dL_height_13 : decode cL_height 13 = .ok (.iconst 1, 1) := by decide +kernel
theorem dL_height_14 : decode cL_height 14 = .ok (.ireturn, 1) := by decide +kernel
theorem dL_height_15 : decode cL_height 15 = .ok (.astore_n 3, 1) := by decide +kernel
theorem dL_height_16 : decode cL_height 16 = .ok (.iconst 2, 1) := by decide +kernel
theorem dL_height_17 : decode cL_height 17 = .ok (.ireturn, 1) := by decide +kernel
theorem dL_height_18 : decode cL_height 18 = .ok (.iconst 0, 1) := by decide +kernel
theorem dL_height_19 : decode cL_height 19 = .ok (.ireturn, 1) := by decide +kernel
theorem dL_naturalWidth_0 : decode cL_naturalWidth 0 = .ok (.aload_n 2, 1) := by decide +kernel
theorem dL_naturalWidth_1 : decode cL_naturalWidth 1 = .ok (.iconst 0, 1) := by decide +kernel
theorem dL_naturalWidth_2 : decode cL_naturalWidth 2 = .ok (.aload_n 0, 1) := by decide +kernel
theorem dL_naturalWidth_3 : decode cL_naturalWidth 3 = .ok (.iload_n 1, 1) := by decide +kernel
theorem dL_naturalWidth_4 : decode cL_naturalWidth 4 = .ok (.invokevirtual 55, 3) := by decide +kernel
theorem dL_naturalWidth_7 : decode cL_naturalWidth 7 = .ok (.i2l, 1) := by decide +kernel
theorem dL_naturalWidth_8 : decode cL_naturalWidth 8 = .ok (.lastore, 1) := by decide +kernel
theorem dL_naturalWidth_9 : decode cL_naturalWidth 9 = .ok (.goto 9, 3) := by decide +kernel
theorem dL_naturalWidth_12 : decode cL_naturalWidth 12 = .ok (.astore_n 3, 1) := by decide +kernel
theorem dL_naturalWidth_13 : decode cL_naturalWidth 13 = .ok (.iconst 1, 1) := by decide +kernel
theorem dL_naturalWidth_14 : decode cL_naturalWidth 14 = .ok (.ireturn, 1) := by decide +kernel
theorem dL_naturalWidth_15 : decode cL_naturalWidth 15 = .ok (.astore_n 3, 1) := by decide +kernel
theorem dL_naturalWidth_16 : decode cL_naturalWidth 16 = .ok (.iconst 2, 1) := by decide +kernel
theorem dL_naturalWidth_17 : decode cL_naturalWidth 17 = .ok (.ireturn, 1) := by decide +kernel
theorem dL_naturalWidth_18 : decode cL_naturalWidth 18 = .ok (.iconst 0, 1) := by decide +kernel
theorem dL_naturalWidth_19 : decode cL_naturalWidth 19 = .ok (.ireturn, 1) := by decide +kernel
theorem dL_naturalHeight_0 : decode cL_naturalHeight 0 = .ok (.aload_n 2, 1) := by decide +kernel
theorem dL_naturalHeight_1 : decode cL_naturalHeight 1 = .ok (.iconst 0, 1) := by decide +kernel
theorem dL_naturalHeight_2 : decode cL_naturalHeight 2 = .ok (.aload_n 0, 1) := by decide +kernel
theorem dL_naturalHeight_3 : decode cL_naturalHeight 3 = .ok (.iload_n 1, 1) := by decide +kernel
theorem dL_naturalHeight_4 : decode cL_naturalHeight 4 = .ok (.invokevirtual 58, 3) := by decide +kernel
theorem dL_naturalHeight_7 : decode cL_naturalHeight 7 = .ok (.i2l, 1) := by decide +kernel
theorem dL_naturalHeight_8 : decode cL_naturalHeight 8 = .ok (.lastore, 1) := by decide +kernel
theorem dL_naturalHeight_9 : decode cL_naturalHeight 9 = .ok (.goto 9, 3) := by decide +kernel
theorem dL_naturalHeight_12 : decode cL_naturalHeight 12 = .ok (.astore_n 3, 1) := by decide +kernel
theorem dL_naturalHeight_13 : decode cL_naturalHeight 13 = .ok (.iconst 1, 1) := by decide +kernel
theorem dL_naturalHeight_14 : decode cL_naturalHeight 14 = .ok (.ireturn, 1) := by decide +kernel
theorem dL_naturalHeight_15 : decode cL_naturalHeight 15 = .ok (.astore_n 3, 1) := by decide +kernel
theorem dL_naturalHeight_16 : decode cL_naturalHeight 16 = .ok (.iconst 2, 1) := by decide +kernel
theorem dL_naturalHeight_17 : decode cL_naturalHeight 17 = .ok (.ireturn, 1) := by decide +kernel
theorem dL_naturalHeight_18 : decode cL_naturalHeight 18 = .ok (.iconst 0, 1) := by decide +kernel
theorem dL_naturalHeight_19 : decode cL_naturalHeight 19 = .ok (.ireturn, 1) := by decide +kernel
theorem dL_lines_0 : decode cL_lines 0 = .ok (.aload_n 2, 1) := by decide +kernel
theorem dL_lines_1 : decode cL_lines 1 = .ok (.iconst 0, 1) := by decide +kernel
theorem dL_lines_2 : decode cL_lines 2 = .ok (.aload_n 0, 1) := by decide +kernel
theorem dL_lines_3 : decode cL_lines 3 = .ok (.iload_n 1, 1) := by decide +kernel
theorem dL_lines_4 : decode cL_lines 4 = .ok (.invokevirtual 61, 3) := by decide +kernel
theorem dL_lines_7 : decode cL_lines 7 = .ok (.i2l, 1) := by decide +kernel
theorem dL_lines_8 : decode cL_lines 8 = .ok (.lastore, 1) := by decide +kernel
theorem dL_lines_9 : decode cL_lines 9 = .ok (.goto 9, 3) := by decide +kernel
theorem dL_lines_12 : decode cL_lines 12 = .ok (.astore_n 3, 1) := by decide +kernel
theorem dL_lines_13 : decode cL_lines 13 = .ok (.iconst 1, 1) := by decide +kernel
theorem dL_lines_14 : decode cL_lines 14 = .ok (.ireturn, 1) := by decide +kernel
theorem dL_lines_15 : decode cL_lines 15 = .ok (.astore_n 3, 1) := by decide +kernel
theorem dL_lines_16 : decode cL_lines 16 = .ok (.iconst 2, 1) := by decide +kernel
theorem dL_lines_17 : decode cL_lines 17 = .ok (.ireturn, 1) := by decide +kernel
theorem dL_lines_18 : decode cL_lines 18 = .ok (.iconst 0, 1) := by decide +kernel
theorem dL_lines_19 : decode cL_lines 19 = .ok (.ireturn, 1) := by decide +kernel
theorem dL_lineOf_0 : decode cL_lineOf 0 = .ok (.aload_n 2, 1) := by decide +kernel
theorem dL_lineOf_1 : decode cL_lineOf 1 = .ok (.iconst 0, 1) := by decide +kernel
theorem dL_lineOf_2 : decode cL_lineOf 2 = .ok (.aload_n 0, 1) := by decide +kernel
theorem dL_lineOf_3 : decode cL_lineOf 3 = .ok (.iload_n 1, 1) := by decide +kernel
theorem dL_lineOf_4 : decode cL_lineOf 4 = .ok (.invokevirtual 64, 3) := by decide +kernel
theorem dL_lineOf_7 : decode cL_lineOf 7 = .ok (.i2l, 1) := by decide +kernel
theorem dL_lineOf_8 : decode cL_lineOf 8 = .ok (.lastore, 1) := by decide +kernel
theorem dL_lineOf_9 : decode cL_lineOf 9 = .ok (.goto 9, 3) := by decide +kernel
theorem dL_lineOf_12 : decode cL_lineOf 12 = .ok (.astore_n 3, 1) := by decide +kernel
theorem dL_lineOf_13 : decode cL_lineOf 13 = .ok (.iconst 1, 1) := by decide +kernel
theorem dL_lineOf_14 : decode cL_lineOf 14 = .ok (.ireturn, 1) := by decide +kernel
theorem dL_lineOf_15 : decode cL_lineOf 15 = .ok (.astore_n 3, 1) := by decide +kernel
theorem dL_lineOf_16 : decode cL_lineOf 16 = .ok (.iconst 2, 1) := by decide +kernel
theorem dL_lineOf_17 : decode cL_lineOf 17 = .ok (.ireturn, 1) := by decide +kernel
theorem dL_lineOf_18 : decode cL_lineOf 18 = .ok (.iconst 0, 1) := by decide +kernel
theorem dL_lineOf_19 : decode cL_lineOf 19 = .ok (.ireturn, 1) := by decide +kernel
theorem dL_overflow_0 : decode cL_overflow 0 = .ok (.aload_n 2, 1) := by decide +kernel
theorem dL_overflow_1 : decode cL_overflow 1 = .ok (.iconst 0, 1) := by decide +kernel
theorem dL_overflow_2 : decode cL_overflow 2 = .ok (.aload_n 0, 1) := by decide +kernel
theorem dL_overflow_3 : decode cL_overflow 3 = .ok (.iload_n 1, 1) := by decide +kernel
theorem dL_overflow_4 : decode cL_overflow 4 = .ok (.invokevirtual 67, 3) := by decide +kernel
theorem dL_overflow_7 : decode cL_overflow 7 = .ok (.i2l, 1) := by decide +kernel
theorem dL_overflow_8 : decode cL_overflow 8 = .ok (.lastore, 1) := by decide +kernel
theorem dL_overflow_9 : decode cL_overflow 9 = .ok (.goto 9, 3) := by decide +kernel
theorem dL_overflow_12 : decode cL_overflow 12 = .ok (.astore_n 3, 1) := by decide +kernel
theorem dL_overflow_13 : decode cL_overflow 13 = .ok (.iconst 1, 1) := by decide +kernel
theorem dL_overflow_14 : decode cL_overflow 14 = .ok (.ireturn, 1) := by decide +kernel
theorem dL_overflow_15 : decode cL_overflow 15 = .ok (.astore_n 3, 1) := by decide +kernel
theorem dL_overflow_16 : decode cL_overflow 16 = .ok (.iconst 2, 1) := by decide +kernel
theorem dL_overflow_17 : decode cL_overflow 17 = .ok (.ireturn, 1) := by decide +kernel
theorem dL_overflow_18 : decode cL_overflow 18 = .ok (.iconst 0, 1) := by decide +kernel
theorem dL_overflow_19 : decode cL_overflow 19 = .ok (.ireturn, 1) := by decide +kernel
theorem dL_widthFor_0 : decode cL_widthFor 0 = .ok (.aload_n 3, 1) := by decide +kernel
theorem dL_widthFor_1 : decode cL_widthFor 1 = .ok (.iconst 0, 1) := by decide +kernel
theorem dL_widthFor_2 : decode cL_widthFor 2 = .ok (.aload_n 0, 1) := by decide +kernel
theorem dL_widthFor_3 : decode cL_widthFor 3 = .ok (.iload_n 1, 1) := by decide +kernel
theorem dL_widthFor_4 : decode cL_widthFor 4 = .ok (.iload_n 2, 1) := by decide +kernel
theorem dL_widthFor_5 : decode cL_widthFor 5 = .ok (.invokevirtual 70, 3) := by decide +kernel
theorem dL_widthFor_8 : decode cL_widthFor 8 = .ok (.i2l, 1) := by decide +kernel
theorem dL_widthFor_9 : decode cL_widthFor 9 = .ok (.lastore, 1) := by decide +kernel
theorem dL_widthFor_10 : decode cL_widthFor 10 = .ok (.goto 15, 3) := by decide +kernel
theorem dL_widthFor_13 : decode cL_widthFor 13 = .ok (.astore 4, 2) := by decide +kernel
theorem dL_widthFor_15 : decode cL_widthFor 15 = .ok (.iconst 1, 1) := by decide +kernel
theorem dL_widthFor_16 : decode cL_widthFor 16 = .ok (.ireturn, 1) := by decide +kernel
theorem dL_widthFor_17 : decode cL_widthFor 17 = .ok (.astore 4, 2) := by decide +kernel
theorem dL_widthFor_19 : decode cL_widthFor 19 = .ok (.iconst 2, 1) := by decide +kernel
theorem dL_widthFor_20 : decode cL_widthFor 20 = .ok (.ireturn, 1) := by decide +kernel
theorem dL_widthFor_21 : decode cL_widthFor 21 = .ok (.astore 4, 2) := by decide +kernel
theorem dL_widthFor_23 : decode cL_widthFor 23 = .ok (.iconst 3, 1) := by decide +kernel
theorem dL_widthFor_24 : decode cL_widthFor 24 = .ok (.ireturn, 1) := by decide +kernel
theorem dL_widthFor_25 : decode cL_widthFor 25 = .ok (.iconst 0, 1) := by decide +kernel
theorem dL_widthFor_26 : decode cL_widthFor 26 = .ok (.ireturn, 1) := by decide +kernel
theorem dL_save_0 : decode cL_save 0 = .ok (.aload_n 0, 1) := by decide +kernel
theorem dL_save_1 : decode cL_save 1 = .ok (.iload_n 1, 1) := by decide +kernel
theorem dL_save_2 : decode cL_save 2 = .ok (.invokevirtual 73, 3) := by decide +kernel
theorem dL_save_5 : decode cL_save 5 = .ok (.goto 6, 3) := by decide +kernel
theorem dL_save_8 : decode cL_save 8 = .ok (.astore_n 2, 1) := by decide +kernel
theorem dL_save_9 : decode cL_save 9 = .ok (.iconst 1, 1) := by decide +kernel
theorem dL_save_10 : decode cL_save 10 = .ok (.ireturn, 1) := by decide +kernel
theorem dL_save_11 : decode cL_save 11 = .ok (.iconst 0, 1) := by decide +kernel
theorem dL_save_12 : decode cL_save 12 = .ok (.ireturn, 1) := by decide +kernel
theorem dL_restore_0 : decode cL_restore 0 = .ok (.aload_n 0, 1) := by decide +kernel
theorem dL_restore_1 : decode cL_restore 1 = .ok (.iload_n 1, 1) := by decide +kernel
theorem dL_restore_2 : decode cL_restore 2 = .ok (.invokevirtual 77, 3) := by decide +kernel
theorem dL_restore_5 : decode cL_restore 5 = .ok (.goto 9, 3) := by decide +kernel
theorem dL_restore_8 : decode cL_restore 8 = .ok (.astore_n 2, 1) := by decide +kernel
theorem dL_restore_9 : decode cL_restore 9 = .ok (.iconst 1, 1) := by decide +kernel
theorem dL_restore_10 : decode cL_restore 10 = .ok (.ireturn, 1) := by decide +kernel
theorem dL_restore_11 : decode cL_restore 11 = .ok (.astore_n 2, 1) := by decide +kernel
theorem dL_restore_12 : decode cL_restore 12 = .ok (.iconst 2, 1) := by decide +kernel
theorem dL_restore_13 : decode cL_restore 13 = .ok (.ireturn, 1) := by decide +kernel
theorem dL_restore_14 : decode cL_restore 14 = .ok (.iconst 0, 1) := by decide +kernel
theorem dL_restore_15 : decode cL_restore 15 = .ok (.ireturn, 1) := by decide +kernel
theorem dL_law_0 : decode cL_law 0 = .ok (.new 8, 3) := by decide +kernel
theorem dL_law_3 : decode cL_law 3 = .ok (.dup, 1) := by decide +kernel
theorem dL_law_4 : decode cL_law 4 = .ok (.invokespecial 80, 3) := by decide +kernel
theorem dL_law_7 : decode cL_law 7 = .ok (.astore_n 1, 1) := by decide +kernel
theorem dL_law_8 : decode cL_law 8 = .ok (.new 81, 3) := by decide +kernel
theorem dL_law_11 : decode cL_law 11 = .ok (.dup, 1) := by decide +kernel
theorem dL_law_12 : decode cL_law 12 = .ok (.invokespecial 83, 3) := by decide +kernel
theorem dL_law_15 : decode cL_law 15 = .ok (.astore_n 2, 1) := by decide +kernel
theorem dL_law_16 : decode cL_law 16 = .ok (.iconst 1, 1) := by decide +kernel
theorem dL_law_17 : decode cL_law 17 = .ok (.newarray .long, 2) := by decide +kernel
theorem dL_law_19 : decode cL_law 19 = .ok (.astore_n 3, 1) := by decide +kernel
theorem dL_law_20 : decode cL_law 20 = .ok (.iconst 0, 1) := by decide +kernel
theorem dL_law_21 : decode cL_law 21 = .ok (.istore 4, 2) := by decide +kernel
theorem dL_law_23 : decode cL_law 23 = .ok (.iload 4, 2) := by decide +kernel
theorem dL_law_25 : decode cL_law 25 = .ok (.aload_n 0, 1) := by decide +kernel
theorem dL_law_26 : decode cL_law 26 = .ok (.arraylength, 1) := by decide +kernel
theorem dL_law_27 : decode cL_law 27 = .ok (.iconst 4, 1) := by decide +kernel
theorem dL_law_28 : decode cL_law 28 = .ok (.isub, 1) := by decide +kernel
theorem dL_law_29 : decode cL_law 29 = .ok (.if_icmp .gt 1311, 3) := by decide +kernel
theorem dL_law_32 : decode cL_law 32 = .ok (.aload_n 0, 1) := by decide +kernel
theorem dL_law_33 : decode cL_law 33 = .ok (.iload 4, 2) := by decide +kernel
theorem dL_law_35 : decode cL_law 35 = .ok (.iaload, 1) := by decide +kernel
theorem dL_law_36 : decode cL_law 36 = .ok (.bipush 31, 2) := by decide +kernel
theorem dL_law_38 : decode cL_law 38 = .ok (.iand, 1) := by decide +kernel
theorem dL_law_39 : decode cL_law 39 = .ok (.tableswitch 1295 0 21 #[101, 157, 213, 226, 282, 350, 430, 498, 566, 614, 670, 726, 782, 838, 894, 950, 1006, 1062, 1118, 1155, 1223, 1259], 101) := by decide +kernel
theorem dL_law_140 : decode cL_law 140 = .ok (.aload_n 1, 1) := by decide +kernel
theorem dL_law_141 : decode cL_law 141 = .ok (.aload_n 0, 1) := by decide +kernel
theorem dL_law_142 : decode cL_law 142 = .ok (.iload 4, 2) := by decide +kernel
theorem dL_law_144 : decode cL_law 144 = .ok (.iconst 1, 1) := by decide +kernel
theorem dL_law_145 : decode cL_law 145 = .ok (.iadd, 1) := by decide +kernel
theorem dL_law_146 : decode cL_law 146 = .ok (.iaload, 1) := by decide +kernel
theorem dL_law_147 : decode cL_law 147 = .ok (.aload_n 3, 1) := by decide +kernel
theorem dL_law_148 : decode cL_law 148 = .ok (.invokestatic 84, 3) := by decide +kernel
theorem dL_law_151 : decode cL_law 151 = .ok (.istore 5, 2) := by decide +kernel
theorem dL_law_153 : decode cL_law 153 = .ok (.aload_n 2, 1) := by decide +kernel
theorem dL_law_154 : decode cL_law 154 = .ok (.aload_n 0, 1) := by decide +kernel
theorem dL_law_155 : decode cL_law 155 = .ok (.iload 4, 2) := by decide +kernel
theorem dL_law_157 : decode cL_law 157 = .ok (.iconst 1, 1) := by decide +kernel
theorem dL_law_158 : decode cL_law 158 = .ok (.iadd, 1) := by decide +kernel
theorem dL_law_159 : decode cL_law 159 = .ok (.iaload, 1) := by decide +kernel
theorem dL_law_160 : decode cL_law 160 = .ok (.invokevirtual 89, 3) := by decide +kernel
theorem dL_law_163 : decode cL_law 163 = .ok (.istore 6, 2) := by decide +kernel
theorem dL_law_165 : decode cL_law 165 = .ok (.aload_n 2, 1) := by decide +kernel
theorem dL_law_166 : decode cL_law 166 = .ok (.invokevirtual 90, 3) := by decide +kernel
theorem dL_law_169 : decode cL_law 169 = .ok (.iload 5, 2) := by decide +kernel
theorem dL_law_171 : decode cL_law 171 = .ok (.if_icmp .eq 5, 3) := by decide +kernel
theorem dL_law_174 : decode cL_law 174 = .ok (.iconst 0, 1) := by decide +kernel
theorem dL_law_175 : decode cL_law 175 = .ok (.ireturn, 1) := by decide +kernel
theorem dL_law_176 : decode cL_law 176 = .ok (.iload 5, 2) := by decide +kernel
theorem dL_law_178 : decode cL_law 178 = .ok (.ifCond .ne 15, 3) := by decide +kernel
theorem dL_law_181 : decode cL_law 181 = .ok (.aload_n 3, 1) := by decide +kernel
theorem dL_law_182 : decode cL_law 182 = .ok (.iconst 0, 1) := by decide +kernel
theorem dL_law_183 : decode cL_law 183 = .ok (.laload, 1) := by decide +kernel
theorem dL_law_184 : decode cL_law 184 = .ok (.iload 6, 2) := by decide +kernel
theorem dL_law_186 : decode cL_law 186 = .ok (.i2l, 1) := by decide +kernel
theorem dL_law_187 : decode cL_law 187 = .ok (.lcmp, 1) := by decide +kernel
theorem dL_law_188 : decode cL_law 188 = .ok (.ifCond .eq 5, 3) := by decide +kernel
theorem dL_law_191 : decode cL_law 191 = .ok (.iconst 0, 1) := by decide +kernel
theorem dL_law_192 : decode cL_law 192 = .ok (.ireturn, 1) := by decide +kernel
theorem dL_law_193 : decode cL_law 193 = .ok (.goto 1141, 3) := by decide +kernel
theorem dL_law_196 : decode cL_law 196 = .ok (.aload_n 1, 1) := by decide +kernel
theorem dL_law_197 : decode cL_law 197 = .ok (.aload_n 0, 1) := by decide +kernel
theorem dL_law_198 : decode cL_law 198 = .ok (.iload 4, 2) := by decide +kernel
theorem dL_law_200 : decode cL_law 200 = .ok (.iconst 1, 1) := by decide +kernel
theorem dL_law_201 : decode cL_law 201 = .ok (.iadd, 1) := by decide +kernel
theorem dL_law_202 : decode cL_law 202 = .ok (.iaload, 1) := by decide +kernel
theorem dL_law_203 : decode cL_law 203 = .ok (.aload_n 3, 1) := by decide +kernel
theorem dL_law_204 : decode cL_law 204 = .ok (.invokestatic 94, 3) := by decide +kernel
theorem dL_law_207 : decode cL_law 207 = .ok (.istore 5, 2) := by decide +kernel
theorem dL_law_209 : decode cL_law 209 = .ok (.aload_n 2, 1) := by decide +kernel
theorem dL_law_210 : decode cL_law 210 = .ok (.aload_n 0, 1) := by decide +kernel
theorem dL_law_211 : decode cL_law 211 = .ok (.iload 4, 2) := by decide +kernel
theorem dL_law_213 : decode cL_law 213 = .ok (.iconst 1, 1) := by decide +kernel
theorem dL_law_214 : decode cL_law 214 = .ok (.iadd, 1) := by decide +kernel
theorem dL_law_215 : decode cL_law 215 = .ok (.iaload, 1) := by decide +kernel
theorem dL_law_216 : decode cL_law 216 = .ok (.invokevirtual 96, 3) := by decide +kernel
theorem dL_law_219 : decode cL_law 219 = .ok (.istore 6, 2) := by decide +kernel
theorem dL_law_221 : decode cL_law 221 = .ok (.aload_n 2, 1) := by decide +kernel
theorem dL_law_222 : decode cL_law 222 = .ok (.invokevirtual 90, 3) := by decide +kernel
theorem dL_law_225 : decode cL_law 225 = .ok (.iload 5, 2) := by decide +kernel
theorem dL_law_227 : decode cL_law 227 = .ok (.if_icmp .eq 5, 3) := by decide +kernel
theorem dL_law_230 : decode cL_law 230 = .ok (.iconst 0, 1) := by decide +kernel
theorem dL_law_231 : decode cL_law 231 = .ok (.ireturn, 1) := by decide +kernel
theorem dL_law_232 : decode cL_law 232 = .ok (.iload 5, 2) := by decide +kernel
theorem dL_law_234 : decode cL_law 234 = .ok (.ifCond .ne 15, 3) := by decide +kernel
theorem dL_law_237 : decode cL_law 237 = .ok (.aload_n 3, 1) := by decide +kernel
theorem dL_law_238 : decode cL_law 238 = .ok (.iconst 0, 1) := by decide +kernel
theorem dL_law_239 : decode cL_law 239 = .ok (.laload, 1) := by decide +kernel
theorem dL_law_240 : decode cL_law 240 = .ok (.iload 6, 2) := by decide +kernel
theorem dL_law_242 : decode cL_law 242 = .ok (.i2l, 1) := by decide +kernel
theorem dL_law_243 : decode cL_law 243 = .ok (.lcmp, 1) := by decide +kernel
theorem dL_law_244 : decode cL_law 244 = .ok (.ifCond .eq 5, 3) := by decide +kernel
theorem dL_law_247 : decode cL_law 247 = .ok (.iconst 0, 1) := by decide +kernel
theorem dL_law_248 : decode cL_law 248 = .ok (.ireturn, 1) := by decide +kernel
theorem dL_law_249 : decode cL_law 249 = .ok (.goto 1085, 3) := by decide +kernel
theorem dL_law_252 : decode cL_law 252 = .ok (.aload_n 1, 1) := by decide +kernel
theorem dL_law_253 : decode cL_law 253 = .ok (.invokevirtual 97, 3) := by decide +kernel
theorem dL_law_256 : decode cL_law 256 = .ok (.aload_n 2, 1) := by decide +kernel
theorem dL_law_257 : decode cL_law 257 = .ok (.invokevirtual 100, 3) := by decide +kernel
theorem dL_law_260 : decode cL_law 260 = .ok (.if_icmp .eq 1074, 3) := by decide +kernel
theorem dL_law_263 : decode cL_law 263 = .ok (.iconst 0, 1) := by decide +kernel
theorem dL_law_264 : decode cL_law 264 = .ok (.ireturn, 1) := by decide +kernel
theorem dL_law_265 : decode cL_law 265 = .ok (.aload_n 1, 1) := by decide +kernel
theorem dL_law_266 : decode cL_law 266 = .ok (.aload_n 0, 1) := by decide +kernel
theorem dL_law_267 : decode cL_law 267 = .ok (.iload 4, 2) := by decide +kernel
theorem dL_law_269 : decode cL_law 269 = .ok (.iconst 1, 1) := by decide +kernel
theorem dL_law_270 : decode cL_law 270 = .ok (.iadd, 1) := by decide +kernel
theorem dL_law_271 : decode cL_law 271 = .ok (.iaload, 1) := by decide +kernel
theorem dL_law_272 : decode cL_law 272 = .ok (.aload_n 3, 1) := by decide +kernel
theorem dL_law_273 : decode cL_law 273 = .ok (.invokestatic 101, 3) := by decide +kernel
theorem dL_law_276 : decode cL_law 276 = .ok (.istore 5, 2) := by decide +kernel
theorem dL_law_278 : decode cL_law 278 = .ok (.aload_n 2, 1) := by decide +kernel
theorem dL_law_279 : decode cL_law 279 = .ok (.aload_n 0, 1) := by decide +kernel
theorem dL_law_280 : decode cL_law 280 = .ok (.iload 4, 2) := by decide +kernel
theorem dL_law_282 : decode cL_law 282 = .ok (.iconst 1, 1) := by decide +kernel
theorem dL_law_283 : decode cL_law 283 = .ok (.iadd, 1) := by decide +kernel
theorem dL_law_284 : decode cL_law 284 = .ok (.iaload, 1) := by decide +kernel
theorem dL_law_285 : decode cL_law 285 = .ok (.invokevirtual 103, 3) := by decide +kernel
theorem dL_law_288 : decode cL_law 288 = .ok (.istore 6, 2) := by decide +kernel
theorem dL_law_290 : decode cL_law 290 = .ok (.aload_n 2, 1) := by decide +kernel
theorem dL_law_291 : decode cL_law 291 = .ok (.invokevirtual 90, 3) := by decide +kernel
theorem dL_law_294 : decode cL_law 294 = .ok (.iload 5, 2) := by decide +kernel
theorem dL_law_296 : decode cL_law 296 = .ok (.if_icmp .eq 5, 3) := by decide +kernel
theorem dL_law_299 : decode cL_law 299 = .ok (.iconst 0, 1) := by decide +kernel
theorem dL_law_300 : decode cL_law 300 = .ok (.ireturn, 1) := by decide +kernel
theorem dL_law_301 : decode cL_law 301 = .ok (.iload 5, 2) := by decide +kernel
theorem dL_law_303 : decode cL_law 303 = .ok (.ifCond .ne 15, 3) := by decide +kernel
theorem dL_law_306 : decode cL_law 306 = .ok (.aload_n 3, 1) := by decide +kernel
theorem dL_law_307 : decode cL_law 307 = .ok (.iconst 0, 1) := by decide +kernel
theorem dL_law_308 : decode cL_law 308 = .ok (.laload, 1) := by decide +kernel
theorem dL_law_309 : decode cL_law 309 = .ok (.iload 6, 2) := by decide +kernel
theorem dL_law_311 : decode cL_law 311 = .ok (.i2l, 1) := by decide +kernel
theorem dL_law_312 : decode cL_law 312 = .ok (.lcmp, 1) := by decide +kernel
theorem dL_law_313 : decode cL_law 313 = .ok (.ifCond .eq 5, 3) := by decide +kernel
theorem dL_law_316 : decode cL_law 316 = .ok (.iconst 0, 1) := by decide +kernel
theorem dL_law_317 : decode cL_law 317 = .ok (.ireturn, 1) := by decide +kernel
theorem dL_law_318 : decode cL_law 318 = .ok (.goto 1016, 3) := by decide +kernel
theorem dL_law_321 : decode cL_law 321 = .ok (.aload_n 1, 1) := by decide +kernel
theorem dL_law_322 : decode cL_law 322 = .ok (.aload_n 0, 1) := by decide +kernel
theorem dL_law_323 : decode cL_law 323 = .ok (.iload 4, 2) := by decide +kernel
theorem dL_law_325 : decode cL_law 325 = .ok (.iconst 1, 1) := by decide +kernel
theorem dL_law_326 : decode cL_law 326 = .ok (.iadd, 1) := by decide +kernel
theorem dL_law_327 : decode cL_law 327 = .ok (.iaload, 1) := by decide +kernel
theorem dL_law_328 : decode cL_law 328 = .ok (.aload_n 0, 1) := by decide +kernel
theorem dL_law_329 : decode cL_law 329 = .ok (.iload 4, 2) := by decide +kernel
theorem dL_law_331 : decode cL_law 331 = .ok (.iconst 2, 1) := by decide +kernel
theorem dL_law_332 : decode cL_law 332 = .ok (.iadd, 1) := by decide +kernel
theorem dL_law_333 : decode cL_law 333 = .ok (.iaload, 1) := by decide +kernel
theorem dL_law_334 : decode cL_law 334 = .ok (.aload_n 3, 1) := by decide +kernel
theorem dL_law_335 : decode cL_law 335 = .ok (.invokestatic 104, 3) := by decide +kernel
theorem dL_law_338 : decode cL_law 338 = .ok (.istore 5, 2) := by decide +kernel
theorem dL_law_340 : decode cL_law 340 = .ok (.aload_n 2, 1) := by decide +kernel
theorem dL_law_341 : decode cL_law 341 = .ok (.aload_n 0, 1) := by decide +kernel
theorem dL_law_342 : decode cL_law 342 = .ok (.iload 4, 2) := by decide +kernel
theorem dL_law_344 : decode cL_law 344 = .ok (.iconst 1, 1) := by decide +kernel
theorem dL_law_345 : decode cL_law 345 = .ok (.iadd, 1) := by decide +kernel
theorem dL_law_346 : decode cL_law 346 = .ok (.iaload, 1) := by decide +kernel
theorem dL_law_347 : decode cL_law 347 = .ok (.aload_n 0, 1) := by decide +kernel
theorem dL_law_348 : decode cL_law 348 = .ok (.iload 4, 2) := by decide +kernel
theorem dL_law_350 : decode cL_law 350 = .ok (.iconst 2, 1) := by decide +kernel
theorem dL_law_351 : decode cL_law 351 = .ok (.iadd, 1) := by decide +kernel
theorem dL_law_352 : decode cL_law 352 = .ok (.iaload, 1) := by decide +kernel
theorem dL_law_353 : decode cL_law 353 = .ok (.invokevirtual 107, 3) := by decide +kernel
theorem dL_law_356 : decode cL_law 356 = .ok (.istore 6, 2) := by decide +kernel
theorem dL_law_358 : decode cL_law 358 = .ok (.aload_n 2, 1) := by decide +kernel
theorem dL_law_359 : decode cL_law 359 = .ok (.invokevirtual 90, 3) := by decide +kernel
theorem dL_law_362 : decode cL_law 362 = .ok (.iload 5, 2) := by decide +kernel
theorem dL_law_364 : decode cL_law 364 = .ok (.if_icmp .eq 5, 3) := by decide +kernel
theorem dL_law_367 : decode cL_law 367 = .ok (.iconst 0, 1) := by decide +kernel
theorem dL_law_368 : decode cL_law 368 = .ok (.ireturn, 1) := by decide +kernel
theorem dL_law_369 : decode cL_law 369 = .ok (.iload 5, 2) := by decide +kernel
theorem dL_law_371 : decode cL_law 371 = .ok (.ifCond .ne 15, 3) := by decide +kernel
theorem dL_law_374 : decode cL_law 374 = .ok (.aload_n 3, 1) := by decide +kernel
theorem dL_law_375 : decode cL_law 375 = .ok (.iconst 0, 1) := by decide +kernel
theorem dL_law_376 : decode cL_law 376 = .ok (.laload, 1) := by decide +kernel
theorem dL_law_377 : decode cL_law 377 = .ok (.iload 6, 2) := by decide +kernel
theorem dL_law_379 : decode cL_law 379 = .ok (.i2l, 1) := by decide +kernel
theorem dL_law_380 : decode cL_law 380 = .ok (.lcmp, 1) := by decide +kernel
theorem dL_law_381 : decode cL_law 381 = .ok (.ifCond .eq 5, 3) := by decide +kernel
theorem dL_law_384 : decode cL_law 384 = .ok (.iconst 0, 1) := by decide +kernel
theorem dL_law_385 : decode cL_law 385 = .ok (.ireturn, 1) := by decide +kernel
theorem dL_law_386 : decode cL_law 386 = .ok (.goto 948, 3) := by decide +kernel
theorem dL_law_389 : decode cL_law 389 = .ok (.aload_n 1, 1) := by decide +kernel
theorem dL_law_390 : decode cL_law 390 = .ok (.aload_n 0, 1) := by decide +kernel
theorem dL_law_391 : decode cL_law 391 = .ok (.iload 4, 2) := by decide +kernel
theorem dL_law_393 : decode cL_law 393 = .ok (.iconst 1, 1) := by decide +kernel
theorem dL_law_394 : decode cL_law 394 = .ok (.iadd, 1) := by decide +kernel
theorem dL_law_395 : decode cL_law 395 = .ok (.iaload, 1) := by decide +kernel
theorem dL_law_396 : decode cL_law 396 = .ok (.aload_n 0, 1) := by decide +kernel
theorem dL_law_397 : decode cL_law 397 = .ok (.iload 4, 2) := by decide +kernel
theorem dL_law_399 : decode cL_law 399 = .ok (.iconst 2, 1) := by decide +kernel
theorem dL_law_400 : decode cL_law 400 = .ok (.iadd, 1) := by decide +kernel
theorem dL_law_401 : decode cL_law 401 = .ok (.iaload, 1) := by decide +kernel
theorem dL_law_402 : decode cL_law 402 = .ok (.aload_n 0, 1) := by decide +kernel
theorem dL_law_403 : decode cL_law 403 = .ok (.iload 4, 2) := by decide +kernel
theorem dL_law_405 : decode cL_law 405 = .ok (.iconst 3, 1) := by decide +kernel
theorem dL_law_406 : decode cL_law 406 = .ok (.iadd, 1) := by decide +kernel
theorem dL_law_407 : decode cL_law 407 = .ok (.iaload, 1) := by decide +kernel
theorem dL_law_408 : decode cL_law 408 = .ok (.aload_n 3, 1) := by decide +kernel
theorem dL_law_409 : decode cL_law 409 = .ok (.invokestatic 108, 3) := by decide +kernel
theorem dL_law_412 : decode cL_law 412 = .ok (.istore 5, 2) := by decide +kernel
theorem dL_law_414 : decode cL_law 414 = .ok (.aload_n 2, 1) := by decide +kernel
theorem dL_law_415 : decode cL_law 415 = .ok (.aload_n 0, 1) := by decide +kernel
theorem dL_law_416 : decode cL_law 416 = .ok (.iload 4, 2) := by decide +kernel
theorem dL_law_418 : decode cL_law 418 = .ok (.iconst 1, 1) := by decide +kernel
theorem dL_law_419 : decode cL_law 419 = .ok (.iadd, 1) := by decide +kernel
theorem dL_law_420 : decode cL_law 420 = .ok (.iaload, 1) := by decide +kernel
theorem dL_law_421 : decode cL_law 421 = .ok (.aload_n 0, 1) := by decide +kernel
theorem dL_law_422 : decode cL_law 422 = .ok (.iload 4, 2) := by decide +kernel
theorem dL_law_424 : decode cL_law 424 = .ok (.iconst 2, 1) := by decide +kernel
theorem dL_law_425 : decode cL_law 425 = .ok (.iadd, 1) := by decide +kernel
theorem dL_law_426 : decode cL_law 426 = .ok (.iaload, 1) := by decide +kernel
theorem dL_law_427 : decode cL_law 427 = .ok (.aload_n 0, 1) := by decide +kernel
theorem dL_law_428 : decode cL_law 428 = .ok (.iload 4, 2) := by decide +kernel
theorem dL_law_430 : decode cL_law 430 = .ok (.iconst 3, 1) := by decide +kernel
theorem dL_law_431 : decode cL_law 431 = .ok (.iadd, 1) := by decide +kernel
theorem dL_law_432 : decode cL_law 432 = .ok (.iaload, 1) := by decide +kernel
theorem dL_law_433 : decode cL_law 433 = .ok (.invokevirtual 111, 3) := by decide +kernel
theorem dL_law_436 : decode cL_law 436 = .ok (.istore 6, 2) := by decide +kernel
theorem dL_law_438 : decode cL_law 438 = .ok (.aload_n 2, 1) := by decide +kernel
theorem dL_law_439 : decode cL_law 439 = .ok (.invokevirtual 90, 3) := by decide +kernel
theorem dL_law_442 : decode cL_law 442 = .ok (.iload 5, 2) := by decide +kernel
theorem dL_law_444 : decode cL_law 444 = .ok (.if_icmp .eq 5, 3) := by decide +kernel
theorem dL_law_447 : decode cL_law 447 = .ok (.iconst 0, 1) := by decide +kernel
theorem dL_law_448 : decode cL_law 448 = .ok (.ireturn, 1) := by decide +kernel
theorem dL_law_449 : decode cL_law 449 = .ok (.iload 5, 2) := by decide +kernel
theorem dL_law_451 : decode cL_law 451 = .ok (.ifCond .ne 15, 3) := by decide +kernel
theorem dL_law_454 : decode cL_law 454 = .ok (.aload_n 3, 1) := by decide +kernel
theorem dL_law_455 : decode cL_law 455 = .ok (.iconst 0, 1) := by decide +kernel
theorem dL_law_456 : decode cL_law 456 = .ok (.laload, 1) := by decide +kernel
theorem dL_law_457 : decode cL_law 457 = .ok (.iload 6, 2) := by decide +kernel
theorem dL_law_459 : decode cL_law 459 = .ok (.i2l, 1) := by decide +kernel
theorem dL_law_460 : decode cL_law 460 = .ok (.lcmp, 1) := by decide +kernel
theorem dL_law_461 : decode cL_law 461 = .ok (.ifCond .eq 5, 3) := by decide +kernel
theorem dL_law_464 : decode cL_law 464 = .ok (.iconst 0, 1) := by decide +kernel
theorem dL_law_465 : decode cL_law 465 = .ok (.ireturn, 1) := by decide +kernel
theorem dL_law_466 : decode cL_law 466 = .ok (.goto 868, 3) := by decide +kernel
theorem dL_law_469 : decode cL_law 469 = .ok (.aload_n 1, 1) := by decide +kernel
theorem dL_law_470 : decode cL_law 470 = .ok (.aload_n 0, 1) := by decide +kernel
theorem dL_law_471 : decode cL_law 471 = .ok (.iload 4, 2) := by decide +kernel
theorem dL_law_473 : decode cL_law 473 = .ok (.iconst 1, 1) := by decide +kernel
theorem dL_law_474 : decode cL_law 474 = .ok (.iadd, 1) := by decide +kernel
theorem dL_law_475 : decode cL_law 475 = .ok (.iaload, 1) := by decide +kernel
theorem dL_law_476 : decode cL_law 476 = .ok (.aload_n 0, 1) := by decide +kernel
theorem dL_law_477 : decode cL_law 477 = .ok (.iload 4, 2) := by decide +kernel
theorem dL_law_479 : decode cL_law 479 = .ok (.iconst 2, 1) := by decide +kernel
theorem dL_law_480 : decode cL_law 480 = .ok (.iadd, 1) := by decide +kernel
theorem dL_law_481 : decode cL_law 481 = .ok (.iaload, 1) := by decide +kernel
theorem dL_law_482 : decode cL_law 482 = .ok (.aload_n 3, 1) := by decide +kernel
theorem dL_law_483 : decode cL_law 483 = .ok (.invokestatic 112, 3) := by decide +kernel
theorem dL_law_486 : decode cL_law 486 = .ok (.istore 5, 2) := by decide +kernel
theorem dL_law_488 : decode cL_law 488 = .ok (.aload_n 2, 1) := by decide +kernel
theorem dL_law_489 : decode cL_law 489 = .ok (.aload_n 0, 1) := by decide +kernel
theorem dL_law_490 : decode cL_law 490 = .ok (.iload 4, 2) := by decide +kernel
theorem dL_law_492 : decode cL_law 492 = .ok (.iconst 1, 1) := by decide +kernel
theorem dL_law_493 : decode cL_law 493 = .ok (.iadd, 1) := by decide +kernel
theorem dL_law_494 : decode cL_law 494 = .ok (.iaload, 1) := by decide +kernel
theorem dL_law_495 : decode cL_law 495 = .ok (.aload_n 0, 1) := by decide +kernel
theorem dL_law_496 : decode cL_law 496 = .ok (.iload 4, 2) := by decide +kernel
theorem dL_law_498 : decode cL_law 498 = .ok (.iconst 2, 1) := by decide +kernel
theorem dL_law_499 : decode cL_law 499 = .ok (.iadd, 1) := by decide +kernel
theorem dL_law_500 : decode cL_law 500 = .ok (.iaload, 1) := by decide +kernel
theorem dL_law_501 : decode cL_law 501 = .ok (.invokevirtual 114, 3) := by decide +kernel
theorem dL_law_504 : decode cL_law 504 = .ok (.istore 6, 2) := by decide +kernel
theorem dL_law_506 : decode cL_law 506 = .ok (.aload_n 2, 1) := by decide +kernel
theorem dL_law_507 : decode cL_law 507 = .ok (.invokevirtual 90, 3) := by decide +kernel
theorem dL_law_510 : decode cL_law 510 = .ok (.iload 5, 2) := by decide +kernel
theorem dL_law_512 : decode cL_law 512 = .ok (.if_icmp .eq 5, 3) := by decide +kernel
theorem dL_law_515 : decode cL_law 515 = .ok (.iconst 0, 1) := by decide +kernel
theorem dL_law_516 : decode cL_law 516 = .ok (.ireturn, 1) := by decide +kernel
theorem dL_law_517 : decode cL_law 517 = .ok (.iload 5, 2) := by decide +kernel
theorem dL_law_519 : decode cL_law 519 = .ok (.ifCond .ne 15, 3) := by decide +kernel
theorem dL_law_522 : decode cL_law 522 = .ok (.aload_n 3, 1) := by decide +kernel
theorem dL_law_523 : decode cL_law 523 = .ok (.iconst 0, 1) := by decide +kernel
theorem dL_law_524 : decode cL_law 524 = .ok (.laload, 1) := by decide +kernel
theorem dL_law_525 : decode cL_law 525 = .ok (.iload 6, 2) := by decide +kernel
theorem dL_law_527 : decode cL_law 527 = .ok (.i2l, 1) := by decide +kernel
theorem dL_law_528 : decode cL_law 528 = .ok (.lcmp, 1) := by decide +kernel
theorem dL_law_529 : decode cL_law 529 = .ok (.ifCond .eq 5, 3) := by decide +kernel
theorem dL_law_532 : decode cL_law 532 = .ok (.iconst 0, 1) := by decide +kernel
theorem dL_law_533 : decode cL_law 533 = .ok (.ireturn, 1) := by decide +kernel
theorem dL_law_534 : decode cL_law 534 = .ok (.goto 800, 3) := by decide +kernel
theorem dL_law_537 : decode cL_law 537 = .ok (.aload_n 1, 1) := by decide +kernel
theorem dL_law_538 : decode cL_law 538 = .ok (.aload_n 0, 1) := by decide +kernel
theorem dL_law_539 : decode cL_law 539 = .ok (.iload 4, 2) := by decide +kernel
theorem dL_law_541 : decode cL_law 541 = .ok (.iconst 1, 1) := by decide +kernel
theorem dL_law_542 : decode cL_law 542 = .ok (.iadd, 1) := by decide +kernel
theorem dL_law_543 : decode cL_law 543 = .ok (.iaload, 1) := by decide +kernel
theorem dL_law_544 : decode cL_law 544 = .ok (.aload_n 0, 1) := by decide +kernel
theorem dL_law_545 : decode cL_law 545 = .ok (.iload 4, 2) := by decide +kernel
theorem dL_law_547 : decode cL_law 547 = .ok (.iconst 2, 1) := by decide +kernel
theorem dL_law_548 : decode cL_law 548 = .ok (.iadd, 1) := by decide +kernel
theorem dL_law_549 : decode cL_law 549 = .ok (.iaload, 1) := by decide +kernel
theorem dL_law_550 : decode cL_law 550 = .ok (.aload_n 3, 1) := by decide +kernel
theorem dL_law_551 : decode cL_law 551 = .ok (.invokestatic 115, 3) := by decide +kernel
theorem dL_law_554 : decode cL_law 554 = .ok (.istore 5, 2) := by decide +kernel
theorem dL_law_556 : decode cL_law 556 = .ok (.aload_n 2, 1) := by decide +kernel
theorem dL_law_557 : decode cL_law 557 = .ok (.aload_n 0, 1) := by decide +kernel
theorem dL_law_558 : decode cL_law 558 = .ok (.iload 4, 2) := by decide +kernel
theorem dL_law_560 : decode cL_law 560 = .ok (.iconst 1, 1) := by decide +kernel
theorem dL_law_561 : decode cL_law 561 = .ok (.iadd, 1) := by decide +kernel
theorem dL_law_562 : decode cL_law 562 = .ok (.iaload, 1) := by decide +kernel
theorem dL_law_563 : decode cL_law 563 = .ok (.aload_n 0, 1) := by decide +kernel
theorem dL_law_564 : decode cL_law 564 = .ok (.iload 4, 2) := by decide +kernel
theorem dL_law_566 : decode cL_law 566 = .ok (.iconst 2, 1) := by decide +kernel
theorem dL_law_567 : decode cL_law 567 = .ok (.iadd, 1) := by decide +kernel
theorem dL_law_568 : decode cL_law 568 = .ok (.iaload, 1) := by decide +kernel
theorem dL_law_569 : decode cL_law 569 = .ok (.invokevirtual 117, 3) := by decide +kernel
theorem dL_law_572 : decode cL_law 572 = .ok (.istore 6, 2) := by decide +kernel
theorem dL_law_574 : decode cL_law 574 = .ok (.aload_n 2, 1) := by decide +kernel
theorem dL_law_575 : decode cL_law 575 = .ok (.invokevirtual 90, 3) := by decide +kernel
theorem dL_law_578 : decode cL_law 578 = .ok (.iload 5, 2) := by decide +kernel
theorem dL_law_580 : decode cL_law 580 = .ok (.if_icmp .eq 5, 3) := by decide +kernel
theorem dL_law_583 : decode cL_law 583 = .ok (.iconst 0, 1) := by decide +kernel
theorem dL_law_584 : decode cL_law 584 = .ok (.ireturn, 1) := by decide +kernel
theorem dL_law_585 : decode cL_law 585 = .ok (.iload 5, 2) := by decide +kernel
theorem dL_law_587 : decode cL_law 587 = .ok (.ifCond .ne 15, 3) := by decide +kernel
theorem dL_law_590 : decode cL_law 590 = .ok (.aload_n 3, 1) := by decide +kernel
theorem dL_law_591 : decode cL_law 591 = .ok (.iconst 0, 1) := by decide +kernel
theorem dL_law_592 : decode cL_law 592 = .ok (.laload, 1) := by decide +kernel
theorem dL_law_593 : decode cL_law 593 = .ok (.iload 6, 2) := by decide +kernel
theorem dL_law_595 : decode cL_law 595 = .ok (.i2l, 1) := by decide +kernel
theorem dL_law_596 : decode cL_law 596 = .ok (.lcmp, 1) := by decide +kernel
theorem dL_law_597 : decode cL_law 597 = .ok (.ifCond .eq 5, 3) := by decide +kernel
theorem dL_law_600 : decode cL_law 600 = .ok (.iconst 0, 1) := by decide +kernel
theorem dL_law_601 : decode cL_law 601 = .ok (.ireturn, 1) := by decide +kernel
theorem dL_law_602 : decode cL_law 602 = .ok (.goto 732, 3) := by decide +kernel
theorem dL_law_605 : decode cL_law 605 = .ok (.aload_n 1, 1) := by decide +kernel
theorem dL_law_606 : decode cL_law 606 = .ok (.aload_n 0, 1) := by decide +kernel
theorem dL_law_607 : decode cL_law 607 = .ok (.iload 4, 2) := by decide +kernel
theorem dL_law_609 : decode cL_law 609 = .ok (.iconst 1, 1) := by decide +kernel
theorem dL_law_610 : decode cL_law 610 = .ok (.iadd, 1) := by decide +kernel
theorem dL_law_611 : decode cL_law 611 = .ok (.iaload, 1) := by decide +kernel
theorem dL_law_612 : decode cL_law 612 = .ok (.aload_n 0, 1) := by decide +kernel
theorem dL_law_613 : decode cL_law 613 = .ok (.iload 4, 2) := by decide +kernel
theorem dL_law_615 : decode cL_law 615 = .ok (.iconst 2, 1) := by decide +kernel
theorem dL_law_616 : decode cL_law 616 = .ok (.iadd, 1) := by decide +kernel
theorem dL_law_617 : decode cL_law 617 = .ok (.iaload, 1) := by decide +kernel
theorem dL_law_618 : decode cL_law 618 = .ok (.invokestatic 118, 3) := by decide +kernel
theorem dL_law_621 : decode cL_law 621 = .ok (.istore 5, 2) := by decide +kernel
theorem dL_law_623 : decode cL_law 623 = .ok (.aload_n 2, 1) := by decide +kernel
theorem dL_law_624 : decode cL_law 624 = .ok (.aload_n 0, 1) := by decide +kernel
theorem dL_law_625 : decode cL_law 625 = .ok (.iload 4, 2) := by decide +kernel
theorem dL_law_627 : decode cL_law 627 = .ok (.iconst 1, 1) := by decide +kernel
theorem dL_law_628 : decode cL_law 628 = .ok (.iadd, 1) := by decide +kernel
theorem dL_law_629 : decode cL_law 629 = .ok (.iaload, 1) := by decide +kernel
theorem dL_law_630 : decode cL_law 630 = .ok (.aload_n 0, 1) := by decide +kernel
theorem dL_law_631 : decode cL_law 631 = .ok (.iload 4, 2) := by decide +kernel
theorem dL_law_633 : decode cL_law 633 = .ok (.iconst 2, 1) := by decide +kernel
theorem dL_law_634 : decode cL_law 634 = .ok (.iadd, 1) := by decide +kernel
theorem dL_law_635 : decode cL_law 635 = .ok (.iaload, 1) := by decide +kernel
theorem dL_law_636 : decode cL_law 636 = .ok (.invokevirtual 121, 3) := by decide +kernel
theorem dL_law_639 : decode cL_law 639 = .ok (.aload_n 2, 1) := by decide +kernel
theorem dL_law_640 : decode cL_law 640 = .ok (.invokevirtual 90, 3) := by decide +kernel
theorem dL_law_643 : decode cL_law 643 = .ok (.iload 5, 2) := by decide +kernel
theorem dL_law_645 : decode cL_law 645 = .ok (.if_icmp .eq 5, 3) := by decide +kernel
theorem dL_law_648 : decode cL_law 648 = .ok (.iconst 0, 1) := by decide +kernel
theorem dL_law_649 : decode cL_law 649 = .ok (.ireturn, 1) := by decide +kernel
theorem dL_law_650 : decode cL_law 650 = .ok (.goto 684, 3) := by decide +kernel
theorem dL_law_653 : decode cL_law 653 = .ok (.aload_n 1, 1) := by decide +kernel
theorem dL_law_654 : decode cL_law 654 = .ok (.aload_n 0, 1) := by decide +kernel
theorem dL_law_655 : decode cL_law 655 = .ok (.iload 4, 2) := by decide +kernel
theorem dL_law_657 : decode cL_law 657 = .ok (.iconst 1, 1) := by decide +kernel
theorem dL_law_658 : decode cL_law 658 = .ok (.iadd, 1) := by decide +kernel
theorem dL_law_659 : decode cL_law 659 = .ok (.iaload, 1) := by decide +kernel
theorem dL_law_660 : decode cL_law 660 = .ok (.aload_n 3, 1) := by decide +kernel
theorem dL_law_661 : decode cL_law 661 = .ok (.invokestatic 122, 3) := by decide +kernel
theorem dL_law_664 : decode cL_law 664 = .ok (.istore 5, 2) := by decide +kernel
theorem dL_law_666 : decode cL_law 666 = .ok (.aload_n 2, 1) := by decide +kernel
theorem dL_law_667 : decode cL_law 667 = .ok (.aload_n 0, 1) := by decide +kernel
theorem dL_law_668 : decode cL_law 668 = .ok (.iload 4, 2) := by decide +kernel
theorem dL_law_670 : decode cL_law 670 = .ok (.iconst 1, 1) := by decide +kernel
theorem dL_law_671 : decode cL_law 671 = .ok (.iadd, 1) := by decide +kernel
theorem dL_law_672 : decode cL_law 672 = .ok (.iaload, 1) := by decide +kernel
theorem dL_law_673 : decode cL_law 673 = .ok (.invokevirtual 124, 3) := by decide +kernel
theorem dL_law_676 : decode cL_law 676 = .ok (.istore 6, 2) := by decide +kernel
theorem dL_law_678 : decode cL_law 678 = .ok (.aload_n 2, 1) := by decide +kernel
theorem dL_law_679 : decode cL_law 679 = .ok (.invokevirtual 90, 3) := by decide +kernel
theorem dL_law_682 : decode cL_law 682 = .ok (.iload 5, 2) := by decide +kernel
theorem dL_law_684 : decode cL_law 684 = .ok (.if_icmp .eq 5, 3) := by decide +kernel
theorem dL_law_687 : decode cL_law 687 = .ok (.iconst 0, 1) := by decide +kernel
theorem dL_law_688 : decode cL_law 688 = .ok (.ireturn, 1) := by decide +kernel
theorem dL_law_689 : decode cL_law 689 = .ok (.iload 5, 2) := by decide +kernel
theorem dL_law_691 : decode cL_law 691 = .ok (.ifCond .ne 15, 3) := by decide +kernel
theorem dL_law_694 : decode cL_law 694 = .ok (.aload_n 3, 1) := by decide +kernel
theorem dL_law_695 : decode cL_law 695 = .ok (.iconst 0, 1) := by decide +kernel
theorem dL_law_696 : decode cL_law 696 = .ok (.laload, 1) := by decide +kernel
theorem dL_law_697 : decode cL_law 697 = .ok (.iload 6, 2) := by decide +kernel
theorem dL_law_699 : decode cL_law 699 = .ok (.i2l, 1) := by decide +kernel
theorem dL_law_700 : decode cL_law 700 = .ok (.lcmp, 1) := by decide +kernel
theorem dL_law_701 : decode cL_law 701 = .ok (.ifCond .eq 5, 3) := by decide +kernel
theorem dL_law_704 : decode cL_law 704 = .ok (.iconst 0, 1) := by decide +kernel
theorem dL_law_705 : decode cL_law 705 = .ok (.ireturn, 1) := by decide +kernel
theorem dL_law_706 : decode cL_law 706 = .ok (.goto 628, 3) := by decide +kernel
theorem dL_law_709 : decode cL_law 709 = .ok (.aload_n 1, 1) := by decide +kernel
theorem dL_law_710 : decode cL_law 710 = .ok (.aload_n 0, 1) := by decide +kernel
theorem dL_law_711 : decode cL_law 711 = .ok (.iload 4, 2) := by decide +kernel
theorem dL_law_713 : decode cL_law 713 = .ok (.iconst 1, 1) := by decide +kernel
theorem dL_law_714 : decode cL_law 714 = .ok (.iadd, 1) := by decide +kernel
theorem dL_law_715 : decode cL_law 715 = .ok (.iaload, 1) := by decide +kernel
theorem dL_law_716 : decode cL_law 716 = .ok (.aload_n 3, 1) := by decide +kernel
theorem dL_law_717 : decode cL_law 717 = .ok (.invokestatic 125, 3) := by decide +kernel
theorem dL_law_720 : decode cL_law 720 = .ok (.istore 5, 2) := by decide +kernel
theorem dL_law_722 : decode cL_law 722 = .ok (.aload_n 2, 1) := by decide +kernel
theorem dL_law_723 : decode cL_law 723 = .ok (.aload_n 0, 1) := by decide +kernel
theorem dL_law_724 : decode cL_law 724 = .ok (.iload 4, 2) := by decide +kernel
theorem dL_law_726 : decode cL_law 726 = .ok (.iconst 1, 1) := by decide +kernel
theorem dL_law_727 : decode cL_law 727 = .ok (.iadd, 1) := by decide +kernel
theorem dL_law_728 : decode cL_law 728 = .ok (.iaload, 1) := by decide +kernel
theorem dL_law_729 : decode cL_law 729 = .ok (.invokevirtual 127, 3) := by decide +kernel
theorem dL_law_732 : decode cL_law 732 = .ok (.istore 6, 2) := by decide +kernel
theorem dL_law_734 : decode cL_law 734 = .ok (.aload_n 2, 1) := by decide +kernel
theorem dL_law_735 : decode cL_law 735 = .ok (.invokevirtual 90, 3) := by decide +kernel
theorem dL_law_738 : decode cL_law 738 = .ok (.iload 5, 2) := by decide +kernel
theorem dL_law_740 : decode cL_law 740 = .ok (.if_icmp .eq 5, 3) := by decide +kernel
theorem dL_law_743 : decode cL_law 743 = .ok (.iconst 0, 1) := by decide +kernel
theorem dL_law_744 : decode cL_law 744 = .ok (.ireturn, 1) := by decide +kernel
theorem dL_law_745 : decode cL_law 745 = .ok (.iload 5, 2) := by decide +kernel
theorem dL_law_747 : decode cL_law 747 = .ok (.ifCond .ne 15, 3) := by decide +kernel
theorem dL_law_750 : decode cL_law 750 = .ok (.aload_n 3, 1) := by decide +kernel
theorem dL_law_751 : decode cL_law 751 = .ok (.iconst 0, 1) := by decide +kernel
theorem dL_law_752 : decode cL_law 752 = .ok (.laload, 1) := by decide +kernel
theorem dL_law_753 : decode cL_law 753 = .ok (.iload 6, 2) := by decide +kernel
theorem dL_law_755 : decode cL_law 755 = .ok (.i2l, 1) := by decide +kernel
theorem dL_law_756 : decode cL_law 756 = .ok (.lcmp, 1) := by decide +kernel
theorem dL_law_757 : decode cL_law 757 = .ok (.ifCond .eq 5, 3) := by decide +kernel
theorem dL_law_760 : decode cL_law 760 = .ok (.iconst 0, 1) := by decide +kernel
theorem dL_law_761 : decode cL_law 761 = .ok (.ireturn, 1) := by decide +kernel
theorem dL_law_762 : decode cL_law 762 = .ok (.goto 572, 3) := by decide +kernel
theorem dL_law_765 : decode cL_law 765 = .ok (.aload_n 1, 1) := by decide +kernel
theorem dL_law_766 : decode cL_law 766 = .ok (.aload_n 0, 1) := by decide +kernel
theorem dL_law_767 : decode cL_law 767 = .ok (.iload 4, 2) := by decide +kernel
theorem dL_law_769 : decode cL_law 769 = .ok (.iconst 1, 1) := by decide +kernel
theorem dL_law_770 : decode cL_law 770 = .ok (.iadd, 1) := by decide +kernel
theorem dL_law_771 : decode cL_law 771 = .ok (.iaload, 1) := by decide +kernel
theorem dL_law_772 : decode cL_law 772 = .ok (.aload_n 3, 1) := by decide +kernel
theorem dL_law_773 : decode cL_law 773 = .ok (.invokestatic 128, 3) := by decide +kernel
theorem dL_law_776 : decode cL_law 776 = .ok (.istore 5, 2) := by decide +kernel
theorem dL_law_778 : decode cL_law 778 = .ok (.aload_n 2, 1) := by decide +kernel
theorem dL_law_779 : decode cL_law 779 = .ok (.aload_n 0, 1) := by decide +kernel
theorem dL_law_780 : decode cL_law 780 = .ok (.iload 4, 2) := by decide +kernel
theorem dL_law_782 : decode cL_law 782 = .ok (.iconst 1, 1) := by decide +kernel
theorem dL_law_783 : decode cL_law 783 = .ok (.iadd, 1) := by decide +kernel
theorem dL_law_784 : decode cL_law 784 = .ok (.iaload, 1) := by decide +kernel
theorem dL_law_785 : decode cL_law 785 = .ok (.invokevirtual 130, 3) := by decide +kernel
theorem dL_law_788 : decode cL_law 788 = .ok (.istore 6, 2) := by decide +kernel
theorem dL_law_790 : decode cL_law 790 = .ok (.aload_n 2, 1) := by decide +kernel
theorem dL_law_791 : decode cL_law 791 = .ok (.invokevirtual 90, 3) := by decide +kernel
theorem dL_law_794 : decode cL_law 794 = .ok (.iload 5, 2) := by decide +kernel
theorem dL_law_796 : decode cL_law 796 = .ok (.if_icmp .eq 5, 3) := by decide +kernel
theorem dL_law_799 : decode cL_law 799 = .ok (.iconst 0, 1) := by decide +kernel
theorem dL_law_800 : decode cL_law 800 = .ok (.ireturn, 1) := by decide +kernel
theorem dL_law_801 : decode cL_law 801 = .ok (.iload 5, 2) := by decide +kernel
theorem dL_law_803 : decode cL_law 803 = .ok (.ifCond .ne 15, 3) := by decide +kernel
theorem dL_law_806 : decode cL_law 806 = .ok (.aload_n 3, 1) := by decide +kernel
theorem dL_law_807 : decode cL_law 807 = .ok (.iconst 0, 1) := by decide +kernel
theorem dL_law_808 : decode cL_law 808 = .ok (.laload, 1) := by decide +kernel
theorem dL_law_809 : decode cL_law 809 = .ok (.iload 6, 2) := by decide +kernel
theorem dL_law_811 : decode cL_law 811 = .ok (.i2l, 1) := by decide +kernel
theorem dL_law_812 : decode cL_law 812 = .ok (.lcmp, 1) := by decide +kernel
theorem dL_law_813 : decode cL_law 813 = .ok (.ifCond .eq 5, 3) := by decide +kernel
theorem dL_law_816 : decode cL_law 816 = .ok (.iconst 0, 1) := by decide +kernel
theorem dL_law_817 : decode cL_law 817 = .ok (.ireturn, 1) := by decide +kernel
theorem dL_law_818 : decode cL_law 818 = .ok (.goto 516, 3) := by decide +kernel
theorem dL_law_821 : decode cL_law 821 = .ok (.aload_n 1, 1) := by decide +kernel
theorem dL_law_822 : decode cL_law 822 = .ok (.aload_n 0, 1) := by decide +kernel
theorem dL_law_823 : decode cL_law 823 = .ok (.iload 4, 2) := by decide +kernel
theorem dL_law_825 : decode cL_law 825 = .ok (.iconst 1, 1) := by decide +kernel
theorem dL_law_826 : decode cL_law 826 = .ok (.iadd, 1) := by decide +kernel
theorem dL_law_827 : decode cL_law 827 = .ok (.iaload, 1) := by decide +kernel
theorem dL_law_828 : decode cL_law 828 = .ok (.aload_n 3, 1) := by decide +kernel
theorem dL_law_829 : decode cL_law 829 = .ok (.invokestatic 131, 3) := by decide +kernel
theorem dL_law_832 : decode cL_law 832 = .ok (.istore 5, 2) := by decide +kernel
theorem dL_law_834 : decode cL_law 834 = .ok (.aload_n 2, 1) := by decide +kernel
theorem dL_law_835 : decode cL_law 835 = .ok (.aload_n 0, 1) := by decide +kernel
theorem dL_law_836 : decode cL_law 836 = .ok (.iload 4, 2) := by decide +kernel
theorem dL_law_838 : decode cL_law 838 = .ok (.iconst 1, 1) := by decide +kernel
theorem dL_law_839 : decode cL_law 839 = .ok (.iadd, 1) := by decide +kernel
theorem dL_law_840 : decode cL_law 840 = .ok (.iaload, 1) := by decide +kernel
theorem dL_law_841 : decode cL_law 841 = .ok (.invokevirtual 133, 3) := by decide +kernel
theorem dL_law_844 : decode cL_law 844 = .ok (.istore 6, 2) := by decide +kernel
theorem dL_law_846 : decode cL_law 846 = .ok (.aload_n 2, 1) := by decide +kernel
theorem dL_law_847 : decode cL_law 847 = .ok (.invokevirtual 90, 3) := by decide +kernel
theorem dL_law_850 : decode cL_law 850 = .ok (.iload 5, 2) := by decide +kernel
theorem dL_law_852 : decode cL_law 852 = .ok (.if_icmp .eq 5, 3) := by decide +kernel
theorem dL_law_855 : decode cL_law 855 = .ok (.iconst 0, 1) := by decide +kernel
theorem dL_law_856 : decode cL_law 856 = .ok (.ireturn, 1) := by decide +kernel
theorem dL_law_857 : decode cL_law 857 = .ok (.iload 5, 2) := by decide +kernel
theorem dL_law_859 : decode cL_law 859 = .ok (.ifCond .ne 15, 3) := by decide +kernel
theorem dL_law_862 : decode cL_law 862 = .ok (.aload_n 3, 1) := by decide +kernel
theorem dL_law_863 : decode cL_law 863 = .ok (.iconst 0, 1) := by decide +kernel
theorem dL_law_864 : decode cL_law 864 = .ok (.laload, 1) := by decide +kernel
theorem dL_law_865 : decode cL_law 865 = .ok (.iload 6, 2) := by decide +kernel
theorem dL_law_867 : decode cL_law 867 = .ok (.i2l, 1) := by decide +kernel
theorem dL_law_868 : decode cL_law 868 = .ok (.lcmp, 1) := by decide +kernel
theorem dL_law_869 : decode cL_law 869 = .ok (.ifCond .eq 5, 3) := by decide +kernel
theorem dL_law_872 : decode cL_law 872 = .ok (.iconst 0, 1) := by decide +kernel
theorem dL_law_873 : decode cL_law 873 = .ok (.ireturn, 1) := by decide +kernel
theorem dL_law_874 : decode cL_law 874 = .ok (.goto 460, 3) := by decide +kernel
theorem dL_law_877 : decode cL_law 877 = .ok (.aload_n 1, 1) := by decide +kernel
theorem dL_law_878 : decode cL_law 878 = .ok (.aload_n 0, 1) := by decide +kernel
theorem dL_law_879 : decode cL_law 879 = .ok (.iload 4, 2) := by decide +kernel
theorem dL_law_881 : decode cL_law 881 = .ok (.iconst 1, 1) := by decide +kernel
theorem dL_law_882 : decode cL_law 882 = .ok (.iadd, 1) := by decide +kernel
theorem dL_law_883 : decode cL_law 883 = .ok (.iaload, 1) := by decide +kernel
theorem dL_law_884 : decode cL_law 884 = .ok (.aload_n 3, 1) := by decide +kernel
theorem dL_law_885 : decode cL_law 885 = .ok (.invokestatic 134, 3) := by decide +kernel
theorem dL_law_888 : decode cL_law 888 = .ok (.istore 5, 2) := by decide +kernel
theorem dL_law_890 : decode cL_law 890 = .ok (.aload_n 2, 1) := by decide +kernel
theorem dL_law_891 : decode cL_law 891 = .ok (.aload_n 0, 1) := by decide +kernel
theorem dL_law_892 : decode cL_law 892 = .ok (.iload 4, 2) := by decide +kernel
theorem dL_law_894 : decode cL_law 894 = .ok (.iconst 1, 1) := by decide +kernel
theorem dL_law_895 : decode cL_law 895 = .ok (.iadd, 1) := by decide +kernel
theorem dL_law_896 : decode cL_law 896 = .ok (.iaload, 1) := by decide +kernel
theorem dL_law_897 : decode cL_law 897 = .ok (.invokevirtual 136, 3) := by decide +kernel
theorem dL_law_900 : decode cL_law 900 = .ok (.istore 6, 2) := by decide +kernel
theorem dL_law_902 : decode cL_law 902 = .ok (.aload_n 2, 1) := by decide +kernel
theorem dL_law_903 : decode cL_law 903 = .ok (.invokevirtual 90, 3) := by decide +kernel
theorem dL_law_906 : decode cL_law 906 = .ok (.iload 5, 2) := by decide +kernel
theorem dL_law_908 : decode cL_law 908 = .ok (.if_icmp .eq 5, 3) := by decide +kernel
theorem dL_law_911 : decode cL_law 911 = .ok (.iconst 0, 1) := by decide +kernel
theorem dL_law_912 : decode cL_law 912 = .ok (.ireturn, 1) := by decide +kernel
theorem dL_law_913 : decode cL_law 913 = .ok (.iload 5, 2) := by decide +kernel
theorem dL_law_915 : decode cL_law 915 = .ok (.ifCond .ne 15, 3) := by decide +kernel
theorem dL_law_918 : decode cL_law 918 = .ok (.aload_n 3, 1) := by decide +kernel
theorem dL_law_919 : decode cL_law 919 = .ok (.iconst 0, 1) := by decide +kernel
theorem dL_law_920 : decode cL_law 920 = .ok (.laload, 1) := by decide +kernel
theorem dL_law_921 : decode cL_law 921 = .ok (.iload 6, 2) := by decide +kernel
theorem dL_law_923 : decode cL_law 923 = .ok (.i2l, 1) := by decide +kernel
theorem dL_law_924 : decode cL_law 924 = .ok (.lcmp, 1) := by decide +kernel
theorem dL_law_925 : decode cL_law 925 = .ok (.ifCond .eq 5, 3) := by decide +kernel
theorem dL_law_928 : decode cL_law 928 = .ok (.iconst 0, 1) := by decide +kernel
theorem dL_law_929 : decode cL_law 929 = .ok (.ireturn, 1) := by decide +kernel
theorem dL_law_930 : decode cL_law 930 = .ok (.goto 404, 3) := by decide +kernel
theorem dL_law_933 : decode cL_law 933 = .ok (.aload_n 1, 1) := by decide +kernel
theorem dL_law_934 : decode cL_law 934 = .ok (.aload_n 0, 1) := by decide +kernel
theorem dL_law_935 : decode cL_law 935 = .ok (.iload 4, 2) := by decide +kernel
theorem dL_law_937 : decode cL_law 937 = .ok (.iconst 1, 1) := by decide +kernel
theorem dL_law_938 : decode cL_law 938 = .ok (.iadd, 1) := by decide +kernel
theorem dL_law_939 : decode cL_law 939 = .ok (.iaload, 1) := by decide +kernel
theorem dL_law_940 : decode cL_law 940 = .ok (.aload_n 3, 1) := by decide +kernel
theorem dL_law_941 : decode cL_law 941 = .ok (.invokestatic 137, 3) := by decide +kernel
theorem dL_law_944 : decode cL_law 944 = .ok (.istore 5, 2) := by decide +kernel
theorem dL_law_946 : decode cL_law 946 = .ok (.aload_n 2, 1) := by decide +kernel
theorem dL_law_947 : decode cL_law 947 = .ok (.aload_n 0, 1) := by decide +kernel
theorem dL_law_948 : decode cL_law 948 = .ok (.iload 4, 2) := by decide +kernel
theorem dL_law_950 : decode cL_law 950 = .ok (.iconst 1, 1) := by decide +kernel
theorem dL_law_951 : decode cL_law 951 = .ok (.iadd, 1) := by decide +kernel
theorem dL_law_952 : decode cL_law 952 = .ok (.iaload, 1) := by decide +kernel
theorem dL_law_953 : decode cL_law 953 = .ok (.invokevirtual 139, 3) := by decide +kernel
theorem dL_law_956 : decode cL_law 956 = .ok (.istore 6, 2) := by decide +kernel
theorem dL_law_958 : decode cL_law 958 = .ok (.aload_n 2, 1) := by decide +kernel
theorem dL_law_959 : decode cL_law 959 = .ok (.invokevirtual 90, 3) := by decide +kernel
theorem dL_law_962 : decode cL_law 962 = .ok (.iload 5, 2) := by decide +kernel
theorem dL_law_964 : decode cL_law 964 = .ok (.if_icmp .eq 5, 3) := by decide +kernel
theorem dL_law_967 : decode cL_law 967 = .ok (.iconst 0, 1) := by decide +kernel
theorem dL_law_968 : decode cL_law 968 = .ok (.ireturn, 1) := by decide +kernel
theorem dL_law_969 : decode cL_law 969 = .ok (.iload 5, 2) := by decide +kernel
theorem dL_law_971 : decode cL_law 971 = .ok (.ifCond .ne 15, 3) := by decide +kernel
theorem dL_law_974 : decode cL_law 974 = .ok (.aload_n 3, 1) := by decide +kernel
theorem dL_law_975 : decode cL_law 975 = .ok (.iconst 0, 1) := by decide +kernel
theorem dL_law_976 : decode cL_law 976 = .ok (.laload, 1) := by decide +kernel
theorem dL_law_977 : decode cL_law 977 = .ok (.iload 6, 2) := by decide +kernel
theorem dL_law_979 : decode cL_law 979 = .ok (.i2l, 1) := by decide +kernel
theorem dL_law_980 : decode cL_law 980 = .ok (.lcmp, 1) := by decide +kernel
theorem dL_law_981 : decode cL_law 981 = .ok (.ifCond .eq 5, 3) := by decide +kernel
theorem dL_law_984 : decode cL_law 984 = .ok (.iconst 0, 1) := by decide +kernel
theorem dL_law_985 : decode cL_law 985 = .ok (.ireturn, 1) := by decide +kernel
theorem dL_law_986 : decode cL_law 986 = .ok (.goto 348, 3) := by decide +kernel
theorem dL_law_989 : decode cL_law 989 = .ok (.aload_n 1, 1) := by decide +kernel
theorem dL_law_990 : decode cL_law 990 = .ok (.aload_n 0, 1) := by decide +kernel
theorem dL_law_991 : decode cL_law 991 = .ok (.iload 4, 2) := by decide +kernel
theorem dL_law_993 : decode cL_law 993 = .ok (.iconst 1, 1) := by decide +kernel
theorem dL_law_994 : decode cL_law 994 = .ok (.iadd, 1) := by decide +kernel
theorem dL_law_995 : decode cL_law 995 = .ok (.iaload, 1) := by decide +kernel
theorem dL_law_996 : decode cL_law 996 = .ok (.aload_n 3, 1) := by decide +kernel
theorem dL_law_997 : decode cL_law 997 = .ok (.invokestatic 140, 3) := by decide +kernel
theorem dL_law_1000 : decode cL_law 1000 = .ok (.istore 5, 2) := by decide +kernel
theorem dL_law_1002 : decode cL_law 1002 = .ok (.aload_n 2, 1) := by decide +kernel
theorem dL_law_1003 : decode cL_law 1003 = .ok (.aload_n 0, 1) := by decide +kernel
theorem dL_law_1004 : decode cL_law 1004 = .ok (.iload 4, 2) := by decide +kernel
theorem dL_law_1006 : decode cL_law 1006 = .ok (.iconst 1, 1) := by decide +kernel
theorem dL_law_1007 : decode cL_law 1007 = .ok (.iadd, 1) := by decide +kernel
theorem dL_law_1008 : decode cL_law 1008 = .ok (.iaload, 1) := by decide +kernel
theorem dL_law_1009 : decode cL_law 1009 = .ok (.invokevirtual 142, 3) := by decide +kernel
theorem dL_law_1012 : decode cL_law 1012 = .ok (.istore 6, 2) := by decide +kernel
theorem dL_law_1014 : decode cL_law 1014 = .ok (.aload_n 2, 1) := by decide +kernel
theorem dL_law_1015 : decode cL_law 1015 = .ok (.invokevirtual 90, 3) := by decide +kernel
theorem dL_law_1018 : decode cL_law 1018 = .ok (.iload 5, 2) := by decide +kernel
theorem dL_law_1020 : decode cL_law 1020 = .ok (.if_icmp .eq 5, 3) := by decide +kernel
theorem dL_law_1023 : decode cL_law 1023 = .ok (.iconst 0, 1) := by decide +kernel
theorem dL_law_1024 : decode cL_law 1024 = .ok (.ireturn, 1) := by decide +kernel
theorem dL_law_1025 : decode cL_law 1025 = .ok (.iload 5, 2) := by decide +kernel
theorem dL_law_1027 : decode cL_law 1027 = .ok (.ifCond .ne 15, 3) := by decide +kernel
theorem dL_law_1030 : decode cL_law 1030 = .ok (.aload_n 3, 1) := by decide +kernel
theorem dL_law_1031 : decode cL_law 1031 = .ok (.iconst 0, 1) := by decide +kernel
theorem dL_law_1032 : decode cL_law 1032 = .ok (.laload, 1) := by decide +kernel
theorem dL_law_1033 : decode cL_law 1033 = .ok (.iload 6, 2) := by decide +kernel
theorem dL_law_1035 : decode cL_law 1035 = .ok (.i2l, 1) := by decide +kernel
theorem dL_law_1036 : decode cL_law 1036 = .ok (.lcmp, 1) := by decide +kernel
theorem dL_law_1037 : decode cL_law 1037 = .ok (.ifCond .eq 5, 3) := by decide +kernel
theorem dL_law_1040 : decode cL_law 1040 = .ok (.iconst 0, 1) := by decide +kernel
theorem dL_law_1041 : decode cL_law 1041 = .ok (.ireturn, 1) := by decide +kernel
theorem dL_law_1042 : decode cL_law 1042 = .ok (.goto 292, 3) := by decide +kernel
theorem dL_law_1045 : decode cL_law 1045 = .ok (.aload_n 1, 1) := by decide +kernel
theorem dL_law_1046 : decode cL_law 1046 = .ok (.aload_n 0, 1) := by decide +kernel
theorem dL_law_1047 : decode cL_law 1047 = .ok (.iload 4, 2) := by decide +kernel
theorem dL_law_1049 : decode cL_law 1049 = .ok (.iconst 1, 1) := by decide +kernel
theorem dL_law_1050 : decode cL_law 1050 = .ok (.iadd, 1) := by decide +kernel
theorem dL_law_1051 : decode cL_law 1051 = .ok (.iaload, 1) := by decide +kernel
theorem dL_law_1052 : decode cL_law 1052 = .ok (.aload_n 3, 1) := by decide +kernel
theorem dL_law_1053 : decode cL_law 1053 = .ok (.invokestatic 143, 3) := by decide +kernel
theorem dL_law_1056 : decode cL_law 1056 = .ok (.istore 5, 2) := by decide +kernel
theorem dL_law_1058 : decode cL_law 1058 = .ok (.aload_n 2, 1) := by decide +kernel
theorem dL_law_1059 : decode cL_law 1059 = .ok (.aload_n 0, 1) := by decide +kernel
theorem dL_law_1060 : decode cL_law 1060 = .ok (.iload 4, 2) := by decide +kernel
theorem dL_law_1062 : decode cL_law 1062 = .ok (.iconst 1, 1) := by decide +kernel
theorem dL_law_1063 : decode cL_law 1063 = .ok (.iadd, 1) := by decide +kernel
theorem dL_law_1064 : decode cL_law 1064 = .ok (.iaload, 1) := by decide +kernel
theorem dL_law_1065 : decode cL_law 1065 = .ok (.invokevirtual 145, 3) := by decide +kernel
theorem dL_law_1068 : decode cL_law 1068 = .ok (.istore 6, 2) := by decide +kernel
theorem dL_law_1070 : decode cL_law 1070 = .ok (.aload_n 2, 1) := by decide +kernel
theorem dL_law_1071 : decode cL_law 1071 = .ok (.invokevirtual 90, 3) := by decide +kernel
theorem dL_law_1074 : decode cL_law 1074 = .ok (.iload 5, 2) := by decide +kernel
theorem dL_law_1076 : decode cL_law 1076 = .ok (.if_icmp .eq 5, 3) := by decide +kernel
theorem dL_law_1079 : decode cL_law 1079 = .ok (.iconst 0, 1) := by decide +kernel
theorem dL_law_1080 : decode cL_law 1080 = .ok (.ireturn, 1) := by decide +kernel
theorem dL_law_1081 : decode cL_law 1081 = .ok (.iload 5, 2) := by decide +kernel
theorem dL_law_1083 : decode cL_law 1083 = .ok (.ifCond .ne 15, 3) := by decide +kernel
theorem dL_law_1086 : decode cL_law 1086 = .ok (.aload_n 3, 1) := by decide +kernel
theorem dL_law_1087 : decode cL_law 1087 = .ok (.iconst 0, 1) := by decide +kernel
theorem dL_law_1088 : decode cL_law 1088 = .ok (.laload, 1) := by decide +kernel
theorem dL_law_1089 : decode cL_law 1089 = .ok (.iload 6, 2) := by decide +kernel
theorem dL_law_1091 : decode cL_law 1091 = .ok (.i2l, 1) := by decide +kernel
theorem dL_law_1092 : decode cL_law 1092 = .ok (.lcmp, 1) := by decide +kernel
theorem dL_law_1093 : decode cL_law 1093 = .ok (.ifCond .eq 5, 3) := by decide +kernel
theorem dL_law_1096 : decode cL_law 1096 = .ok (.iconst 0, 1) := by decide +kernel
theorem dL_law_1097 : decode cL_law 1097 = .ok (.ireturn, 1) := by decide +kernel
theorem dL_law_1098 : decode cL_law 1098 = .ok (.goto 236, 3) := by decide +kernel
theorem dL_law_1101 : decode cL_law 1101 = .ok (.aload_n 1, 1) := by decide +kernel
theorem dL_law_1102 : decode cL_law 1102 = .ok (.aload_n 0, 1) := by decide +kernel
theorem dL_law_1103 : decode cL_law 1103 = .ok (.iload 4, 2) := by decide +kernel
theorem dL_law_1105 : decode cL_law 1105 = .ok (.iconst 1, 1) := by decide +kernel
theorem dL_law_1106 : decode cL_law 1106 = .ok (.iadd, 1) := by decide +kernel
theorem dL_law_1107 : decode cL_law 1107 = .ok (.iaload, 1) := by decide +kernel
theorem dL_law_1108 : decode cL_law 1108 = .ok (.aload_n 3, 1) := by decide +kernel
theorem dL_law_1109 : decode cL_law 1109 = .ok (.invokestatic 146, 3) := by decide +kernel
theorem dL_law_1112 : decode cL_law 1112 = .ok (.istore 5, 2) := by decide +kernel
theorem dL_law_1114 : decode cL_law 1114 = .ok (.aload_n 2, 1) := by decide +kernel
theorem dL_law_1115 : decode cL_law 1115 = .ok (.aload_n 0, 1) := by decide +kernel
theorem dL_law_1116 : decode cL_law 1116 = .ok (.iload 4, 2) := by decide +kernel
theorem dL_law_1118 : decode cL_law 1118 = .ok (.iconst 1, 1) := by decide +kernel
theorem dL_law_1119 : decode cL_law 1119 = .ok (.iadd, 1) := by decide +kernel
theorem dL_law_1120 : decode cL_law 1120 = .ok (.iaload, 1) := by decide +kernel
theorem dL_law_1121 : decode cL_law 1121 = .ok (.invokevirtual 148, 3) := by decide +kernel
theorem dL_law_1124 : decode cL_law 1124 = .ok (.istore 6, 2) := by decide +kernel
theorem dL_law_1126 : decode cL_law 1126 = .ok (.aload_n 2, 1) := by decide +kernel
theorem dL_law_1127 : decode cL_law 1127 = .ok (.invokevirtual 90, 3) := by decide +kernel
theorem dL_law_1130 : decode cL_law 1130 = .ok (.iload 5, 2) := by decide +kernel
theorem dL_law_1132 : decode cL_law 1132 = .ok (.if_icmp .eq 5, 3) := by decide +kernel
theorem dL_law_1135 : decode cL_law 1135 = .ok (.iconst 0, 1) := by decide +kernel
theorem dL_law_1136 : decode cL_law 1136 = .ok (.ireturn, 1) := by decide +kernel
theorem dL_law_1137 : decode cL_law 1137 = .ok (.iload 5, 2) := by decide +kernel
theorem dL_law_1139 : decode cL_law 1139 = .ok (.ifCond .ne 15, 3) := by decide +kernel
theorem dL_law_1142 : decode cL_law 1142 = .ok (.aload_n 3, 1) := by decide +kernel
theorem dL_law_1143 : decode cL_law 1143 = .ok (.iconst 0, 1) := by decide +kernel
theorem dL_law_1144 : decode cL_law 1144 = .ok (.laload, 1) := by decide +kernel
theorem dL_law_1145 : decode cL_law 1145 = .ok (.iload 6, 2) := by decide +kernel
theorem dL_law_1147 : decode cL_law 1147 = .ok (.i2l, 1) := by decide +kernel
theorem dL_law_1148 : decode cL_law 1148 = .ok (.lcmp, 1) := by decide +kernel
theorem dL_law_1149 : decode cL_law 1149 = .ok (.ifCond .eq 5, 3) := by decide +kernel
theorem dL_law_1152 : decode cL_law 1152 = .ok (.iconst 0, 1) := by decide +kernel
theorem dL_law_1153 : decode cL_law 1153 = .ok (.ireturn, 1) := by decide +kernel
theorem dL_law_1154 : decode cL_law 1154 = .ok (.goto 180, 3) := by decide +kernel
theorem dL_law_1157 : decode cL_law 1157 = .ok (.aload_n 1, 1) := by decide +kernel
theorem dL_law_1158 : decode cL_law 1158 = .ok (.aload_n 0, 1) := by decide +kernel
theorem dL_law_1159 : decode cL_law 1159 = .ok (.iload 4, 2) := by decide +kernel
theorem dL_law_1161 : decode cL_law 1161 = .ok (.iconst 1, 1) := by decide +kernel
theorem dL_law_1162 : decode cL_law 1162 = .ok (.iadd, 1) := by decide +kernel
theorem dL_law_1163 : decode cL_law 1163 = .ok (.iaload, 1) := by decide +kernel
theorem dL_law_1164 : decode cL_law 1164 = .ok (.aload_n 0, 1) := by decide +kernel
theorem dL_law_1165 : decode cL_law 1165 = .ok (.iload 4, 2) := by decide +kernel
theorem dL_law_1167 : decode cL_law 1167 = .ok (.iconst 2, 1) := by decide +kernel
theorem dL_law_1168 : decode cL_law 1168 = .ok (.iadd, 1) := by decide +kernel
theorem dL_law_1169 : decode cL_law 1169 = .ok (.iaload, 1) := by decide +kernel
theorem dL_law_1170 : decode cL_law 1170 = .ok (.invokevirtual 149, 3) := by decide +kernel
theorem dL_law_1173 : decode cL_law 1173 = .ok (.aload_n 2, 1) := by decide +kernel
theorem dL_law_1174 : decode cL_law 1174 = .ok (.aload_n 0, 1) := by decide +kernel
theorem dL_law_1175 : decode cL_law 1175 = .ok (.iload 4, 2) := by decide +kernel
theorem dL_law_1177 : decode cL_law 1177 = .ok (.iconst 1, 1) := by decide +kernel
theorem dL_law_1178 : decode cL_law 1178 = .ok (.iadd, 1) := by decide +kernel
theorem dL_law_1179 : decode cL_law 1179 = .ok (.iaload, 1) := by decide +kernel
theorem dL_law_1180 : decode cL_law 1180 = .ok (.aload_n 0, 1) := by decide +kernel
theorem dL_law_1181 : decode cL_law 1181 = .ok (.iload 4, 2) := by decide +kernel
theorem dL_law_1183 : decode cL_law 1183 = .ok (.iconst 2, 1) := by decide +kernel
theorem dL_law_1184 : decode cL_law 1184 = .ok (.iadd, 1) := by decide +kernel
theorem dL_law_1185 : decode cL_law 1185 = .ok (.iaload, 1) := by decide +kernel
theorem dL_law_1186 : decode cL_law 1186 = .ok (.invokevirtual 152, 3) := by decide +kernel
theorem dL_law_1189 : decode cL_law 1189 = .ok (.if_icmp .eq 145, 3) := by decide +kernel
theorem dL_law_1192 : decode cL_law 1192 = .ok (.iconst 0, 1) := by decide +kernel
theorem dL_law_1193 : decode cL_law 1193 = .ok (.ireturn, 1) := by decide +kernel
theorem dL_law_1194 : decode cL_law 1194 = .ok (.aload_n 1, 1) := by decide +kernel
theorem dL_law_1195 : decode cL_law 1195 = .ok (.aload_n 0, 1) := by decide +kernel
theorem dL_law_1196 : decode cL_law 1196 = .ok (.iload 4, 2) := by decide +kernel
theorem dL_law_1198 : decode cL_law 1198 = .ok (.iconst 1, 1) := by decide +kernel
theorem dL_law_1199 : decode cL_law 1199 = .ok (.iadd, 1) := by decide +kernel
theorem dL_law_1200 : decode cL_law 1200 = .ok (.iaload, 1) := by decide +kernel
theorem dL_law_1201 : decode cL_law 1201 = .ok (.aload_n 0, 1) := by decide +kernel
theorem dL_law_1202 : decode cL_law 1202 = .ok (.iload 4, 2) := by decide +kernel
theorem dL_law_1204 : decode cL_law 1204 = .ok (.iconst 2, 1) := by decide +kernel
theorem dL_law_1205 : decode cL_law 1205 = .ok (.iadd, 1) := by decide +kernel
theorem dL_law_1206 : decode cL_law 1206 = .ok (.iaload, 1) := by decide +kernel
theorem dL_law_1207 : decode cL_law 1207 = .ok (.aload_n 3, 1) := by decide +kernel
theorem dL_law_1208 : decode cL_law 1208 = .ok (.invokestatic 153, 3) := by decide +kernel
theorem dL_law_1211 : decode cL_law 1211 = .ok (.istore 5, 2) := by decide +kernel
theorem dL_law_1213 : decode cL_law 1213 = .ok (.aload_n 2, 1) := by decide +kernel
theorem dL_law_1214 : decode cL_law 1214 = .ok (.aload_n 0, 1) := by decide +kernel
theorem dL_law_1215 : decode cL_law 1215 = .ok (.iload 4, 2) := by decide +kernel
theorem dL_law_1217 : decode cL_law 1217 = .ok (.iconst 1, 1) := by decide +kernel
theorem dL_law_1218 : decode cL_law 1218 = .ok (.iadd, 1) := by decide +kernel
theorem dL_law_1219 : decode cL_law 1219 = .ok (.iaload, 1) := by decide +kernel
theorem dL_law_1220 : decode cL_law 1220 = .ok (.aload_n 0, 1) := by decide +kernel
theorem dL_law_1221 : decode cL_law 1221 = .ok (.iload 4, 2) := by decide +kernel
theorem dL_law_1223 : decode cL_law 1223 = .ok (.iconst 2, 1) := by decide +kernel
theorem dL_law_1224 : decode cL_law 1224 = .ok (.iadd, 1) := by decide +kernel
theorem dL_law_1225 : decode cL_law 1225 = .ok (.iaload, 1) := by decide +kernel
theorem dL_law_1226 : decode cL_law 1226 = .ok (.invokevirtual 155, 3) := by decide +kernel
theorem dL_law_1229 : decode cL_law 1229 = .ok (.istore 6, 2) := by decide +kernel
theorem dL_law_1231 : decode cL_law 1231 = .ok (.aload_n 2, 1) := by decide +kernel
theorem dL_law_1232 : decode cL_law 1232 = .ok (.invokevirtual 90, 3) := by decide +kernel
theorem dL_law_1235 : decode cL_law 1235 = .ok (.iload 5, 2) := by decide +kernel
theorem dL_law_1237 : decode cL_law 1237 = .ok (.if_icmp .eq 5, 3) := by decide +kernel
theorem dL_law_1240 : decode cL_law 1240 = .ok (.iconst 0, 1) := by decide +kernel
theorem dL_law_1241 : decode cL_law 1241 = .ok (.ireturn, 1) := by decide +kernel
theorem dL_law_1242 : decode cL_law 1242 = .ok (.iload 5, 2) := by decide +kernel
theorem dL_law_1244 : decode cL_law 1244 = .ok (.ifCond .ne 15, 3) := by decide +kernel
theorem dL_law_1247 : decode cL_law 1247 = .ok (.aload_n 3, 1) := by decide +kernel
theorem dL_law_1248 : decode cL_law 1248 = .ok (.iconst 0, 1) := by decide +kernel
theorem dL_law_1249 : decode cL_law 1249 = .ok (.laload, 1) := by decide +kernel
theorem dL_law_1250 : decode cL_law 1250 = .ok (.iload 6, 2) := by decide +kernel
theorem dL_law_1252 : decode cL_law 1252 = .ok (.i2l, 1) := by decide +kernel
theorem dL_law_1253 : decode cL_law 1253 = .ok (.lcmp, 1) := by decide +kernel
theorem dL_law_1254 : decode cL_law 1254 = .ok (.ifCond .eq 5, 3) := by decide +kernel
theorem dL_law_1257 : decode cL_law 1257 = .ok (.iconst 0, 1) := by decide +kernel
theorem dL_law_1258 : decode cL_law 1258 = .ok (.ireturn, 1) := by decide +kernel
theorem dL_law_1259 : decode cL_law 1259 = .ok (.goto 75, 3) := by decide +kernel
theorem dL_law_1262 : decode cL_law 1262 = .ok (.aload_n 1, 1) := by decide +kernel
theorem dL_law_1263 : decode cL_law 1263 = .ok (.aload_n 0, 1) := by decide +kernel
theorem dL_law_1264 : decode cL_law 1264 = .ok (.iload 4, 2) := by decide +kernel
theorem dL_law_1266 : decode cL_law 1266 = .ok (.iconst 1, 1) := by decide +kernel
theorem dL_law_1267 : decode cL_law 1267 = .ok (.iadd, 1) := by decide +kernel
theorem dL_law_1268 : decode cL_law 1268 = .ok (.iaload, 1) := by decide +kernel
theorem dL_law_1269 : decode cL_law 1269 = .ok (.invokestatic 156, 3) := by decide +kernel
theorem dL_law_1272 : decode cL_law 1272 = .ok (.istore 5, 2) := by decide +kernel
theorem dL_law_1274 : decode cL_law 1274 = .ok (.aload_n 2, 1) := by decide +kernel
theorem dL_law_1275 : decode cL_law 1275 = .ok (.aload_n 0, 1) := by decide +kernel
theorem dL_law_1276 : decode cL_law 1276 = .ok (.iload 4, 2) := by decide +kernel
theorem dL_law_1278 : decode cL_law 1278 = .ok (.iconst 1, 1) := by decide +kernel
theorem dL_law_1279 : decode cL_law 1279 = .ok (.iadd, 1) := by decide +kernel
theorem dL_law_1280 : decode cL_law 1280 = .ok (.iaload, 1) := by decide +kernel
theorem dL_law_1281 : decode cL_law 1281 = .ok (.invokevirtual 159, 3) := by decide +kernel
theorem dL_law_1284 : decode cL_law 1284 = .ok (.aload_n 2, 1) := by decide +kernel
theorem dL_law_1285 : decode cL_law 1285 = .ok (.invokevirtual 90, 3) := by decide +kernel
theorem dL_law_1288 : decode cL_law 1288 = .ok (.iload 5, 2) := by decide +kernel
theorem dL_law_1290 : decode cL_law 1290 = .ok (.if_icmp .eq 5, 3) := by decide +kernel
theorem dL_law_1293 : decode cL_law 1293 = .ok (.iconst 0, 1) := by decide +kernel
theorem dL_law_1294 : decode cL_law 1294 = .ok (.ireturn, 1) := by decide +kernel
theorem dL_law_1295 : decode cL_law 1295 = .ok (.goto 39, 3) := by decide +kernel
theorem dL_law_1298 : decode cL_law 1298 = .ok (.aload_n 1, 1) := by decide +kernel
theorem dL_law_1299 : decode cL_law 1299 = .ok (.aload_n 0, 1) := by decide +kernel
theorem dL_law_1300 : decode cL_law 1300 = .ok (.iload 4, 2) := by decide +kernel
theorem dL_law_1302 : decode cL_law 1302 = .ok (.iconst 1, 1) := by decide +kernel
theorem dL_law_1303 : decode cL_law 1303 = .ok (.iadd, 1) := by decide +kernel
theorem dL_law_1304 : decode cL_law 1304 = .ok (.iaload, 1) := by decide +kernel
theorem dL_law_1305 : decode cL_law 1305 = .ok (.invokestatic 160, 3) := by decide +kernel
theorem dL_law_1308 : decode cL_law 1308 = .ok (.istore 5, 2) := by decide +kernel
theorem dL_law_1310 : decode cL_law 1310 = .ok (.aload_n 2, 1) := by decide +kernel
theorem dL_law_1311 : decode cL_law 1311 = .ok (.aload_n 0, 1) := by decide +kernel
theorem dL_law_1312 : decode cL_law 1312 = .ok (.iload 4, 2) := by decide +kernel
theorem dL_law_1314 : decode cL_law 1314 = .ok (.iconst 1, 1) := by decide +kernel
theorem dL_law_1315 : decode cL_law 1315 = .ok (.iadd, 1) := by decide +kernel
theorem dL_law_1316 : decode cL_law 1316 = .ok (.iaload, 1) := by decide +kernel
theorem dL_law_1317 : decode cL_law 1317 = .ok (.invokevirtual 162, 3) := by decide +kernel
theorem dL_law_1320 : decode cL_law 1320 = .ok (.aload_n 2, 1) := by decide +kernel
theorem dL_law_1321 : decode cL_law 1321 = .ok (.invokevirtual 90, 3) := by decide +kernel
theorem dL_law_1324 : decode cL_law 1324 = .ok (.iload 5, 2) := by decide +kernel
theorem dL_law_1326 : decode cL_law 1326 = .ok (.if_icmp .eq 5, 3) := by decide +kernel
theorem dL_law_1329 : decode cL_law 1329 = .ok (.iconst 0, 1) := by decide +kernel
theorem dL_law_1330 : decode cL_law 1330 = .ok (.ireturn, 1) := by decide +kernel
theorem dL_law_1331 : decode cL_law 1331 = .ok (.goto 3, 3) := by decide +kernel
theorem dL_law_1334 : decode cL_law 1334 = .ok (.iinc 4 4, 3) := by decide +kernel
theorem dL_law_1337 : decode cL_law 1337 = .ok (.goto (-1314), 3) := by decide +kernel
theorem dL_law_1340 : decode cL_law 1340 = .ok (.iconst 1, 1) := by decide +kernel
theorem dL_law_1341 : decode cL_law 1341 = .ok (.ireturn, 1) := by decide +kernel
end
