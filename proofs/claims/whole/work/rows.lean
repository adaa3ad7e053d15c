section
-- ===== PART A: goes FIRST, ahead of the names: the tables' words, and 'selects' of the private methods out of them =====
/-- a private method of a class that the tables say can be made, by its rows of tables_1 -/
def lw_okq (q : MethodName × Nat) : Prop := (q.1.cls ≠ "java/lang/invoke/MethodHandle" ∧ q.1.cls ≠ "java/lang/invoke/VarHandle") ∧ Cond.instantiable q.1.cls q.2 ∈ tables_1 ∧ Cond.privateMethod q.1 ∈ tables_1 ∧ Cond.instanceMethod q.1 ∈ tables_1
theorem lw_p0 : lw_okq (⟨"FlexibleBoxes$Layout", "spreadWidths", "(LFlexibleBoxes$Box;)V"⟩, 3) := ⟨⟨by decide +kernel, by decide +kernel⟩, List.mem_of_getElem? (i := 154) (by decide +kernel), List.mem_of_getElem? (i := 301) (by decide +kernel), List.mem_of_getElem? (i := 302) (by decide +kernel)⟩
theorem lw_p1 : lw_okq (⟨"FlexibleBoxes$Layout", "flexKids", "(LFlexibleBoxes$Box;LFlexibleBoxes$Box;ZII)V"⟩, 3) := ⟨⟨by decide +kernel, by decide +kernel⟩, List.mem_of_getElem? (i := 154) (by decide +kernel), List.mem_of_getElem? (i := 334) (by decide +kernel), List.mem_of_getElem? (i := 335) (by decide +kernel)⟩
theorem lw_p2 : lw_okq (⟨"FlexibleBoxes$Flex", "begin", "()I"⟩, 11) := ⟨⟨by decide +kernel, by decide +kernel⟩, List.mem_of_getElem? (i := 160) (by decide +kernel), List.mem_of_getElem? (i := 353) (by decide +kernel), List.mem_of_getElem? (i := 354) (by decide +kernel)⟩
theorem lw_p3 : lw_okq (⟨"FlexibleBoxes$Flex", "openFactors", "()J"⟩, 11) := ⟨⟨by decide +kernel, by decide +kernel⟩, List.mem_of_getElem? (i := 160) (by decide +kernel), List.mem_of_getElem? (i := 358) (by decide +kernel), List.mem_of_getElem? (i := 359) (by decide +kernel)⟩
theorem lw_p4 : lw_okq (⟨"FlexibleBoxes$Flex", "restOf", "(I)I"⟩, 11) := ⟨⟨by decide +kernel, by decide +kernel⟩, List.mem_of_getElem? (i := 160) (by decide +kernel), List.mem_of_getElem? (i := 362) (by decide +kernel), List.mem_of_getElem? (i := 363) (by decide +kernel)⟩
theorem lw_p5 : lw_okq (⟨"FlexibleBoxes$Flex", "propose", "(JJZ)J"⟩, 11) := ⟨⟨by decide +kernel, by decide +kernel⟩, List.mem_of_getElem? (i := 160) (by decide +kernel), List.mem_of_getElem? (i := 367) (by decide +kernel), List.mem_of_getElem? (i := 368) (by decide +kernel)⟩
theorem lw_p6 : lw_okq (⟨"FlexibleBoxes$Flex", "settle", "(J)V"⟩, 11) := ⟨⟨by decide +kernel, by decide +kernel⟩, List.mem_of_getElem? (i := 160) (by decide +kernel), List.mem_of_getElem? (i := 371) (by decide +kernel), List.mem_of_getElem? (i := 372) (by decide +kernel)⟩
theorem lw_p7 : lw_okq (⟨"FlexibleBoxes$Layout", "placeColumn", "(LFlexibleBoxes$Box;)V"⟩, 3) := ⟨⟨by decide +kernel, by decide +kernel⟩, List.mem_of_getElem? (i := 154) (by decide +kernel), List.mem_of_getElem? (i := 397) (by decide +kernel), List.mem_of_getElem? (i := 398) (by decide +kernel)⟩
theorem lw_p8 : lw_okq (⟨"FlexibleBoxes", "existing", "(I)LFlexibleBoxes$Box;"⟩, 3) := ⟨⟨by decide +kernel, by decide +kernel⟩, List.mem_of_getElem? (i := 17) (by decide +kernel), List.mem_of_getElem? (i := 440) (by decide +kernel), List.mem_of_getElem? (i := 441) (by decide +kernel)⟩
theorem lw_p9 : lw_okq (⟨"java/lang/Throwable", "fillInStackTrace", "(I)Ljava/lang/Throwable;"⟩, 6) := ⟨⟨by decide +kernel, by decide +kernel⟩, List.mem_of_getElem? (i := 483) (by decide +kernel), List.mem_of_getElem? (i := 481) (by decide +kernel), List.mem_of_getElem? (i := 482) (by decide +kernel)⟩
theorem lw_p10 : lw_okq (⟨"FlexibleBoxes", "laidOut", "(LFlexibleBoxes$Box;)LFlexibleBoxes$Box;"⟩, 3) := ⟨⟨by decide +kernel, by decide +kernel⟩, List.mem_of_getElem? (i := 17) (by decide +kernel), List.mem_of_getElem? (i := 638) (by decide +kernel), List.mem_of_getElem? (i := 639) (by decide +kernel)⟩
theorem lw_p11 : lw_okq (⟨"FlexibleBoxes$Layout", "linesAt", "(LFlexibleBoxes$Box;I)I"⟩, 3) := ⟨⟨by decide +kernel, by decide +kernel⟩, List.mem_of_getElem? (i := 154) (by decide +kernel), List.mem_of_getElem? (i := 720) (by decide +kernel), List.mem_of_getElem? (i := 721) (by decide +kernel)⟩
theorem lw_p12 : lw_okq (⟨"FlexibleBoxesModel", "make", "(I)I"⟩, 16) := ⟨⟨by decide +kernel, by decide +kernel⟩, List.mem_of_getElem? (i := 781) (by decide +kernel), List.mem_of_getElem? (i := 787) (by decide +kernel), List.mem_of_getElem? (i := 788) (by decide +kernel)⟩
theorem lw_p13 : lw_okq (⟨"FlexibleBoxesModel", "isBox", "(I)Z"⟩, 16) := ⟨⟨by decide +kernel, by decide +kernel⟩, List.mem_of_getElem? (i := 781) (by decide +kernel), List.mem_of_getElem? (i := 852) (by decide +kernel), List.mem_of_getElem? (i := 853) (by decide +kernel)⟩
theorem lw_p14 : lw_okq (⟨"FlexibleBoxesModel", "layKids", "(I)V"⟩, 16) := ⟨⟨by decide +kernel, by decide +kernel⟩, List.mem_of_getElem? (i := 781) (by decide +kernel), List.mem_of_getElem? (i := 875) (by decide +kernel), List.mem_of_getElem? (i := 876) (by decide +kernel)⟩
theorem lw_p15 : lw_okq (⟨"FlexibleBoxesModel", "isChild", "(II)Z"⟩, 16) := ⟨⟨by decide +kernel, by decide +kernel⟩, List.mem_of_getElem? (i := 781) (by decide +kernel), List.mem_of_getElem? (i := 879) (by decide +kernel), List.mem_of_getElem? (i := 880) (by decide +kernel)⟩
def lw_privs_1 : List (MethodName × Nat) := [(⟨"FlexibleBoxes$Layout", "spreadWidths", "(LFlexibleBoxes$Box;)V"⟩, 3), (⟨"FlexibleBoxes$Layout", "flexKids", "(LFlexibleBoxes$Box;LFlexibleBoxes$Box;ZII)V"⟩, 3), (⟨"FlexibleBoxes$Flex", "begin", "()I"⟩, 11), (⟨"FlexibleBoxes$Flex", "openFactors", "()J"⟩, 11), (⟨"FlexibleBoxes$Flex", "restOf", "(I)I"⟩, 11), (⟨"FlexibleBoxes$Flex", "propose", "(JJZ)J"⟩, 11), (⟨"FlexibleBoxes$Flex", "settle", "(J)V"⟩, 11), (⟨"FlexibleBoxes$Layout", "placeColumn", "(LFlexibleBoxes$Box;)V"⟩, 3), (⟨"FlexibleBoxes", "existing", "(I)LFlexibleBoxes$Box;"⟩, 3), (⟨"java/lang/Throwable", "fillInStackTrace", "(I)Ljava/lang/Throwable;"⟩, 6), (⟨"FlexibleBoxes", "laidOut", "(LFlexibleBoxes$Box;)LFlexibleBoxes$Box;"⟩, 3), (⟨"FlexibleBoxes$Layout", "linesAt", "(LFlexibleBoxes$Box;I)I"⟩, 3), (⟨"FlexibleBoxesModel", "make", "(I)I"⟩, 16), (⟨"FlexibleBoxesModel", "isBox", "(I)Z"⟩, 16), (⟨"FlexibleBoxesModel", "layKids", "(I)V"⟩, 16), (⟨"FlexibleBoxesModel", "isChild", "(II)Z"⟩, 16)]
theorem lw_r1 : ∀ q ∈ lw_privs_1, lw_okq q := List.forall_mem_cons.mpr ⟨lw_p0, List.forall_mem_cons.mpr ⟨lw_p1, List.forall_mem_cons.mpr ⟨lw_p2, List.forall_mem_cons.mpr ⟨lw_p3, List.forall_mem_cons.mpr ⟨lw_p4, List.forall_mem_cons.mpr ⟨lw_p5, List.forall_mem_cons.mpr ⟨lw_p6, List.forall_mem_cons.mpr ⟨lw_p7, List.forall_mem_cons.mpr ⟨lw_p8, List.forall_mem_cons.mpr ⟨lw_p9, List.forall_mem_cons.mpr ⟨lw_p10, List.forall_mem_cons.mpr ⟨lw_p11, List.forall_mem_cons.mpr ⟨lw_p12, List.forall_mem_cons.mpr ⟨lw_p13, List.forall_mem_cons.mpr ⟨lw_p14, List.forall_mem_cons.mpr ⟨lw_p15, fun _ h => absurd h List.not_mem_nil⟩⟩⟩⟩⟩⟩⟩⟩⟩⟩⟩⟩⟩⟩⟩⟩
theorem lw_p16 : lw_okq (⟨"FlexibleBoxesModel", "of", "(II)I"⟩, 16) := ⟨⟨by decide +kernel, by decide +kernel⟩, List.mem_of_getElem? (i := 781) (by decide +kernel), List.mem_of_getElem? (i := 883) (by decide +kernel), List.mem_of_getElem? (i := 884) (by decide +kernel)⟩
theorem lw_p17 : lw_okq (⟨"FlexibleBoxesModel", "isAhead", "(II)Z"⟩, 16) := ⟨⟨by decide +kernel, by decide +kernel⟩, List.mem_of_getElem? (i := 781) (by decide +kernel), List.mem_of_getElem? (i := 887) (by decide +kernel), List.mem_of_getElem? (i := 888) (by decide +kernel)⟩
theorem lw_p18 : lw_okq (⟨"FlexibleBoxesModel", "hasLayout", "(I)Z"⟩, 16) := ⟨⟨by decide +kernel, by decide +kernel⟩, List.mem_of_getElem? (i := 781) (by decide +kernel), List.mem_of_getElem? (i := 917) (by decide +kernel), List.mem_of_getElem? (i := 918) (by decide +kernel)⟩
theorem lw_p19 : lw_okq (⟨"FlexibleBoxesModel", "findShown", "()V"⟩, 16) := ⟨⟨by decide +kernel, by decide +kernel⟩, List.mem_of_getElem? (i := 781) (by decide +kernel), List.mem_of_getElem? (i := 921) (by decide +kernel), List.mem_of_getElem? (i := 922) (by decide +kernel)⟩
theorem lw_p20 : lw_okq (⟨"FlexibleBoxesModel", "layOut", "()V"⟩, 16) := ⟨⟨by decide +kernel, by decide +kernel⟩, List.mem_of_getElem? (i := 781) (by decide +kernel), List.mem_of_getElem? (i := 925) (by decide +kernel), List.mem_of_getElem? (i := 926) (by decide +kernel)⟩
theorem lw_p21 : lw_okq (⟨"FlexibleBoxesModel", "findNaturalWidths", "()V"⟩, 16) := ⟨⟨by decide +kernel, by decide +kernel⟩, List.mem_of_getElem? (i := 781) (by decide +kernel), List.mem_of_getElem? (i := 929) (by decide +kernel), List.mem_of_getElem? (i := 930) (by decide +kernel)⟩
theorem lw_p22 : lw_okq (⟨"FlexibleBoxesModel", "isLeaf", "(I)Z"⟩, 16) := ⟨⟨by decide +kernel, by decide +kernel⟩, List.mem_of_getElem? (i := 781) (by decide +kernel), List.mem_of_getElem? (i := 933) (by decide +kernel), List.mem_of_getElem? (i := 934) (by decide +kernel)⟩
theorem lw_p23 : lw_okq (⟨"FlexibleBoxesModel", "content", "(IIZ)I"⟩, 16) := ⟨⟨by decide +kernel, by decide +kernel⟩, List.mem_of_getElem? (i := 781) (by decide +kernel), List.mem_of_getElem? (i := 937) (by decide +kernel), List.mem_of_getElem? (i := 938) (by decide +kernel)⟩
theorem lw_p24 : lw_okq (⟨"FlexibleBoxesModel", "outer", "(II)I"⟩, 16) := ⟨⟨by decide +kernel, by decide +kernel⟩, List.mem_of_getElem? (i := 781) (by decide +kernel), List.mem_of_getElem? (i := 941) (by decide +kernel), List.mem_of_getElem? (i := 942) (by decide +kernel)⟩
theorem lw_p25 : lw_okq (⟨"FlexibleBoxesModel", "gapsOf", "(II)I"⟩, 16) := ⟨⟨by decide +kernel, by decide +kernel⟩, List.mem_of_getElem? (i := 781) (by decide +kernel), List.mem_of_getElem? (i := 945) (by decide +kernel), List.mem_of_getElem? (i := 946) (by decide +kernel)⟩
theorem lw_p26 : lw_okq (⟨"FlexibleBoxesModel", "setNatural", "(III)V"⟩, 16) := ⟨⟨by decide +kernel, by decide +kernel⟩, List.mem_of_getElem? (i := 781) (by decide +kernel), List.mem_of_getElem? (i := 949) (by decide +kernel), List.mem_of_getElem? (i := 950) (by decide +kernel)⟩
theorem lw_p27 : lw_okq (⟨"FlexibleBoxesModel", "limited", "(III)I"⟩, 16) := ⟨⟨by decide +kernel, by decide +kernel⟩, List.mem_of_getElem? (i := 781) (by decide +kernel), List.mem_of_getElem? (i := 953) (by decide +kernel), List.mem_of_getElem? (i := 954) (by decide +kernel)⟩
theorem lw_p28 : lw_okq (⟨"FlexibleBoxesModel", "findWidths", "()V"⟩, 16) := ⟨⟨by decide +kernel, by decide +kernel⟩, List.mem_of_getElem? (i := 781) (by decide +kernel), List.mem_of_getElem? (i := 957) (by decide +kernel), List.mem_of_getElem? (i := 958) (by decide +kernel)⟩
theorem lw_p29 : lw_okq (⟨"FlexibleBoxesModel", "textLines", "(I)I"⟩, 16) := ⟨⟨by decide +kernel, by decide +kernel⟩, List.mem_of_getElem? (i := 781) (by decide +kernel), List.mem_of_getElem? (i := 961) (by decide +kernel), List.mem_of_getElem? (i := 962) (by decide +kernel)⟩
theorem lw_p30 : lw_okq (⟨"FlexibleBoxesModel", "inner", "(II)I"⟩, 16) := ⟨⟨by decide +kernel, by decide +kernel⟩, List.mem_of_getElem? (i := 781) (by decide +kernel), List.mem_of_getElem? (i := 965) (by decide +kernel), List.mem_of_getElem? (i := 966) (by decide +kernel)⟩
theorem lw_p31 : lw_okq (⟨"FlexibleBoxesModel", "findColumnWidths", "(I)V"⟩, 16) := ⟨⟨by decide +kernel, by decide +kernel⟩, List.mem_of_getElem? (i := 781) (by decide +kernel), List.mem_of_getElem? (i := 972) (by decide +kernel), List.mem_of_getElem? (i := 973) (by decide +kernel)⟩
def lw_privs_2 : List (MethodName × Nat) := [(⟨"FlexibleBoxesModel", "of", "(II)I"⟩, 16), (⟨"FlexibleBoxesModel", "isAhead", "(II)Z"⟩, 16), (⟨"FlexibleBoxesModel", "hasLayout", "(I)Z"⟩, 16), (⟨"FlexibleBoxesModel", "findShown", "()V"⟩, 16), (⟨"FlexibleBoxesModel", "layOut", "()V"⟩, 16), (⟨"FlexibleBoxesModel", "findNaturalWidths", "()V"⟩, 16), (⟨"FlexibleBoxesModel", "isLeaf", "(I)Z"⟩, 16), (⟨"FlexibleBoxesModel", "content", "(IIZ)I"⟩, 16), (⟨"FlexibleBoxesModel", "outer", "(II)I"⟩, 16), (⟨"FlexibleBoxesModel", "gapsOf", "(II)I"⟩, 16), (⟨"FlexibleBoxesModel", "setNatural", "(III)V"⟩, 16), (⟨"FlexibleBoxesModel", "limited", "(III)I"⟩, 16), (⟨"FlexibleBoxesModel", "findWidths", "()V"⟩, 16), (⟨"FlexibleBoxesModel", "textLines", "(I)I"⟩, 16), (⟨"FlexibleBoxesModel", "inner", "(II)I"⟩, 16), (⟨"FlexibleBoxesModel", "findColumnWidths", "(I)V"⟩, 16)]
theorem lw_r2 : ∀ q ∈ lw_privs_2, lw_okq q := List.forall_mem_cons.mpr ⟨lw_p16, List.forall_mem_cons.mpr ⟨lw_p17, List.forall_mem_cons.mpr ⟨lw_p18, List.forall_mem_cons.mpr ⟨lw_p19, List.forall_mem_cons.mpr ⟨lw_p20, List.forall_mem_cons.mpr ⟨lw_p21, List.forall_mem_cons.mpr ⟨lw_p22, List.forall_mem_cons.mpr ⟨lw_p23, List.forall_mem_cons.mpr ⟨lw_p24, List.forall_mem_cons.mpr ⟨lw_p25, List.forall_mem_cons.mpr ⟨lw_p26, List.forall_mem_cons.mpr ⟨lw_p27, List.forall_mem_cons.mpr ⟨lw_p28, List.forall_mem_cons.mpr ⟨lw_p29, List.forall_mem_cons.mpr ⟨lw_p30, List.forall_mem_cons.mpr ⟨lw_p31, fun _ h => absurd h List.not_mem_nil⟩⟩⟩⟩⟩⟩⟩⟩⟩⟩⟩⟩⟩⟩⟩⟩
theorem lw_p32 : lw_okq (⟨"FlexibleBoxesModel", "alignment", "(I)I"⟩, 16) := ⟨⟨by decide +kernel, by decide +kernel⟩, List.mem_of_getElem? (i := 781) (by decide +kernel), List.mem_of_getElem? (i := 976) (by decide +kernel), List.mem_of_getElem? (i := 977) (by decide +kernel)⟩
theorem lw_p33 : lw_okq (⟨"FlexibleBoxesModel", "findLines", "(I)V"⟩, 16) := ⟨⟨by decide +kernel, by decide +kernel⟩, List.mem_of_getElem? (i := 781) (by decide +kernel), List.mem_of_getElem? (i := 980) (by decide +kernel), List.mem_of_getElem? (i := 981) (by decide +kernel)⟩
theorem lw_p34 : lw_okq (⟨"FlexibleBoxesModel", "endOfLine", "(II)I"⟩, 16) := ⟨⟨by decide +kernel, by decide +kernel⟩, List.mem_of_getElem? (i := 781) (by decide +kernel), List.mem_of_getElem? (i := 984) (by decide +kernel), List.mem_of_getElem? (i := 985) (by decide +kernel)⟩
theorem lw_p35 : lw_okq (⟨"FlexibleBoxesModel", "startOf", "(II)I"⟩, 16) := ⟨⟨by decide +kernel, by decide +kernel⟩, List.mem_of_getElem? (i := 781) (by decide +kernel), List.mem_of_getElem? (i := 988) (by decide +kernel), List.mem_of_getElem? (i := 989) (by decide +kernel)⟩
theorem lw_p36 : lw_okq (⟨"FlexibleBoxesModel", "baseOf", "(II)I"⟩, 16) := ⟨⟨by decide +kernel, by decide +kernel⟩, List.mem_of_getElem? (i := 781) (by decide +kernel), List.mem_of_getElem? (i := 992) (by decide +kernel), List.mem_of_getElem? (i := 993) (by decide +kernel)⟩
theorem lw_p37 : lw_okq (⟨"FlexibleBoxesModel", "flex", "(IIIII)V"⟩, 16) := ⟨⟨by decide +kernel, by decide +kernel⟩, List.mem_of_getElem? (i := 781) (by decide +kernel), List.mem_of_getElem? (i := 996) (by decide +kernel), List.mem_of_getElem? (i := 997) (by decide +kernel)⟩
theorem lw_p38 : lw_okq (⟨"FlexibleBoxesModel", "beginFlex", "(IIIII)Z"⟩, 16) := ⟨⟨by decide +kernel, by decide +kernel⟩, List.mem_of_getElem? (i := 781) (by decide +kernel), List.mem_of_getElem? (i := 1000) (by decide +kernel), List.mem_of_getElem? (i := 1001) (by decide +kernel)⟩
theorem lw_p39 : lw_okq (⟨"FlexibleBoxesModel", "propose", "(IIIIIZ)V"⟩, 16) := ⟨⟨by decide +kernel, by decide +kernel⟩, List.mem_of_getElem? (i := 781) (by decide +kernel), List.mem_of_getElem? (i := 1004) (by decide +kernel), List.mem_of_getElem? (i := 1005) (by decide +kernel)⟩
theorem lw_p40 : lw_okq (⟨"FlexibleBoxesModel", "fixSome", "(III)I"⟩, 16) := ⟨⟨by decide +kernel, by decide +kernel⟩, List.mem_of_getElem? (i := 781) (by decide +kernel), List.mem_of_getElem? (i := 1008) (by decide +kernel), List.mem_of_getElem? (i := 1009) (by decide +kernel)⟩
theorem lw_p41 : lw_okq (⟨"FlexibleBoxesModel", "deviation", "(II)I"⟩, 16) := ⟨⟨by decide +kernel, by decide +kernel⟩, List.mem_of_getElem? (i := 781) (by decide +kernel), List.mem_of_getElem? (i := 1012) (by decide +kernel), List.mem_of_getElem? (i := 1013) (by decide +kernel)⟩
theorem lw_p42 : lw_okq (⟨"FlexibleBoxesModel", "findNaturalHeights", "()V"⟩, 16) := ⟨⟨by decide +kernel, by decide +kernel⟩, List.mem_of_getElem? (i := 781) (by decide +kernel), List.mem_of_getElem? (i := 1016) (by decide +kernel), List.mem_of_getElem? (i := 1017) (by decide +kernel)⟩
theorem lw_p43 : lw_okq (⟨"FlexibleBoxesModel", "rowContent", "(I)I"⟩, 16) := ⟨⟨by decide +kernel, by decide +kernel⟩, List.mem_of_getElem? (i := 781) (by decide +kernel), List.mem_of_getElem? (i := 1020) (by decide +kernel), List.mem_of_getElem? (i := 1021) (by decide +kernel)⟩
theorem lw_p44 : lw_okq (⟨"FlexibleBoxesModel", "lineHeight", "(I)I"⟩, 16) := ⟨⟨by decide +kernel, by decide +kernel⟩, List.mem_of_getElem? (i := 781) (by decide +kernel), List.mem_of_getElem? (i := 1024) (by decide +kernel), List.mem_of_getElem? (i := 1025) (by decide +kernel)⟩
theorem lw_p45 : lw_okq (⟨"FlexibleBoxesModel", "findPlaces", "()V"⟩, 16) := ⟨⟨by decide +kernel, by decide +kernel⟩, List.mem_of_getElem? (i := 781) (by decide +kernel), List.mem_of_getElem? (i := 1028) (by decide +kernel), List.mem_of_getElem? (i := 1029) (by decide +kernel)⟩
theorem lw_p46 : lw_okq (⟨"FlexibleBoxesModel", "placeColumn", "(I)V"⟩, 16) := ⟨⟨by decide +kernel, by decide +kernel⟩, List.mem_of_getElem? (i := 781) (by decide +kernel), List.mem_of_getElem? (i := 1032) (by decide +kernel), List.mem_of_getElem? (i := 1033) (by decide +kernel)⟩
theorem lw_p47 : lw_okq (⟨"FlexibleBoxesModel", "justify", "(IIII)V"⟩, 16) := ⟨⟨by decide +kernel, by decide +kernel⟩, List.mem_of_getElem? (i := 781) (by decide +kernel), List.mem_of_getElem? (i := 1036) (by decide +kernel), List.mem_of_getElem? (i := 1037) (by decide +kernel)⟩
def lw_privs_3 : List (MethodName × Nat) := [(⟨"FlexibleBoxesModel", "alignment", "(I)I"⟩, 16), (⟨"FlexibleBoxesModel", "findLines", "(I)V"⟩, 16), (⟨"FlexibleBoxesModel", "endOfLine", "(II)I"⟩, 16), (⟨"FlexibleBoxesModel", "startOf", "(II)I"⟩, 16), (⟨"FlexibleBoxesModel", "baseOf", "(II)I"⟩, 16), (⟨"FlexibleBoxesModel", "flex", "(IIIII)V"⟩, 16), (⟨"FlexibleBoxesModel", "beginFlex", "(IIIII)Z"⟩, 16), (⟨"FlexibleBoxesModel", "propose", "(IIIIIZ)V"⟩, 16), (⟨"FlexibleBoxesModel", "fixSome", "(III)I"⟩, 16), (⟨"FlexibleBoxesModel", "deviation", "(II)I"⟩, 16), (⟨"FlexibleBoxesModel", "findNaturalHeights", "()V"⟩, 16), (⟨"FlexibleBoxesModel", "rowContent", "(I)I"⟩, 16), (⟨"FlexibleBoxesModel", "lineHeight", "(I)I"⟩, 16), (⟨"FlexibleBoxesModel", "findPlaces", "()V"⟩, 16), (⟨"FlexibleBoxesModel", "placeColumn", "(I)V"⟩, 16), (⟨"FlexibleBoxesModel", "justify", "(IIII)V"⟩, 16)]
theorem lw_r3 : ∀ q ∈ lw_privs_3, lw_okq q := List.forall_mem_cons.mpr ⟨lw_p32, List.forall_mem_cons.mpr ⟨lw_p33, List.forall_mem_cons.mpr ⟨lw_p34, List.forall_mem_cons.mpr ⟨lw_p35, List.forall_mem_cons.mpr ⟨lw_p36, List.forall_mem_cons.mpr ⟨lw_p37, List.forall_mem_cons.mpr ⟨lw_p38, List.forall_mem_cons.mpr ⟨lw_p39, List.forall_mem_cons.mpr ⟨lw_p40, List.forall_mem_cons.mpr ⟨lw_p41, List.forall_mem_cons.mpr ⟨lw_p42, List.forall_mem_cons.mpr ⟨lw_p43, List.forall_mem_cons.mpr ⟨lw_p44, List.forall_mem_cons.mpr ⟨lw_p45, List.forall_mem_cons.mpr ⟨lw_p46, List.forall_mem_cons.mpr ⟨lw_p47, fun _ h => absurd h List.not_mem_nil⟩⟩⟩⟩⟩⟩⟩⟩⟩⟩⟩⟩⟩⟩⟩⟩
theorem lw_p48 : lw_okq (⟨"FlexibleBoxesModel", "align", "(IIII)V"⟩, 16) := ⟨⟨by decide +kernel, by decide +kernel⟩, List.mem_of_getElem? (i := 781) (by decide +kernel), List.mem_of_getElem? (i := 1043) (by decide +kernel), List.mem_of_getElem? (i := 1044) (by decide +kernel)⟩
theorem lw_p49 : lw_okq (⟨"FlexibleBoxesModel", "placeRow", "(I)V"⟩, 16) := ⟨⟨by decide +kernel, by decide +kernel⟩, List.mem_of_getElem? (i := 781) (by decide +kernel), List.mem_of_getElem? (i := 1047) (by decide +kernel), List.mem_of_getElem? (i := 1048) (by decide +kernel)⟩
theorem lw_p50 : lw_okq (⟨"FlexibleBoxesModel", "setRowHeight", "(II)V"⟩, 16) := ⟨⟨by decide +kernel, by decide +kernel⟩, List.mem_of_getElem? (i := 781) (by decide +kernel), List.mem_of_getElem? (i := 1051) (by decide +kernel), List.mem_of_getElem? (i := 1052) (by decide +kernel)⟩
theorem lw_p51 : lw_okq (⟨"FlexibleBoxesModel", "end", "(II)I"⟩, 16) := ⟨⟨by decide +kernel, by decide +kernel⟩, List.mem_of_getElem? (i := 781) (by decide +kernel), List.mem_of_getElem? (i := 1087) (by decide +kernel), List.mem_of_getElem? (i := 1088) (by decide +kernel)⟩
theorem lw_p52 : lw_okq (⟨"FlexibleBoxesModel", "covers", "(III)Z"⟩, 16) := ⟨⟨by decide +kernel, by decide +kernel⟩, List.mem_of_getElem? (i := 781) (by decide +kernel), List.mem_of_getElem? (i := 1095) (by decide +kernel), List.mem_of_getElem? (i := 1096) (by decide +kernel)⟩
def lw_privs_4 : List (MethodName × Nat) := [(⟨"FlexibleBoxesModel", "align", "(IIII)V"⟩, 16), (⟨"FlexibleBoxesModel", "placeRow", "(I)V"⟩, 16), (⟨"FlexibleBoxesModel", "setRowHeight", "(II)V"⟩, 16), (⟨"FlexibleBoxesModel", "end", "(II)I"⟩, 16), (⟨"FlexibleBoxesModel", "covers", "(III)Z"⟩, 16)]
theorem lw_r4 : ∀ q ∈ lw_privs_4, lw_okq q := List.forall_mem_cons.mpr ⟨lw_p48, List.forall_mem_cons.mpr ⟨lw_p49, List.forall_mem_cons.mpr ⟨lw_p50, List.forall_mem_cons.mpr ⟨lw_p51, List.forall_mem_cons.mpr ⟨lw_p52, fun _ h => absurd h List.not_mem_nil⟩⟩⟩⟩⟩
def lw_privs : List (MethodName × Nat) := lw_privs_1 ++ (lw_privs_2 ++ (lw_privs_3 ++ (lw_privs_4)))
def lw_tbl : List Cond := k2_sels lw_privs ++ tables_1
theorem lw_privs_ok : ∀ q ∈ lw_privs, lw_okq q := by
  show ∀ q ∈ lw_privs_1 ++ (lw_privs_2 ++ (lw_privs_3 ++ (lw_privs_4))), lw_okq q
  exact List.forall_mem_append.mpr ⟨lw_r1, List.forall_mem_append.mpr ⟨lw_r2, List.forall_mem_append.mpr ⟨lw_r3, lw_r4⟩⟩⟩
-- ===== end of PART A; then your names; then what follows =====
end
section
/-! ===== BEGIN words of one list among another's, by their places ===== -/
theorem goodIn_r {big : List Cond} (ws : List Cond) (ps : List Nat) (hp : ws = ps.filterMap (fun i => big[i]?)) (h : ws.all goodWord = true) : GoodIn big ws := by
  intro w hw
  have h1 := List.all_eq_true.mp h w hw
  rw [hp] at hw
  obtain ⟨i, -, hi⟩ := List.mem_filterMap.mp hw
  have hm : w ∈ big := by first | exact List.mem_of_getElem? hi | exact List.getElem?_mem hi
  exact ⟨hm, good_of_word h1⟩
theorem goodIn_app {big a b : List Cond} (ha : GoodIn big a) (hb : GoodIn big b) : GoodIn big (a ++ b) := fun w h => (List.mem_append.mp h).elim (ha w) (hb w)
theorem goodIn_ca {big a b : List Cond} {c : Cond} (ha : GoodIn big (c :: a)) (hb : GoodIn big b) : GoodIn big (c :: (a ++ b)) := fun w h => (List.mem_cons.mp h).elim (fun e => ha w (List.mem_cons.mpr (Or.inl e))) (fun h => (List.mem_append.mp h).elim (fun h => ha w (List.mem_cons.mpr (Or.inr h))) (hb w))
theorem goodIn_sub {big ws : List Cond} (hm : ∀ w ∈ ws, w ∈ big) (h : ws.all goodWord = true) : GoodIn big ws := fun w hw => ⟨hm w hw, good_of_word (List.all_eq_true.mp h w hw)⟩
/-! ===== END ===== -/

/-! ===== BEGIN exceptions that leave a method, and their catching by the caller (launches without stack traces) ===== -/
section VXA
/-! The laws vx_back, vx_callV, vx_callS, vx_callSW, vx_throw0, vx_throwS follow proofs of the library, with one case more: JvmDerived/Free/Laws.lean (Back.of_free), Shelf42/LK1.lean (callV, callS), Shelf/KitTraced.lean (throwNew0V, throwNewS). -/
/-- where a method has thrown q: the class by its name, the cell, what was written, the world -/
def vx_T (XC : String → State → State → Prop) (st : State) (q : Addr) (t : State) (mc ms : Nat) (free : Addr → Prop) : Prop :=
  ∃ (E : String) (ce : Cell) (L : List Loc), XC E st t ∧ t.heap[q]? = some ce ∧ ce.vm = .none ∧ st.vm.findClass E = some ce.cls ∧ st.WarmedH t.vm ∧ st.sameButNew ({ t with vm := st.vm } : State) L mc ms ∧ ∀ z ∈ L, free z.base
def vx_Q (Qc : Array Value → State → Outcome → State → Prop) (XC : String → State → State → Prop) (mc ms : Nat) (free : Addr → Prop) : Array Value → State → Outcome → State → Prop := fun a st o t =>
  (Qc a st o t ∧ ∃ L, FrameEnd st o t L mc ms ∧ ∀ q ∈ L, free q.base) ∨ ∃ q, o = .threw q ∧ vx_T XC st q t mc ms free
/-- a callee that returns or throws -/
def vx_Met (l : Launch) (y : MethodName) (ws : List Cond) (rm : Room) (Pc : Array Value → State → Prop) (Qc : Array Value → State → Outcome → State → Prop) (XC : String → State → State → Prop) (mc ms : Nat) (free : Addr → Prop) : Prop :=
  MetFree l y (headSpec ws rm) Pc (fun _ _ _ _ _ => True) (vx_Q Qc XC mc ms free)
def vx_Post (XC : String → State → State → Prop) (mc ms : Nat) (free : Addr → Prop) : Pt → Array Value → Addr → Pt → Prop := fun A a q B =>
  ∃ (g : JFrame) (mk : MethodId) (t : State) (L : List Loc) (E : String) (ce : Cell), B.U.heap = t.heap ∧ B.U.vm = t.vm ∧ XC E (A.U.calling g mk a) t ∧ t.heap[q]? = some ce ∧ ce.vm = .none ∧ A.U.vm.findClass E = some ce.cls ∧ B.locs = A.locs ++ L ∧ (∀ z ∈ L, free z.base) ∧ B.cells = A.cells + mc ∧ B.slots = A.slots + ms
def vx_Back (l : Launch) (R : Room) (p : Program) (e : Env) (below : List Frame) (s : State) (sargs : Array Value) (y : MethodName) (len W9 : Nat)
    (Pre : Pt → Array Value → Prop) (Post : Pt → Array Value → Option Value → Pt → Prop) (PostX : Pt → Array Value → Addr → Pt → Prop) : Prop :=
  ∀ (m : MethodId) (meth : Method) (c : Code) (A : Pt) (g : JFrame) (ig : Instr) (mk : MethodId) (a : Array Value),
    Stand p l e R s m sargs below meth c A.U A.locs A.cells A.slots → g.method = m → g.locals.size = c.maxLocals → decode c.code g.pc = .ok (ig, len) →
    2 * g.monitorRoom + (g.stack.map fun v => v.category).sum ≤ W9 → A.U.methodNamed? y = some mk → Pre A a →
    (∃ (v : Option Value) (B : Pt), Stand p l e R s m sargs below meth c B.U B.locs B.cells B.slots ∧ Post A a v B ∧
      Steps p.tables e below (doInvoke e (A.U.setTop g) [] mk a).1 (B.U.setTop { g with pc := g.pc + len, stack := v.toList ++ g.stack })) ∨
    (∃ (q : Addr) (B : Pt), Stand p l e R s m sargs below meth c B.U B.locs B.cells B.slots ∧ PostX A a q B ∧
      Steps p.tables e below (doInvoke e (A.U.setTop g) [] mk a).1 ((B.U.setTop g).pushFrame (.throwing q)))
section Payer
variable {l : Launch} {R : Room} {p : Program} {e : Env} {below : List Frame} {s : State} {sargs : Array Value} {y : MethodName} {len W9 : Nat}
theorem vx_back {ws : List Cond} {rm : Room} {Pc : Array Value → State → Prop} {Qc : Array Value → State → Outcome → State → Prop} {XC : String → State → State → Prop} {mc ms : Nat} {free : Addr → Prop} {bytes : ByteArray} {maxL : Nat} {ret : Option FieldType}
    (hM : vx_Met l y ws rm Pc Qc XC mc ms free) (hblind : FrameBlind Pc) (hrc : rm.cells = mc) (hrs : rm.slots = ms)
    (hframes : rm.frames + 1 ≤ R.frames) (hlocals : W9 + (maxL + 11) + rm.locals ≤ R.locals)
    (hws : ∀ w ∈ ws, ∀ a' U, s.WarmedH U.vm → w.before a' U = true) (hcode : Cond.code y bytes maxL ret ∈ ws) (hinit : ∀ a' U, s.WarmedH U.vm → (Cond.initialized y.cls).before a' U = true) :
    vx_Back l R p e below s sargs y len W9 (PreOf R mc ms Pc) (PostOf Qc mc ms free) (vx_Post XC mc ms free) := by
  intro m meth c A g ig mk a X hg hsize hdg hW hn hp
  have h1 : (headSpec ws rm).pre.before a A.U = true := atoms_intro fun w hw => hws w hw _ _ X.warmed
  have h2 : (Cond.code y bytes maxL ret).before a A.U = true := hws _ hcode _ _ X.warmed
  have h3 : (Cond.initialized y.cls).before a A.U = true := hinit _ _ X.warmed
  have h4 : A.cells + (headSpec ws rm).room.cells ≤ R.cells := by rw [show (headSpec ws rm).room.cells = mc from hrc]; exact hp.1
  have h5 : A.slots + (headSpec ws rm).room.slots ≤ R.slots := by rw [show (headSpec ws rm).room.slots = ms from hrs]; exact hp.2.1
  have hPc : Pc a (A.U.calling g mk a) := hblind _ _ _ _ hp.2.2
  obtain ⟨U, Ls, c0, s0⟩ := A
  dsimp only [Pt.U, Pt.locs, Pt.cells, Pt.slots] at h1 h2 h3 h4 h5 X hn hPc ⊢
  obtain ⟨methY, cY, hmY, hcY, -, hlY, -, -, -, -⟩ := Cond.code_spec hn h2
  obtain ⟨kY, hkY, -⟩ := className_of_methodNamed hn
  have hinitY : kY.init = .initialized := Cond.initialized_spec (findClass_of_methodNamed hn) hkY h3
  have h : At U g.method c below := by rw [hg]; exact X.here
  have hlocals9 : W9 + (maxL + 11) + (headSpec ws rm).room.locals ≤ R.locals := hlocals
  have happ : (headSpec ws rm).appliesLoose y e.platform (U.calling g mk a) = true :=
    Spec.appliesLoose_calling (g := g) h hdg hn hkY hinitY
      (X.room_calling (g := g) (R' := (headSpec ws rm).room) hsize hmY hcY hframes (by rw [hlY]; omega) h4 h5) h1
  obtain ⟨mid, hmid⟩ := h.above
  have hfr : (U.setTop g).frames = (.java g :: mid) ++ below := by rw [State.frames_setTop' g h.top, hmid]; rfl
  obtain ⟨o, s₂, hsteps, -, hend, hq⟩ := Steps.callFree hM p X.admits X.cas X.clock (acts := []) hfr happ hPc trivial
  have hq' : vx_Q Qc XC mc ms free a (U.calling g mk a) o s₂ := hq
  rw [State.frames_setTop' g h.top] at hend
  obtain ⟨g₀, hg0⟩ := Option.isSome_iff_exists.mp h.top
  obtain ⟨r, hr⟩ := State.topJava?_eq_some.mp hg0
  have hr' : (({ U with heap := s₂.heap, slotsUsed := s₂.slotsUsed } : State).setVm s₂.vm).frames = .java g₀ :: r := hr
  rcases hq' with ⟨hqc, L, hfe, hL⟩ | ⟨q, rfl, E, ce, L, hx, hce, hcv, hcl, hW₂, hsm, hL⟩
  · obtain ⟨⟨v, rfl⟩, hW₂, e2, q2, q3, q4, q5, q6⟩ := id hfe
    have e3 : s₂ = ({ (U.calling g mk a).setFrames s₂.frames with heap := s₂.heap, slotsUsed := s₂.slotsUsed } : State).setVm s₂.vm := by
      have : s₂ = ({ s₂ with vm := (U.calling g mk a).vm } : State).setVm s₂.vm := rfl
      rw [e2] at this
      exact this
    obtain ⟨c₂, i₂, len₂, hc₂, hd₂, hf₂⟩ := hend
    have hW' : U.WarmedH s₂.vm := hW₂
    have hcc : c₂ = c := by
      have h1 : s₂.code? g.method = U.code? g.method := by
        rw [State.code?_eq, State.code?_eq, hW'.alike.method?]
      exact Option.some.inj (hc₂.symm.trans (h1.trans h.code))
    subst hcc
    have hlen : len₂ = len := by rw [hdg] at hd₂; cases hd₂; rfl
    subst hlen
    have hs₂ : s₂ = (({ U with heap := s₂.heap, slotsUsed := s₂.slotsUsed } : State).setVm s₂.vm).setTop { g with pc := g.pc + len₂, stack := v.toList ++ g.stack } := by
      refine e3.trans ?_
      rw [hf₂, State.calling_eq h.top, State.setFrames_setFrames, State.setTop_of_frames _ hr', hr]
      rfl
    have hsame : U.sameButNew ({ U with heap := s₂.heap, slotsUsed := s₂.slotsUsed } : State) L mc ms := by
      refine ⟨?_, q2, q3, q4, q5, q6⟩
      obtain ⟨t, ht, -⟩ := State.frames_cons hr
      show ({ U with heap := s₂.heap, slotsUsed := s₂.slotsUsed } : State) = { U.setFrames U.frames with heap := s₂.heap, slotsUsed := s₂.slotsUsed }
      rw [State.setFrames_self ht]
    subst hg
    refine Or.inl ⟨v, ⟨(({ U with heap := s₂.heap, slotsUsed := s₂.slotsUsed } : State).setVm s₂.vm), Ls ++ L, c0 + mc, s0 + ms⟩,
      ⟨X.admits, X.cas, X.clock, X.frames, X.room, X.hears, X.method, X.code, (X.here.setHeapUsed s₂.heap s₂.slotsUsed).setVm hW'.alike, X.tail, State.WarmedH.trans X.warmed hW', X.limits, X.bytes, X.same.trans (hsame.setVm s.vm)⟩,
      ⟨g, mk, s₂, L, rfl, rfl, hqc, rfl, hL, rfl, rfl⟩, ?_⟩
    show Steps p.tables e below _ ((({ U with heap := s₂.heap, slotsUsed := s₂.slotsUsed } : State).setVm s₂.vm).setTop { g with pc := g.pc + len₂, stack := v.toList ++ g.stack })
    rw [← hs₂]
    exact hsteps
  · obtain ⟨e2, q2, q3, q4, q5, q6⟩ := id hsm
    have e3 : s₂ = ({ (U.calling g mk a).setFrames s₂.frames with heap := s₂.heap, slotsUsed := s₂.slotsUsed } : State).setVm s₂.vm := by
      have : s₂ = ({ s₂ with vm := (U.calling g mk a).vm } : State).setVm s₂.vm := rfl
      rw [e2] at this
      exact this
    have hf₂ : s₂.frames = .throwing q :: .java g :: U.frames.tail := hend
    have hW' : U.WarmedH s₂.vm := hW₂
    have hs₂ : s₂ = ((({ U with heap := s₂.heap, slotsUsed := s₂.slotsUsed } : State).setVm s₂.vm).setTop g).pushFrame (.throwing q) := by
      refine e3.trans ?_
      rw [hf₂, State.calling_eq h.top, State.setFrames_setFrames, State.pushFrame, State.frames_setTop _ hr', State.setTop_of_frames _ hr', State.setFrames_setFrames, hr]
      rfl
    have hsame : U.sameButNew ({ U with heap := s₂.heap, slotsUsed := s₂.slotsUsed } : State) L mc ms := by
      refine ⟨?_, q2, q3, q4, q5, q6⟩
      obtain ⟨t, ht, -⟩ := State.frames_cons hr
      show ({ U with heap := s₂.heap, slotsUsed := s₂.slotsUsed } : State) = { U.setFrames U.frames with heap := s₂.heap, slotsUsed := s₂.slotsUsed }
      rw [State.setFrames_self ht]
    subst hg
    refine Or.inr ⟨q, ⟨(({ U with heap := s₂.heap, slotsUsed := s₂.slotsUsed } : State).setVm s₂.vm), Ls ++ L, c0 + mc, s0 + ms⟩,
      ⟨X.admits, X.cas, X.clock, X.frames, X.room, X.hears, X.method, X.code, (X.here.setHeapUsed s₂.heap s₂.slotsUsed).setVm hW'.alike, X.tail, State.WarmedH.trans X.warmed hW', X.limits, X.bytes, X.same.trans (hsame.setVm s.vm)⟩,
      ⟨g, mk, s₂, L, E, ce, rfl, rfl, hx, hce, hcv, hcl, rfl, hL, rfl, rfl⟩, ?_⟩
    show Steps p.tables e below _ (((({ U with heap := s₂.heap, slotsUsed := s₂.slotsUsed } : State).setVm s₂.vm).setTop g).pushFrame (.throwing q))
    rw [← hs₂]
    exact hsteps
end Payer
section Calls
variable {p : Program} {l : Launch} {e : Env} {R : Room} {s : State} {m : MethodId} {args : Array Value} {below : List Frame} {meth : Method} {c : Code} {T : State} {locs : List Loc} {cells slots : Nat}
theorem vx_callV (X : Stand p l e R s m args below meth c T locs cells slots) (hexec : p.tables.exec = Jvm.exec) {own C : String} {index : Nat} {y : MethodName} {bytes : ByteArray} {maxL : Nat} {ret : Option FieldType}
    (hown : s.vm.findClass own = some m.cls) (hlink : (Cond.methodLink own index y).before args s = true) (hinst : (Cond.instanceMethod y).before args s = true) (hsel : (Cond.selects C y y).before args s = true)
    (hcode : (Cond.code y bytes maxL ret).before args s = true) (hy : y.cls ≠ "java/lang/invoke/MethodHandle" ∧ y.cls ≠ "java/lang/invoke/VarHandle")
    {W9 : Nat} {Pre : Pt → Array Value → Prop} {Post : Pt → Array Value → Option Value → Pt → Prop} {PostX : Pt → Array Value → Addr → Pt → Prop} (hK : vx_Back l R p e below s args y 3 W9 Pre Post PostX)
    {b : Addr} {cellB : Cell} (hcell : T.heap[b]? = some cellB) (hobj : cellB.vm.isStatics = false) (hcls : s.vm.findClass C = some cellB.cls)
    {g : JFrame} (hg : g.method = m) (hsize : g.locals.size = c.maxLocals) {argsL rest : List Value} (hlen : ∀ sig, parseMethodDescriptor y.desc = some sig → argsL.length = sig.parameters.length)
    (hstack : g.stack = argsL.reverse ++ .ref b :: rest) (hW : 2 * g.monitorRoom + (rest.map fun v => v.category).sum ≤ W9) (hdg : decode c.code g.pc = .ok (.invokevirtual index, 3))
    (hpre : ∀ vm₁, s.WarmedH vm₁ → Pre ⟨T.setVm vm₁, locs, cells, slots⟩ (Value.ref b :: argsL).toArray) :
    (∃ (v : Option Value) (vm₁ : Vm) (B : Pt), s.WarmedH vm₁ ∧ Stand p l e R s m args below meth c B.U B.locs B.cells B.slots ∧ Post ⟨T.setVm vm₁, locs, cells, slots⟩ (Value.ref b :: argsL).toArray v B ∧
      ∀ target, Steps p.tables e below (B.U.setTop { g with pc := g.pc + 3, stack := v.toList ++ rest }) target → Steps p.tables e below (T.setTop g) target) ∨
    (∃ (q : Addr) (vm₁ : Vm) (B : Pt), s.WarmedH vm₁ ∧ Stand p l e R s m args below meth c B.U B.locs B.cells B.slots ∧ PostX ⟨T.setVm vm₁, locs, cells, slots⟩ (Value.ref b :: argsL).toArray q B ∧
      Steps p.tables e below (T.setTop g) ((B.U.setTop { g with stack := rest }).pushFrame (.throwing q))) := by
  obtain ⟨mk, methM, hnamed, hmethM, hstM, habM⟩ := Cond.instanceMethod_spec hinst
  obtain ⟨methM', cM, hmethM', -, -, -, -, -, -, hsigM⟩ := Cond.code_spec hnamed hcode
  cases hmethM.symm.trans hmethM'
  obtain ⟨c2, r2, m2, q1, q2, q3, q4, kP, hkP, hkPi⟩ := Cond.selects_spec hsel
  cases hcls.symm.trans q1
  cases (State.methodFound?_of_named hnamed hy).symm.trans q2
  cases hnamed.symm.trans q3
  have hselP : selectMethod e.platform s.vm cellB.cls mk = .method mk := by rw [Launch.admits_selectMethod X.admits]; exact q4
  obtain ⟨vm₁, X₁, hstep₁⟩ := X.invokevirtual hexec hown hlink hnamed hmethM hstM hkP hkPi hy (a := b) (cell := cellB) hcell
    (fun z h => by rw [h] at hobj; cases hobj) hselP hmethM habM hkP hkPi (g := g) hg (argsL := argsL) (rest := rest) (hlen _ hsigM) hstack hdg
  rcases hK m meth c ⟨T.setVm vm₁, locs, cells, slots⟩ { g with stack := rest } (.invokevirtual index) mk (Value.ref b :: argsL).toArray X₁ hg hsize hdg hW (X₁.named hnamed) (hpre vm₁ X₁.warmed) with ⟨v, B, X', hpost, hsteps⟩ | ⟨q, B, X', hpost, hsteps⟩
  · exact Or.inl ⟨v, vm₁, B, X₁.warmed, X', hpost, fun target h => hstep₁ _ fun acts => by rw [doInvoke_state]; exact hsteps.trans h⟩
  · exact Or.inr ⟨q, vm₁, B, X₁.warmed, X', hpost, hstep₁ _ fun acts => by rw [doInvoke_state]; exact hsteps⟩
theorem vx_callS (X : Stand p l e R s m args below meth c T locs cells slots) (hexec : p.tables.exec = Jvm.exec) {own : String} {index : Nat} {y : MethodName} {bytes : ByteArray} {maxL : Nat} {ret : Option FieldType}
    (hown : s.vm.findClass own = some m.cls) (hlink : (Cond.methodLink own index y).before args s = true) (hstat : (Cond.static y).before args s = true) (hinit : (Cond.initialized y.cls).before args s = true)
    (hcode : (Cond.code y bytes maxL ret).before args s = true) (hy : y.cls ≠ "java/lang/invoke/MethodHandle" ∧ y.cls ≠ "java/lang/invoke/VarHandle")
    {W9 : Nat} {Pre : Pt → Array Value → Prop} {Post : Pt → Array Value → Option Value → Pt → Prop} {PostX : Pt → Array Value → Addr → Pt → Prop} (hK : vx_Back l R p e below s args y 3 W9 Pre Post PostX)
    {g : JFrame} (hg : g.method = m) (hsize : g.locals.size = c.maxLocals) {argsL rest : List Value} (hlen : ∀ sig, parseMethodDescriptor y.desc = some sig → argsL.length = sig.parameters.length)
    (hstack : g.stack = argsL.reverse ++ rest) (hW : 2 * g.monitorRoom + (rest.map fun v => v.category).sum ≤ W9) (hdg : decode c.code g.pc = .ok (.invokestatic index, 3))
    (hpre : ∀ vm₁, s.WarmedH vm₁ → Pre ⟨T.setVm vm₁, locs, cells, slots⟩ argsL.toArray) :
    (∃ (v : Option Value) (vm₁ : Vm) (B : Pt), s.WarmedH vm₁ ∧ Stand p l e R s m args below meth c B.U B.locs B.cells B.slots ∧ Post ⟨T.setVm vm₁, locs, cells, slots⟩ argsL.toArray v B ∧
      ∀ target, Steps p.tables e below (B.U.setTop { g with pc := g.pc + 3, stack := v.toList ++ rest }) target → Steps p.tables e below (T.setTop g) target) ∨
    (∃ (q : Addr) (vm₁ : Vm) (B : Pt), s.WarmedH vm₁ ∧ Stand p l e R s m args below meth c B.U B.locs B.cells B.slots ∧ PostX ⟨T.setVm vm₁, locs, cells, slots⟩ argsL.toArray q B ∧
      Steps p.tables e below (T.setTop g) ((B.U.setTop { g with stack := rest }).pushFrame (.throwing q))) := by
  obtain ⟨mk, hnamed⟩ := Cond.code_named hcode
  obtain ⟨methM, cM, hmethM, -, -, -, -, -, -, hsigM⟩ := Cond.code_spec hnamed hcode
  have hstatic : methM.isStatic = true := Cond.static_spec hnamed hmethM hstat
  obtain ⟨kP, hkP, -⟩ := className_of_methodNamed hnamed
  have hinitP : kP.init = .initialized := Cond.initialized_spec (findClass_of_methodNamed hnamed) hkP hinit
  obtain ⟨vm₁, X₁, hstep₁⟩ := X.invokestatic hexec hown hlink hnamed hmethM hstatic hkP hinitP hy (g := g) hg (argsL := argsL) (rest := rest) (hlen _ hsigM) hstack hdg
  rcases hK m meth c ⟨T.setVm vm₁, locs, cells, slots⟩ { g with stack := rest } (.invokestatic index) mk argsL.toArray X₁ hg hsize hdg hW (X₁.named hnamed) (hpre vm₁ X₁.warmed) with ⟨v, B, X', hpost, hsteps⟩ | ⟨q, B, X', hpost, hsteps⟩
  · exact Or.inl ⟨v, vm₁, B, X₁.warmed, X', hpost, fun target h => hstep₁ _ fun acts => by rw [doInvoke_state]; exact hsteps.trans h⟩
  · exact Or.inr ⟨q, vm₁, B, X₁.warmed, X', hpost, hstep₁ _ fun acts => by rw [doInvoke_state]; exact hsteps⟩
end Calls
theorem vx_cls {s : State} {T : State} {vm₁ : Vm} {E : String} {k : ClassId} (hW : s.WarmedH vm₁) (h : (T.setVm vm₁).vm.findClass E = some k) : s.vm.findClass E = some k := by
  have h1 : vm₁.findClass E = some k := h
  rw [hW.alike.findClass] at h1
  exact h1
/-- the method's frame g, with q thrown over it -/
def vx_W (p : Program) (l : Launch) (e : Env) (R : Room) (s : State) (m : MethodId) (args : Array Value) (below : List Frame) (meth : Method) (c : Code) (H : Heap) (locs : List Loc) (cells slots : Nat) (Q : State → Prop) (g : JFrame) (q : Addr) : Prop :=
  ∀ T : State, T.heap = H → Stand p l e R s m args below meth c T locs cells slots → ∃ t, Steps p.tables e below ((T.setTop g).pushFrame (.throwing q)) t ∧ Q t
def vx_Run (p : Program) (l : Launch) (e : Env) (R : Room) (s : State) (m : MethodId) (args : Array Value) (below : List Frame) (meth : Method) (c : Code) (H : Heap) (locs : List Loc) (cells slots mc ms : Nat) (g : JFrame) (rest : List Value) (Qa : State → Outcome → State → Prop) (XC : String → State → State → Prop) (free : Addr → Prop) : Prop :=
  ∀ T : State, T.heap = H → Stand p l e R s m args below meth c T locs cells slots →
    (∃ (v : Option Value) (st₀ t T' : State) (L : List Loc), st₀.heap = H ∧ Stand p l e R s m args below meth c T' (locs ++ L) (cells + mc) (slots + ms) ∧ (∀ q ∈ L, free q.base) ∧ T'.heap = t.heap ∧ T'.vm = t.vm ∧ Qa st₀ (.returned v) t ∧
      Goes p e below T g T' { g with pc := g.pc + 3, stack := v.toList ++ rest }) ∨
    (∃ (q : Addr) (st₀ t T' : State) (L : List Loc) (E : String) (ce : Cell), st₀.heap = H ∧ Stand p l e R s m args below meth c T' (locs ++ L) (cells + mc) (slots + ms) ∧ (∀ z ∈ L, free z.base) ∧ T'.heap = t.heap ∧ T'.vm = t.vm ∧ XC E st₀ t ∧ t.heap[q]? = some ce ∧ ce.vm = .none ∧ s.vm.findClass E = some ce.cls ∧
      Steps p.tables e below (T.setTop g) ((T'.setTop { g with stack := rest }).pushFrame (.throwing q)))
def vx_X {S : Type} (px : S → Prop) (B : String → S → State → Prop) (A : Nat → Prop) : String → State → State → Prop := fun E st t => ∃ u : S, px u ∧ B E u t ∧ va_F A st t
section Runs
variable {p : Program} {l : Launch} {e : Env} {R : Room} {s : State} {m : MethodId} {args : Array Value} {below : List Frame} {meth : Method} {c : Code} {H : Heap} {locs : List Loc} {cells slots : Nat}
variable {y : MethodName} {bytes cc : ByteArray} {maxL nL mc ms n index : Nat} {ret : Option FieldType} {ws : List Cond} {rm : Room} {Pc : Array Value → State → Prop} {Qc : Array Value → State → Outcome → State → Prop} {XC : String → State → State → Prop} {free : Addr → Prop} {Ts : List Cond} {own C : String} {b : Addr} {As rest : List Value} {g : JFrame}
theorem vx_callBack (cb : CallB R s args own index y bytes maxL ret ws rm mc ms n) (hM : vx_Met l y ws rm Pc Qc XC mc ms free) (hbl : FrameBlind Pc) : vx_Back l R p e below s args y 3 8 (PreOf R mc ms Pc) (PostOf Qc mc ms free) (vx_Post XC mc ms free) := by
  obtain ⟨hrc, hrs, hfr, hlo, hws, hcw, -, hini, -⟩ := cb
  exact vx_back (bytes := bytes) (maxL := maxL) (ret := ret) hM hbl hrc hrs hfr hlo hws hcw (fun a' U hW => word_at hW (Or.inl (by first | rfl | simp [Cond.onTables, Cond.keeps, Cond.steady])) hini)
theorem vx_runV (S : CallFix p m c cc nL s args Ts own) (hM : vx_Met l y ws rm Pc Qc XC mc ms free) (cw : CallW R s args own C index y bytes maxL ret ws rm mc ms n) (hp : PreV s H C b Pc As)
    (hg : g.method = m) (hn : As.length = n) (hsize : g.locals.size = nL) (hstack : g.stack = As.reverse ++ .ref b :: rest) (hW : 2 * g.monitorRoom + (rest.map fun v => v.category).sum ≤ 8) (hdg : decode cc g.pc = .ok (.invokevirtual index, 3)) (hf : cells + mc ≤ R.cells ∧ slots + ms ≤ R.slots) :
    vx_Run p l e R s m args below meth c H locs cells slots mc ms g rest (Qc (Value.ref b :: As).toArray) XC free := by
  have hK : vx_Back l R p e below s args y 3 8 (PreOf R mc ms Pc) (PostOf Qc mc ms free) (vx_Post XC mc ms free) := vx_callBack cw.1 hM hp.1
  obtain ⟨⟨-, -, -, -, -, -, hcode, -, hy, hlen, hl⟩, hin, hse⟩ := cw
  obtain ⟨hx, hb, hml, ho, -⟩ := S
  obtain ⟨-, ⟨cellB, hcB, hoB, hclB⟩, hPc⟩ := hp
  intro T hT X
  rcases vx_callV X hx (C := C) (bytes := bytes) (maxL := maxL) (ret := ret) ho hl hin hse hcode hy hK (by rw [hT]; exact hcB) hoB hclB hg (hsize.trans hml.symm) (argsL := As) (rest := rest) (fun sig h => hn.trans (hlen sig h)) hstack hW (by rw [hb]; exact hdg)
    (fun vm₁ hW₁ => ⟨hf.1, hf.2, hPc (T.setVm vm₁) hT hW₁⟩) with ⟨v, vm₁, ⟨U', l2, c2, s2⟩, hW₁, X', ⟨g', mk, t, L, e1, e2, hq, h1, hL, h2, h3⟩, st⟩ | ⟨q, vm₁, ⟨U', l2, c2, s2⟩, hW₁, X', ⟨g', mk, t, L, E, ce, e1, e2, hq, hce, hcv, hcl, h1, hL, h2, h3⟩, st⟩
  · dsimp only [Pt.U, Pt.locs, Pt.cells, Pt.slots] at X' e1 e2 h1 h2 h3 st
    subst h1; subst h2; subst h3
    exact Or.inl ⟨v, (T.setVm vm₁).calling g' mk (Value.ref b :: As).toArray, t, U', L, hT, X', hL, e1, e2, hq, st⟩
  · dsimp only [Pt.U, Pt.locs, Pt.cells, Pt.slots] at X' e1 e2 h1 h2 h3 st hcl
    subst h1; subst h2; subst h3
    exact Or.inr ⟨q, (T.setVm vm₁).calling g' mk (Value.ref b :: As).toArray, t, U', L, E, ce, hT, X', hL, e1, e2, hq, hce, hcv, vx_cls hW₁ hcl, st⟩
theorem vx_runS (S : CallFix p m c cc nL s args Ts own) (hM : vx_Met l y ws rm Pc Qc XC mc ms free) (cw : CallB R s args own index y bytes maxL ret ws rm mc ms n ∧ (Cond.static y).before args s = true) (hp : PreS s H Pc As)
    (hg : g.method = m) (hn : As.length = n) (hsize : g.locals.size = nL) (hstack : g.stack = As.reverse ++ rest) (hW : 2 * g.monitorRoom + (rest.map fun v => v.category).sum ≤ 8) (hdg : decode cc g.pc = .ok (.invokestatic index, 3)) (hf : cells + mc ≤ R.cells ∧ slots + ms ≤ R.slots) :
    vx_Run p l e R s m args below meth c H locs cells slots mc ms g rest (Qc As.toArray) XC free := by
  have hK : vx_Back l R p e below s args y 3 8 (PreOf R mc ms Pc) (PostOf Qc mc ms free) (vx_Post XC mc ms free) := vx_callBack cw.1 hM hp.1
  obtain ⟨⟨-, -, -, -, -, -, hcode, hini, hy, hlen, hl⟩, hstt⟩ := cw
  obtain ⟨hx, hb, hml, ho, -⟩ := S
  intro T hT X
  rcases vx_callS X hx (bytes := bytes) (maxL := maxL) (ret := ret) ho hl hstt hini hcode hy hK hg (hsize.trans hml.symm) (argsL := As) (rest := rest) (fun sig h => hn.trans (hlen sig h)) hstack hW (by rw [hb]; exact hdg)
    (fun vm₁ hW₁ => ⟨hf.1, hf.2, hp.2 (T.setVm vm₁) hT hW₁⟩) with ⟨v, vm₁, ⟨U', l2, c2, s2⟩, hW₁, X', ⟨g', mk, t, L, e1, e2, hq, h1, hL, h2, h3⟩, st⟩ | ⟨q, vm₁, ⟨U', l2, c2, s2⟩, hW₁, X', ⟨g', mk, t, L, E, ce, e1, e2, hq, hce, hcv, hcl, h1, hL, h2, h3⟩, st⟩
  · dsimp only [Pt.U, Pt.locs, Pt.cells, Pt.slots] at X' e1 e2 h1 h2 h3 st
    subst h1; subst h2; subst h3
    exact Or.inl ⟨v, (T.setVm vm₁).calling g' mk As.toArray, t, U', L, hT, X', hL, e1, e2, hq, st⟩
  · dsimp only [Pt.U, Pt.locs, Pt.cells, Pt.slots] at X' e1 e2 h1 h2 h3 st hcl
    subst h1; subst h2; subst h3
    exact Or.inr ⟨q, (T.setVm vm₁).calling g' mk As.toArray, t, U', L, E, ce, hT, X', hL, e1, e2, hq, hce, hcv, vx_cls hW₁ hcl, st⟩
end Runs
section Rows
variable {p : Program} {l : Launch} {e : Env} {R : Room} {s : State} {m : MethodId} {args : Array Value} {below : List Frame} {meth : Method} {c : Code} {H : Heap} {locs : List Loc} {cells slots : Nat} {Q : State → Prop}
variable {mc ms : Nat} {free : Addr → Prop} {A0 A1 : Nat → Prop} {H0 : Heap} {a : Array Value} {pc : Nat} {ls : Array Slot} {st0 rest : List Value}
theorem vx_keep {st₀ t T' : State} {L : List Loc} (h0 : st₀.heap = H) (e1 : T'.heap = t.heap) (hS : va_S A0 H0 H locs) (hA : ∀ q, q < H.size → A1 q → A0 q) (hf : ∀ q, free q → A0 q) (hL : ∀ q ∈ L, free q.base) (hF : va_F A1 st₀ t) :
    H.size ≤ T'.heap.size ∧ (∀ q : Nat, q < H.size → ¬ A1 q → T'.heap[q]? = H[q]?) ∧ va_S A0 H0 T'.heap (locs ++ L) := by
  obtain ⟨hz, hk⟩ := hF
  rw [h0] at hz hk
  exact ⟨by rw [e1]; exact hz, fun q h1 h2 => by rw [e1]; exact hk q h1 h2,
    ⟨Nat.le_trans hS.1 (by rw [e1]; exact hz), fun q h1 h2 => by rw [e1, hk q (Nat.lt_of_lt_of_le h1 hS.1) (fun z => h2 (hA q (Nat.lt_of_lt_of_le h1 hS.1) z))]; exact hS.2.1 q h1 h2, fun q hq => by
      rcases List.mem_append.mp hq with h | h
      · exact hS.2.2 q h
      · exact hf _ (hL q h)⟩⟩
theorem vx_calli {S SX : Type} {post : Int32 → S → Prop} {px : SX → Prop} {B : S → State → Prop} {BX : String → SX → State → Prop} {AX : Nat → Prop} (hr : vx_Run p l e R s m args below meth c H locs cells slots mc ms (F0 m pc ls st0) rest (va_Qi post B A1 a) (vx_X px BX AX) free) (hS : va_S A0 H0 H locs) (hA : ∀ q, q < H.size → A1 q → A0 q) (hf : ∀ q, free q → A0 q) (hAX : ∀ q, q < H.size → AX q → A0 q)
    (kx : ∀ (E : String) (ce : Cell) (q9 : Addr) (u : SX) (t : State) (H1 : Heap) (locs1 : List Loc), t.heap = H1 → s.vm.Alike t.vm → px u → BX E u t → H.size ≤ H1.size → (∀ q : Nat, q < H.size → ¬ AX q → H1[q]? = H[q]?) → va_S A0 H0 H1 locs1 → H1[q9]? = some ce → ce.vm = .none → s.vm.findClass E = some ce.cls → vx_W p l e R s m args below meth c H1 locs1 (cells + mc) (slots + ms) Q (F0 m pc ls rest) q9)
    (kk : ∀ (r : Int32) (u : S) (t : State) (H1 : Heap) (locs1 : List Loc), t.heap = H1 → s.vm.Alike t.vm → post r u → B u t → H.size ≤ H1.size → (∀ q : Nat, q < H.size → ¬ A1 q → H1[q]? = H[q]?) → va_S A0 H0 H1 locs1 → W p l e R s m args below meth c H1 locs1 (cells + mc) (slots + ms) Q (F0 m (pc + 3) ls (.int r :: rest))) : W p l e R s m args below meth c H locs cells slots Q (F0 m pc ls st0) := by
  intro T hT X
  rcases hr T hT X with ⟨v, st₀, t, T', L, h0, X', hL, e1, e2, ⟨⟨r, u, hv, hp, hb⟩, hF⟩, st⟩ | ⟨q, st₀, t, T', L, E, ce, h0, X', hL, e1, e2, ⟨u, hp, hb, hF⟩, hce, hcv, hcl, st⟩
  · cases hv
    obtain ⟨k1, k2, k3⟩ := vx_keep h0 e1 hS hA hf hL hF
    obtain ⟨t2, a1, b1⟩ := kk r u t T'.heap (locs ++ L) e1.symm (by rw [← e2]; exact X'.warmed.alike) hp hb k1 k2 k3 T' rfl X'
    exact ⟨t2, st t2 a1, b1⟩
  · obtain ⟨k1, k2, k3⟩ := vx_keep h0 e1 hS hAX hf hL hF
    obtain ⟨t2, a1, b1⟩ := kx E ce q u t T'.heap (locs ++ L) e1.symm (by rw [← e2]; exact X'.warmed.alike) hp hb k1 k2 k3 (by rw [e1]; exact hce) hcv hcl T' rfl X'
    exact ⟨t2, st.trans a1, b1⟩
theorem vx_calll {S SX : Type} {post : Int64 → S → Prop} {px : SX → Prop} {B : S → State → Prop} {BX : String → SX → State → Prop} {AX : Nat → Prop} (hr : vx_Run p l e R s m args below meth c H locs cells slots mc ms (F0 m pc ls st0) rest (va_Ql post B A1 a) (vx_X px BX AX) free) (hS : va_S A0 H0 H locs) (hA : ∀ q, q < H.size → A1 q → A0 q) (hf : ∀ q, free q → A0 q) (hAX : ∀ q, q < H.size → AX q → A0 q)
    (kx : ∀ (E : String) (ce : Cell) (q9 : Addr) (u : SX) (t : State) (H1 : Heap) (locs1 : List Loc), t.heap = H1 → s.vm.Alike t.vm → px u → BX E u t → H.size ≤ H1.size → (∀ q : Nat, q < H.size → ¬ AX q → H1[q]? = H[q]?) → va_S A0 H0 H1 locs1 → H1[q9]? = some ce → ce.vm = .none → s.vm.findClass E = some ce.cls → vx_W p l e R s m args below meth c H1 locs1 (cells + mc) (slots + ms) Q (F0 m pc ls rest) q9)
    (kk : ∀ (r : Int64) (u : S) (t : State) (H1 : Heap) (locs1 : List Loc), t.heap = H1 → s.vm.Alike t.vm → post r u → B u t → H.size ≤ H1.size → (∀ q : Nat, q < H.size → ¬ A1 q → H1[q]? = H[q]?) → va_S A0 H0 H1 locs1 → W p l e R s m args below meth c H1 locs1 (cells + mc) (slots + ms) Q (F0 m (pc + 3) ls (.long r :: rest))) : W p l e R s m args below meth c H locs cells slots Q (F0 m pc ls st0) := by
  intro T hT X
  rcases hr T hT X with ⟨v, st₀, t, T', L, h0, X', hL, e1, e2, ⟨⟨r, u, hv, hp, hb⟩, hF⟩, st⟩ | ⟨q, st₀, t, T', L, E, ce, h0, X', hL, e1, e2, ⟨u, hp, hb, hF⟩, hce, hcv, hcl, st⟩
  · cases hv
    obtain ⟨k1, k2, k3⟩ := vx_keep h0 e1 hS hA hf hL hF
    obtain ⟨t2, a1, b1⟩ := kk r u t T'.heap (locs ++ L) e1.symm (by rw [← e2]; exact X'.warmed.alike) hp hb k1 k2 k3 T' rfl X'
    exact ⟨t2, st t2 a1, b1⟩
  · obtain ⟨k1, k2, k3⟩ := vx_keep h0 e1 hS hAX hf hL hF
    obtain ⟨t2, a1, b1⟩ := kx E ce q u t T'.heap (locs ++ L) e1.symm (by rw [← e2]; exact X'.warmed.alike) hp hb k1 k2 k3 (by rw [e1]; exact hce) hcv hcl T' rfl X'
    exact ⟨t2, st.trans a1, b1⟩
theorem vx_callf {S SX : Type} {post : UInt32 → S → Prop} {px : SX → Prop} {B : S → State → Prop} {BX : String → SX → State → Prop} {AX : Nat → Prop} (hr : vx_Run p l e R s m args below meth c H locs cells slots mc ms (F0 m pc ls st0) rest (va_Qf post B A1 a) (vx_X px BX AX) free) (hS : va_S A0 H0 H locs) (hA : ∀ q, q < H.size → A1 q → A0 q) (hf : ∀ q, free q → A0 q) (hAX : ∀ q, q < H.size → AX q → A0 q)
    (kx : ∀ (E : String) (ce : Cell) (q9 : Addr) (u : SX) (t : State) (H1 : Heap) (locs1 : List Loc), t.heap = H1 → s.vm.Alike t.vm → px u → BX E u t → H.size ≤ H1.size → (∀ q : Nat, q < H.size → ¬ AX q → H1[q]? = H[q]?) → va_S A0 H0 H1 locs1 → H1[q9]? = some ce → ce.vm = .none → s.vm.findClass E = some ce.cls → vx_W p l e R s m args below meth c H1 locs1 (cells + mc) (slots + ms) Q (F0 m pc ls rest) q9)
    (kk : ∀ (r : UInt32) (u : S) (t : State) (H1 : Heap) (locs1 : List Loc), t.heap = H1 → s.vm.Alike t.vm → post r u → B u t → H.size ≤ H1.size → (∀ q : Nat, q < H.size → ¬ A1 q → H1[q]? = H[q]?) → va_S A0 H0 H1 locs1 → W p l e R s m args below meth c H1 locs1 (cells + mc) (slots + ms) Q (F0 m (pc + 3) ls (.float r :: rest))) : W p l e R s m args below meth c H locs cells slots Q (F0 m pc ls st0) := by
  intro T hT X
  rcases hr T hT X with ⟨v, st₀, t, T', L, h0, X', hL, e1, e2, ⟨⟨r, u, hv, hp, hb⟩, hF⟩, st⟩ | ⟨q, st₀, t, T', L, E, ce, h0, X', hL, e1, e2, ⟨u, hp, hb, hF⟩, hce, hcv, hcl, st⟩
  · cases hv
    obtain ⟨k1, k2, k3⟩ := vx_keep h0 e1 hS hA hf hL hF
    obtain ⟨t2, a1, b1⟩ := kk r u t T'.heap (locs ++ L) e1.symm (by rw [← e2]; exact X'.warmed.alike) hp hb k1 k2 k3 T' rfl X'
    exact ⟨t2, st t2 a1, b1⟩
  · obtain ⟨k1, k2, k3⟩ := vx_keep h0 e1 hS hAX hf hL hF
    obtain ⟨t2, a1, b1⟩ := kx E ce q u t T'.heap (locs ++ L) e1.symm (by rw [← e2]; exact X'.warmed.alike) hp hb k1 k2 k3 (by rw [e1]; exact hce) hcv hcl T' rfl X'
    exact ⟨t2, st.trans a1, b1⟩
theorem vx_calld {S SX : Type} {post : UInt64 → S → Prop} {px : SX → Prop} {B : S → State → Prop} {BX : String → SX → State → Prop} {AX : Nat → Prop} (hr : vx_Run p l e R s m args below meth c H locs cells slots mc ms (F0 m pc ls st0) rest (va_Qd post B A1 a) (vx_X px BX AX) free) (hS : va_S A0 H0 H locs) (hA : ∀ q, q < H.size → A1 q → A0 q) (hf : ∀ q, free q → A0 q) (hAX : ∀ q, q < H.size → AX q → A0 q)
    (kx : ∀ (E : String) (ce : Cell) (q9 : Addr) (u : SX) (t : State) (H1 : Heap) (locs1 : List Loc), t.heap = H1 → s.vm.Alike t.vm → px u → BX E u t → H.size ≤ H1.size → (∀ q : Nat, q < H.size → ¬ AX q → H1[q]? = H[q]?) → va_S A0 H0 H1 locs1 → H1[q9]? = some ce → ce.vm = .none → s.vm.findClass E = some ce.cls → vx_W p l e R s m args below meth c H1 locs1 (cells + mc) (slots + ms) Q (F0 m pc ls rest) q9)
    (kk : ∀ (r : UInt64) (u : S) (t : State) (H1 : Heap) (locs1 : List Loc), t.heap = H1 → s.vm.Alike t.vm → post r u → B u t → H.size ≤ H1.size → (∀ q : Nat, q < H.size → ¬ A1 q → H1[q]? = H[q]?) → va_S A0 H0 H1 locs1 → W p l e R s m args below meth c H1 locs1 (cells + mc) (slots + ms) Q (F0 m (pc + 3) ls (.double r :: rest))) : W p l e R s m args below meth c H locs cells slots Q (F0 m pc ls st0) := by
  intro T hT X
  rcases hr T hT X with ⟨v, st₀, t, T', L, h0, X', hL, e1, e2, ⟨⟨r, u, hv, hp, hb⟩, hF⟩, st⟩ | ⟨q, st₀, t, T', L, E, ce, h0, X', hL, e1, e2, ⟨u, hp, hb, hF⟩, hce, hcv, hcl, st⟩
  · cases hv
    obtain ⟨k1, k2, k3⟩ := vx_keep h0 e1 hS hA hf hL hF
    obtain ⟨t2, a1, b1⟩ := kk r u t T'.heap (locs ++ L) e1.symm (by rw [← e2]; exact X'.warmed.alike) hp hb k1 k2 k3 T' rfl X'
    exact ⟨t2, st t2 a1, b1⟩
  · obtain ⟨k1, k2, k3⟩ := vx_keep h0 e1 hS hAX hf hL hF
    obtain ⟨t2, a1, b1⟩ := kx E ce q u t T'.heap (locs ++ L) e1.symm (by rw [← e2]; exact X'.warmed.alike) hp hb k1 k2 k3 (by rw [e1]; exact hce) hcv hcl T' rfl X'
    exact ⟨t2, st.trans a1, b1⟩
theorem vx_callv {S SX : Type} {post : S → Prop} {px : SX → Prop} {B : S → State → Prop} {BX : String → SX → State → Prop} {AX : Nat → Prop} (hr : vx_Run p l e R s m args below meth c H locs cells slots mc ms (F0 m pc ls st0) rest (va_Qv post B A1 a) (vx_X px BX AX) free) (hS : va_S A0 H0 H locs) (hA : ∀ q, q < H.size → A1 q → A0 q) (hf : ∀ q, free q → A0 q) (hAX : ∀ q, q < H.size → AX q → A0 q)
    (kx : ∀ (E : String) (ce : Cell) (q9 : Addr) (u : SX) (t : State) (H1 : Heap) (locs1 : List Loc), t.heap = H1 → s.vm.Alike t.vm → px u → BX E u t → H.size ≤ H1.size → (∀ q : Nat, q < H.size → ¬ AX q → H1[q]? = H[q]?) → va_S A0 H0 H1 locs1 → H1[q9]? = some ce → ce.vm = .none → s.vm.findClass E = some ce.cls → vx_W p l e R s m args below meth c H1 locs1 (cells + mc) (slots + ms) Q (F0 m pc ls rest) q9)
    (kk : ∀ (u : S) (t : State) (H1 : Heap) (locs1 : List Loc), t.heap = H1 → s.vm.Alike t.vm → post u → B u t → H.size ≤ H1.size → (∀ q : Nat, q < H.size → ¬ A1 q → H1[q]? = H[q]?) → va_S A0 H0 H1 locs1 → W p l e R s m args below meth c H1 locs1 (cells + mc) (slots + ms) Q (F0 m (pc + 3) ls (rest))) : W p l e R s m args below meth c H locs cells slots Q (F0 m pc ls st0) := by
  intro T hT X
  rcases hr T hT X with ⟨v, st₀, t, T', L, h0, X', hL, e1, e2, ⟨⟨u, hv, hp, hb⟩, hF⟩, st⟩ | ⟨q, st₀, t, T', L, E, ce, h0, X', hL, e1, e2, ⟨u, hp, hb, hF⟩, hce, hcv, hcl, st⟩
  · cases hv
    obtain ⟨k1, k2, k3⟩ := vx_keep h0 e1 hS hA hf hL hF
    obtain ⟨t2, a1, b1⟩ := kk u t T'.heap (locs ++ L) e1.symm (by rw [← e2]; exact X'.warmed.alike) hp hb k1 k2 k3 T' rfl X'
    exact ⟨t2, st t2 a1, b1⟩
  · obtain ⟨k1, k2, k3⟩ := vx_keep h0 e1 hS hAX hf hL hF
    obtain ⟨t2, a1, b1⟩ := kx E ce q u t T'.heap (locs ++ L) e1.symm (by rw [← e2]; exact X'.warmed.alike) hp hb k1 k2 k3 (by rw [e1]; exact hce) hcv hcl T' rfl X'
    exact ⟨t2, st.trans a1, b1⟩
/-- caught by the row x of this method's table; the rows ahead don't take it -/
theorem vx_catch {own name : String} {E : String} {ce : Cell} {q : Addr} (hown : s.vm.findClass own = some m.cls) (pre : List ExceptionTableEntry) (x : ExceptionTableEntry) (suf : List ExceptionTableEntry) (hsplit : c.exceptionTable.toList = pre ++ x :: suf)
    (hpass : ∀ z ∈ pre, covers z pc = false ∨ (z.catchType ≠ 0 ∧ ∃ nm : String, (Cond.classLink own z.catchType nm).before args s = true ∧ va_Nc E nm s)) (hx : covers x pc = true) (h0 : x.catchType ≠ 0)
    (hlink : (Cond.classLink own x.catchType name).before args s = true) (hcast : (Cond.castable E name).before args s = true) (hcell : H[q]? = some ce) (hv : ce.vm = .none) (hcl : s.vm.findClass E = some ce.cls)
    (kk : W p l e R s m args below meth c H locs cells slots Q (F0 m x.handlerPc ls [.ref q])) : vx_W p l e R s m args below meth c H locs cells slots Q (F0 m pc ls rest) q := by
  intro T hT X
  have hpl : e.platform.magicAccessors = ({} : Platform).magicAccessors := by rw [X.admits.platform]
  obtain ⟨c3, c4, hc3, hc4, hasg⟩ := Cond.castable_spec hcast
  cases Option.some.inj (hc3.symm.trans hcl)
  obtain ⟨c5, hc5, hcl5⟩ := Cond.classLink_spec hown hlink e.platform hpl
  cases Option.some.inj (hc4.symm.trans hc5)
  obtain ⟨vm', X', st⟩ := X.thenCaughtThrough q (g := F0 m pc ls rest) rfl (Steps.refl _) (by rw [hT]; exact hcell) (by rw [hv]; rfl) (by obtain ⟨k9, h9, -⟩ := Vm.findClass_spec hcl; exact ⟨k9, h9⟩) pre x suf hsplit
    (fun z hz => by
      rcases hpass z hz with h | ⟨hz0, nm, hl1, hn1⟩
      · exact Or.inl h
      · obtain ⟨c6, hc6, hcl6⟩ := Cond.classLink_spec hown hl1 e.platform hpl
        obtain ⟨a8, b8, h1, h2, h3⟩ := hn1
        cases Option.some.inj (h1.symm.trans hcl)
        cases Option.some.inj (h2.symm.trans hc6)
        exact Or.inr ⟨hz0, _, hcl6, h3⟩) hx (Or.inr ⟨h0, c4, hcl5, hasg⟩)
  obtain ⟨t, a1, b1⟩ := kk (T.setVm vm') hT X'
  exact ⟨t, st.trans a1, b1⟩
end Rows
section Ends
variable {p : Program} {l : Launch} {e : Env} {R : Room} {s : State} {m : MethodId} {args : Array Value} {below : List Frame} {meth : Method} {c : Code} {H : Heap} {locs : List Loc} {cells slots : Nat} {Q : State → Prop}
variable {mc ms : Nat} {free : Addr → Prop} {A0 A1 : Nat → Prop} {H0 : Heap} {a : Array Value} {ls : Array Slot} {st0 rest : List Value}
variable {Qc : Array Value → State → Outcome → State → Prop} {XC : String → State → State → Prop}
/-- what a body that may throw owes at its end -/
def vx_MQ (below : List Frame) (Qc : Array Value → State → Outcome → State → Prop) (XC : String → State → State → Prop) (a : Array Value) (s : State) (mc ms : Nat) (free : Addr → Prop) : State → Prop := fun t =>
  ∃ o, t.status = .running ∧ Ended t below o ∧ vx_Q Qc XC mc ms free a s o t
theorem vx_ret {g : JFrame} {mc ms : Nat} (k : W p l e R s m args below meth c H locs cells slots (MQ below Qc args s mc ms free) g) : W p l e R s m args below meth c H locs cells slots (vx_MQ below Qc XC args s mc ms free) g := by
  intro T hT X
  obtain ⟨t, a1, o, b1, b2, b3, b4⟩ := k T hT X
  exact ⟨t, a1, o, b1, b2, Or.inl ⟨b3, b4⟩⟩
/-- not caught here: it goes on to the caller -/
theorem vx_widen {g : JFrame} {q : Addr} {k n : Nat} (h1 : cells ≤ k) (h2 : slots ≤ n) (kk : vx_W p l e R s m args below meth c H locs k n Q g q) : vx_W p l e R s m args below meth c H locs cells slots Q g q := fun T hT X => kk T hT (stand_widen X h1 h2)
theorem vx_out {pc : Nat} {E : String} {ce : Cell} {q : Addr} {mc ms : Nat} (hout : ∀ x ∈ c.exceptionTable.toList, covers x pc = false) (hlocks : meth.locks = false) (hcell : H[q]? = some ce) (hv : ce.vm = .none) (hcl : s.vm.findClass E = some ce.cls)
    (hx : ∀ t : State, t.heap = H → s.vm.Alike t.vm → XC E s t) (hf : ∀ z ∈ locs, free z.base) (hc : cells ≤ mc) (hs : slots ≤ ms) :
    vx_W p l e R s m args below meth c H locs cells slots (vx_MQ below Qc XC args s mc ms free) (F0 m pc ls rest) q := by
  intro T hT X
  obtain ⟨st1, hrun, hend, hW, hsm⟩ := X.leaveThrown q (g := F0 m pc ls rest) rfl rfl rfl hout hlocks
  have hcell9 : (T.setFrames (.throwing q :: below)).heap[q]? = some ce := by
    show T.heap[q]? = some ce
    rw [hT]; exact hcell
  exact ⟨_, st1, .threw q, hrun, hend, Or.inr ⟨q, rfl, E, ce, locs, hx _ hT hW.alike, hcell9, hv, hcl, hW, hsm.mono hc hs, hf⟩⟩
theorem vx_frame {U : State} {k n : Nat} (h : s.sameButNew ({ U with vm := s.vm } : State) locs k n) : s.heap.size ≤ U.heap.size ∧ ∀ q : Nat, q < s.heap.size → (∀ z ∈ locs, z.base ≠ q) → U.heap[q]? = s.heap[q]? := by
  obtain ⟨-, h2, -, -, -, h6⟩ := h
  refine ⟨h2, fun q hq hz => ?_⟩
  obtain ⟨c9, e1, e2, e3, e4⟩ := h6 q _ (Array.getElem?_eq_getElem hq)
  have hs : c9.slots = (s.heap[q]).slots := Array.ext_getElem? fun i => e4 i fun hm => hz _ hm rfl
  have h9 : c9 = s.heap[q] := by
    rw [hs] at e2
    exact e2
  have e5 : U.heap[q]? = some c9 := e1
  rw [e5, h9, Array.getElem?_eq_getElem hq]
/-- the words of a throw but the four that speak of the heap -/
def vx_no (w : Cond) : Bool := decide (w ≠ .isRef (.static Bundle.tN "UNASSIGNED_STACK" Bundle.steD)) && decide (w ≠ .isRef (.static Bundle.tN "SUPPRESSED_SENTINEL" Bundle.listD)) && decide (w ≠ .laysStatic Bundle.tN "UNASSIGNED_STACK" Bundle.steD) && decide (w ≠ .laysStatic Bundle.tN "SUPPRESSED_SENTINEL" Bundle.listD)
def vx_at0 (own : String) (ic : Nat) (X : String) (names : List String) : List Cond := (Bundle.ownAtoms0 own ic X names).filter vx_no
def vx_atS (own : String) (ic : Nat) (X : String) (names : List String) : List Cond := (Bundle.ownAtoms own ic X names).filter vx_no
/-- a word that the tables alone decide, or a good one -/
def vx_ot (w : Cond) : Bool := w.onTables || goodWord w
theorem vx_ot_at {args a' : Array Value} {s U : State} {w : Cond} (hW : s.WarmedH U.vm) (hvm : s.vm = U.vm) (hg : vx_ot w = true) (h : w.before args s = true) : w.before a' U = true := by
  simp only [vx_ot, Bool.or_eq_true] at hg
  rcases hg with hg | hg
  · exact va_tabs hg hvm h
  · exact word_at hW (good_of_word hg) h
/-- a list's words: the good ones out of the method's own list, the others by premises of their own -/
theorem vx_hat {args : Array Value} {s : State} {L B : List Cond} (h1 : ∀ w ∈ L.filter goodWord, w.before args s = true) (h2 : ∀ w ∈ L.filter (fun w => !goodWord w), w ∈ B) (h3 : ∀ w ∈ B, w.before args s = true) : ∀ w ∈ L, w.before args s = true := by
  intro w hw
  by_cases g : goodWord w = true
  · exact h1 w (List.mem_filter.mpr ⟨hw, g⟩)
  · refine h3 w (h2 w (List.mem_filter.mpr ⟨hw, ?_⟩))
    show (!goodWord w) = true
    cases hgw : goodWord w
    · rfl
    · exact absurd hgw g
theorem vx_c {args : Array Value} {s : State} {w : Cond} {B : List Cond} (h : w.before args s = true) (t : ∀ w ∈ B, w.before args s = true) : ∀ w' ∈ w :: B, w'.before args s = true := fun w' h' => (List.mem_cons.mp h').elim (fun e => by rw [e]; exact h) (t w')
theorem vx_n {args : Array Value} {s : State} : ∀ w ∈ ([] : List Cond), w.before args s = true := fun _ h => nomatch h
theorem vx_own {args : Array Value} {s : State} {L : List Cond} (h1 : ∀ w ∈ L.filter vx_no, w.before args s = true)
    (hU : (Cond.isRef (.static Bundle.tN "UNASSIGNED_STACK" Bundle.steD)).before args s = true) (hN : (Cond.isRef (.static Bundle.tN "SUPPRESSED_SENTINEL" Bundle.listD)).before args s = true)
    (lU : (Cond.laysStatic Bundle.tN "UNASSIGNED_STACK" Bundle.steD).before args s = true) (lN : (Cond.laysStatic Bundle.tN "SUPPRESSED_SENTINEL" Bundle.listD).before args s = true) : ∀ w ∈ L, w.before args s = true := by
  intro w hw
  by_cases e1 : w = .isRef (.static Bundle.tN "UNASSIGNED_STACK" Bundle.steD)
  · rw [e1]; exact hU
  · by_cases e2 : w = .isRef (.static Bundle.tN "SUPPRESSED_SENTINEL" Bundle.listD)
    · rw [e2]; exact hN
    · by_cases e3 : w = .laysStatic Bundle.tN "UNASSIGNED_STACK" Bundle.steD
      · rw [e3]; exact lU
      · by_cases e4 : w = .laysStatic Bundle.tN "SUPPRESSED_SENTINEL" Bundle.listD
        · rw [e4]; exact lN
        · exact h1 w (List.mem_filter.mpr ⟨hw, by unfold vx_no; rw [decide_eq_true e1, decide_eq_true e2, decide_eq_true e3, decide_eq_true e4]; rfl⟩)
/-- where a static field lies, its class's statics cell in H -/
def vx_L (C n d : String) (A : Nat → Prop) (U : State) (H : Heap) : Prop := ∃ (c : ClassId) (k : Class) (i : Nat) (f : Field) (a : Nat) (cell : Cell), U.vm.findClass C = some c ∧ U.fieldFound? C n d = some (c, k, i, f) ∧ f.isStatic = true ∧ k.statics = some a ∧ H[a]? = some cell ∧ cell.vm.isStatics = true ∧ cell.cls = c ∧ f.slot < cell.slots.size ∧ k.staticTypes[f.slot]? = some f.type ∧ ¬ A a
theorem vx_L.moved {C n d : String} {A : Nat → Prop} {u U : State} {H : Heap} (hvm : u.vm.Alike U.vm) (h : vx_L C n d A u H) : vx_L C n d A U H := by
  obtain ⟨c, k, i, f, a, cell, h1, h2, h3, h4, h5, h6, h7, h8, h9, h10⟩ := h
  obtain ⟨k', hi', he⟩ := State.fieldFound?_setVm hvm h2
  exact ⟨c, k', i, f, a, cell, by rw [hvm.findClass]; exact h1, hi', h3, by rw [he]; exact h4, h5, h6, h7, h8, by rw [he]; exact h9, h10⟩
theorem vx_L.kept {C n d : String} {A : Nat → Prop} {U : State} {H H1 : Heap} (h : vx_L C n d A U H) (hq : ∀ a : Nat, a < H.size → ¬ A a → H1[a]? = H[a]?) : vx_L C n d A U H1 := by
  obtain ⟨c, k, i, f, a, cell, h1, h2, h3, h4, h5, h6, h7, h8, h9, h10⟩ := h
  exact ⟨c, k, i, f, a, cell, h1, h2, h3, h4, by rw [hq a (Array.getElem?_eq_some_iff.mp h5).1 h10]; exact h5, h6, h7, h8, h9, h10⟩
theorem vx_L.narrow {C n d : String} {A B : Nat → Prop} {U : State} {H : Heap} (h : vx_L C n d A U H) (hAB : ∀ q, B q → A q) : vx_L C n d B U H := by
  obtain ⟨c, k, i, f, a, cell, h1, h2, h3, h4, h5, h6, h7, h8, h9, h10⟩ := h
  exact ⟨c, k, i, f, a, cell, h1, h2, h3, h4, h5, h6, h7, h8, h9, fun z => h10 (hAB _ z)⟩
theorem vx_L.word {C n d : String} {A : Nat → Prop} {s : State} {args : Array Value} (h : vx_L C n d A s s.heap) : (Cond.laysStatic C n d).before args s = true := by
  obtain ⟨c, k, i, f, a, cell, h1, h2, h3, h4, h5, h6, h7, h8, h9, -⟩ := h
  show (Cond.laysStatic C n d).holds args s none s [] = true
  exact Cond.laysStatic_of h1 h2 h3 h4 h5 h6 h7 h8 h9
/-- .. and what it holds: null or some reference -/
def vx_Zq (C n d : String) (A : Nat → Prop) (U : State) (H : Heap) : Prop := va_Zq C n d A U H ∧ vx_L C n d A U H
theorem vx_Zq.moved {C n d : String} {A : Nat → Prop} {u U : State} {H : Heap} (hvm : u.vm.Alike U.vm) (h : vx_Zq C n d A u H) : vx_Zq C n d A U H := ⟨va_Zq.moved hvm h.1, vx_L.moved hvm h.2⟩
theorem vx_Zq.kept {C n d : String} {A : Nat → Prop} {U : State} {H H1 : Heap} (h : vx_Zq C n d A U H) (hq : ∀ a : Nat, a < H.size → ¬ A a → H1[a]? = H[a]?) : vx_Zq C n d A U H1 := ⟨va_Zq.kept h.1 hq, vx_L.kept h.2 hq⟩
theorem vx_Zq.narrow {C n d : String} {A B : Nat → Prop} {U : State} {H : Heap} (h : vx_Zq C n d A U H) (hAB : ∀ q, B q → A q) : vx_Zq C n d B U H := ⟨va_Zq.narrow h.1 hAB, vx_L.narrow h.2 hAB⟩
theorem vx_Zqof {args : Array Value} {s : State} {C n d : String} {A : Nat → Prop} (hl : (Cond.laysStatic C n d).before args s = true) (hini : (Cond.initialized C).before args s = true) (h : (Cond.isRef (.static C n d)).before args s = true) (hA : ∀ a : Nat, a < s.heap.size → ¬ A a) : vx_Zq C n d A s s.heap := by
  refine ⟨va_Zqof hl hini h hA, ?_⟩
  obtain ⟨c, k, i, f, a, cell, h1, h2, h3, h4, h5, h6, h7, h8, h9⟩ := Cond.laysStatic_spec hl
  exact ⟨c, k, i, f, a, cell, h1, h2, h3, h4, h5, h6, h7, h8, h9, hA a (Array.getElem?_eq_some_iff.mp h5).1⟩
theorem vx_isRef {C n d : String} {v : Value} {A : Nat → Prop} {s : State} {args : Array Value} (h : va_Z C n d v A s s.heap) (hv : v.isRef = true) : (Cond.isRef (.static C n d)).before args s = true := by
  obtain ⟨cf, kf, fi, f, a, cell, h1, h2, h3, h4, h5, h6, h7, -⟩ := h
  have he : (Term.static C n d).eval args s none [] s = some v := by
    simp [Term.eval, State.fieldNamed?, h1, h2, h4, h5, h6, h7]
  simp only [Cond.before, Cond.holds, Cond.value, he]
  cases v <;> simp_all [Value.isRef]
theorem vx_isRefq {C n d : String} {A : Nat → Prop} {s : State} {args : Array Value} (h : va_Zq C n d A s s.heap) : (Cond.isRef (.static C n d)).before args s = true := by
  rcases h with h | ⟨t, h⟩
  · exact vx_isRef h rfl
  · exact vx_isRef h rfl
/-- the same frame, seen from here: as if the method were called anew in this heap -/
theorem vx_rebase {T : State} (X : Stand p l e R s m args below meth c T locs cells slots) {R' : Room} (hf : R'.frames ≤ R.frames) (hl : R'.locals ≤ R.locals) (hc : cells + R'.cells ≤ R.cells) (hs : slots + R'.slots ≤ R.slots) :
    Stand p l e R' ((T.setVm s.vm).setFrames (.invoking m args :: below)) m args below meth c T [] 0 0 := by
  have htop : (T.setVm s.vm).topJava?.isSome := X.here.top
  have hF : ((T.setVm s.vm).setFrames (.invoking m args :: below)).frames = .invoking m args :: below := State.frames_setFrames _ (State.cur_lt_of_top htop)
  obtain ⟨g₀, hg0⟩ := Option.isSome_iff_exists.mp htop
  obtain ⟨r, hr⟩ := State.topJava?_eq_some.mp hg0
  have hl9 : e.platform.stackLimits (T.setVm s.vm).me = e.platform.stackLimits s.me := X.limits
  have hb9 : (T.setVm s.vm).me.stackBytes = s.me.stackBytes := X.bytes
  refine ⟨X.admits, X.cas, X.clock, hF, ?_, X.hears, X.method, X.code, X.here, X.tail, X.warmed, ?_, ?_, ?_⟩
  · have h := X.room
    have hU : ((T.setVm s.vm).setFrames (.invoking m args :: below)).localsInUse = s.localsInUse := by
      rw [State.localsInUse_invoking hF (meth := meth) (c := c) X.method X.code, State.localsInUse_invoking X.frames X.method X.code]
    simp only [State.hasRoom, Bool.and_eq_true, decide_eq_true_eq] at h ⊢
    obtain ⟨⟨⟨⟨h1, h2, h3, h4, h5, h6⟩, h7⟩, h8⟩, h9⟩ := h
    rw [X.frames, List.length_cons] at h2 h3
    have q1 := X.heapSize
    have q2 := X.used
    simp only [hF, hU, List.length_cons, State.stackLimits_setFrames, State.stackBytes_setFrames, hl9, hb9]
    refine ⟨⟨⟨⟨by omega, by omega, by omega, by omega, by omega, h6⟩, ?_⟩, ?_⟩, X.book⟩
    · show T.heap.size + R'.cells ≤ e.platform.maxCells
      omega
    · show T.slotsUsed + R'.slots ≤ e.platform.maxSlots
      omega
  · rw [State.stackLimits_setFrames]; rfl
  · rw [State.stackBytes_setFrames]; rfl
  · refine ⟨?_, Nat.le_refl _, Nat.le_refl _, ?_, ?_, fun a c9 h9 => ⟨c9, h9, rfl, rfl, fun _ _ => rfl⟩⟩
    · obtain ⟨t, ht, -⟩ := State.frames_cons hr
      show T.setVm s.vm = { ((T.setVm s.vm).setFrames (.invoking m args :: below)).setFrames (T.setVm s.vm).frames with heap := T.heap, slotsUsed := T.slotsUsed }
      rw [State.setFrames_setFrames, State.setFrames_self ht]
      rfl
    · show T.slotsUsed = T.slotsUsed + ((T.heap.toList.drop T.heap.size).map (·.slots.size)).sum
      rw [List.drop_eq_nil_of_le (Nat.le_of_eq Array.length_toList)]
      rfl
    · show ((T.heap.toList.drop T.heap.size).map (·.slots.size)).sum ≤ 0
      rw [List.drop_eq_nil_of_le (Nat.le_of_eq Array.length_toList)]
      exact Nat.le_refl _
/-- 'throw new E()': new; dup; invokespecial; athrow -/
theorem vx_throw0 {cc : ByteArray} {pc : Nat} (hexec : p.tables.exec = Jvm.exec) (hb : c.code = cc) (hl : l.stackTraces = false) {own cls : String} {names : List String} {ik ic mc ms : Nat} {A : Nat → Prop}
    (hown : s.vm.findClass own = some m.cls) (hcls : Bundle.fit cls = true) (hnames : ∀ n ∈ names, Bundle.fit n = true)
    (hk : (Cond.classLink own ik cls).before args s = true) (hini : (Cond.initialized cls).before args s = true) (hat : ∀ w ∈ vx_at0 own ic cls names, w.before args s = true)
    (hgood : ∀ w ∈ Cond.classLink own ik cls :: Cond.initialized cls :: vx_at0 own ic cls names, vx_ot w = true)
    (hU : vx_Zq Bundle.tN "UNASSIGNED_STACK" Bundle.steD A s s.heap) (hN : vx_Zq Bundle.tN "SUPPRESSED_SENTINEL" Bundle.listD A s s.heap) (hS : va_S A s.heap H locs) (hsize : ls.size = c.maxLocals)
    (d0 : decode cc pc = .ok (.new ik, 3)) (d3 : decode cc (pc + 3) = .ok (.dup, 1)) (d4 : decode cc (pc + 4) = .ok (.invokespecial ic, 3)) (d7 : decode cc (pc + 7) = .ok (.athrow, 1))
    (hout : ∀ x ∈ c.exceptionTable.toList, covers x (pc + 7) = false)
    (hRframes : names.length + 3 < R.frames) (hRlocals : (rest.map fun v => v.category).sum + (13 * (names.length + 1) + 42) ≤ R.locals) (hRcells : cells + 1 ≤ R.cells) (hRslots : slots + 6 ≤ R.slots) (hlocks : meth.locks = false)
    (hx : ∀ t : State, s.vm.Alike t.vm → H.size ≤ t.heap.size → (∀ q : Nat, q < H.size → t.heap[q]? = H[q]?) → XC cls s t)
    (hf : ∀ z ∈ locs, free z.base) (hc : cells + 1 ≤ mc) (hs : slots + 6 ≤ ms) :
    W p l e R s m args below meth c H locs cells slots (vx_MQ below Qc XC args s mc ms free) (F0 m pc ls rest) := by
  intro T hT X
  have htr : e.platform.stackTraces = false := (show e.platform.stackTraces = l.stackTraces by rw [X.admits.platform]).trans hl
  have Y := vx_rebase X (R' := { frames := R.frames, locals := R.locals, cells := 1, slots := 6 }) (Nat.le_refl _) (Nat.le_refl _) hRcells hRslots
  obtain ⟨s', hA⟩ : ∃ z, z = (T.setVm s.vm).setFrames (.invoking m args :: below) := ⟨_, rfl⟩
  rw [← hA] at Y
  have hvm : s'.vm = s.vm := by rw [hA]; rfl
  have hhp : s'.heap = H := by rw [hA]; exact hT
  have hW0 : s.WarmedH s'.vm := by rw [hvm]; exact State.WarmedH.refl s
  have hat' : ∀ w ∈ vx_at0 own ic cls names, w.before args s' = true := fun w hw => vx_ot_at hW0 hvm.symm (hgood w (List.mem_cons_of_mem _ (List.mem_cons_of_mem _ hw))) (hat w hw)
  have hk' : (Cond.classLink own ik cls).before args s' = true := vx_ot_at hW0 hvm.symm (hgood _ List.mem_cons_self) hk
  have hini' : (Cond.initialized cls).before args s' = true := vx_ot_at hW0 hvm.symm (hgood _ (List.mem_cons_of_mem _ List.mem_cons_self)) hini
  have hU' : vx_Zq Bundle.tN "UNASSIGNED_STACK" Bundle.steD A s' s'.heap := by rw [hhp]; exact vx_Zq.moved hW0.alike (hU.kept hS.2.1)
  have hN' : vx_Zq Bundle.tN "SUPPRESSED_SENTINEL" Bundle.listD A s' s'.heap := by rw [hhp]; exact vx_Zq.moved hW0.alike (hN.kept hS.2.1)
  have h : ∀ w ∈ Bundle.ownAtoms0 own ic cls names, w.before args s' = true := vx_own hat' (vx_isRefq hU'.1) (vx_isRefq hN'.1) hU'.2.word hN'.2.word
  have hown' : s'.vm.findClass own = some m.cls := by rw [hvm]; exact hown
  have hins : (Cond.instantiable cls 6).before args s' = true := h _ (by simp [Bundle.ownAtoms0])
  obtain ⟨vm₁, cX, kX, hfX, hkX, -, -, X₁, st1⟩ := Y.newCold hexec (own := own) (C := cls) (index := ik) (n := 6) hown' hk' hins hini'
    (g := F0 m pc ls rest) rfl (by rw [hb]; exact d0) (Nat.le_refl _) (Nat.le_refl _)
  generalize hT1 : (T.setVm vm₁).pushCell { cls := cX, slots := kX.instanceTypes.map defaultValue, vm := .none } = T1 at X₁ st1
  have hcat : (Value.ref T.heap.size).category = 1 := rfl
  have hcellA : T1.heap[T.heap.size]? = some (freshCell cX kX) := by rw [← hT1]; exact State.heap_pushCell_size _ _
  have d3' : decode c.code (pc + 3) = .ok (.dup, 1) := by rw [hb]; exact d3
  obtain ⟨U, hsteps, hrun, hend, hW, hsame, ce, hce, hO⟩ := X₁.ctorThrow0 hexec htr (own := own) (cls := cls) (names := names) (ic := ic) hown' hcls hnames h (fun x hx => nomatch hx) hfX hkX hcellA (by rw [hhp, hT]; exact Nat.le_refl _)
    (g := { method := m, pc := pc + 4, locals := ls, stack := .ref T.heap.size :: .ref T.heap.size :: rest, locked := none }) rfl hsize rfl rfl (rest := rest) rfl
    (by rw [hb]; exact d4) (by rw [hb]; exact d7) hout hRframes (by simp only [List.map_cons, List.sum_cons, hcat]; omega) hlocks
  obtain ⟨f1, f2⟩ := vx_frame hsame
  rw [hhp] at f1 f2
  have hWs : s.WarmedH U.vm := State.WarmedH.trans hW0 hW
  have hcl : s.vm.findClass cls = some ce.cls := by
    have h9 := hO.cls
    rw [hvm] at h9
    exact h9
  have hall : s.sameButNew ({ U with vm := s.vm } : State) locs mc ms := by
    subst hA
    obtain ⟨e1, e2⟩ := hsame
    rw [State.setFrames_setFrames] at e1
    have h2 : (T.setVm s.vm).sameButNew ({ U with vm := s.vm } : State) [] (0 + 1) (0 + 6) := ⟨e1, e2⟩
    have h3 := X.same.trans h2
    rw [List.append_nil] at h3
    exact h3.mono hc hs
  refine ⟨U, ?_, .threw T.heap.size, hrun, hend, Or.inr ⟨T.heap.size, rfl, cls, ce, locs, hx U hWs.alike f1 (fun q hq => f2 q hq (fun z hz => nomatch hz)), hce, hO.vm, hcl, hWs, hall, hf⟩⟩
  refine st1 _ ?_
  show Steps p.tables e below (T1.setTop { method := m, pc := pc + 3, locals := ls, stack := .ref T.heap.size :: rest, locked := none }) _
  jvm_step X₁.here [X₁.here.top, hexec, d3', Value.category]
  exact hsteps
/-- 'throw new E("text")': new; dup; ldc; invokespecial; athrow -/
theorem vx_throwS {cc : ByteArray} {pc : Nat} (hexec : p.tables.exec = Jvm.exec) (hb : c.code = cc) (hl : l.stackTraces = false) {own cls text : String} {names : List String} {ik is ic mc ms sa : Nat} {A : Nat → Prop}
    (hown : s.vm.findClass own = some m.cls) (hcls : Bundle.fit cls = true) (hnames : ∀ n ∈ names, Bundle.fit n = true)
    (hk : (Cond.classLink own ik cls).before args s = true) (hini : (Cond.initialized cls).before args s = true) (hstr : vk_R own is text sa s) (hat : ∀ w ∈ vx_atS own ic cls names, w.before args s = true)
    (hgood : ∀ w ∈ Cond.classLink own ik cls :: Cond.initialized cls :: vx_atS own ic cls names, vx_ot w = true)
    (hU : vx_Zq Bundle.tN "UNASSIGNED_STACK" Bundle.steD A s s.heap) (hN : vx_Zq Bundle.tN "SUPPRESSED_SENTINEL" Bundle.listD A s s.heap) (hS : va_S A s.heap H locs) (hsize : ls.size = c.maxLocals)
    (d0 : decode cc pc = .ok (.new ik, 3)) (d3 : decode cc (pc + 3) = .ok (.dup, 1)) (d4 : decode cc (pc + 4) = .ok (.ldc is, 2)) (d6 : decode cc (pc + 6) = .ok (.invokespecial ic, 3)) (d9 : decode cc (pc + 9) = .ok (.athrow, 1))
    (hout : ∀ x ∈ c.exceptionTable.toList, covers x (pc + 9) = false)
    (hRframes : names.length + 3 < R.frames) (hRlocals : (rest.map fun v => v.category).sum + (13 * (names.length + 1) + 43) ≤ R.locals) (hRcells : cells + 1 ≤ R.cells) (hRslots : slots + 6 ≤ R.slots) (hlocks : meth.locks = false)
    (hx : ∀ t : State, s.vm.Alike t.vm → H.size ≤ t.heap.size → (∀ q : Nat, q < H.size → t.heap[q]? = H[q]?) → XC cls s t)
    (hf : ∀ z ∈ locs, free z.base) (hc : cells + 1 ≤ mc) (hs : slots + 6 ≤ ms) :
    W p l e R s m args below meth c H locs cells slots (vx_MQ below Qc XC args s mc ms free) (F0 m pc ls rest) := by
  intro T hT X
  have htr : e.platform.stackTraces = false := (show e.platform.stackTraces = l.stackTraces by rw [X.admits.platform]).trans hl
  have Y := vx_rebase X (R' := { frames := R.frames, locals := R.locals, cells := 1, slots := 6 }) (Nat.le_refl _) (Nat.le_refl _) hRcells hRslots
  obtain ⟨s', hA⟩ : ∃ z, z = (T.setVm s.vm).setFrames (.invoking m args :: below) := ⟨_, rfl⟩
  rw [← hA] at Y
  have hvm : s'.vm = s.vm := by rw [hA]; rfl
  have hhp : s'.heap = H := by rw [hA]; exact hT
  have hW0 : s.WarmedH s'.vm := by rw [hvm]; exact State.WarmedH.refl s
  have hat' : ∀ w ∈ vx_atS own ic cls names, w.before args s' = true := fun w hw => vx_ot_at hW0 hvm.symm (hgood w (List.mem_cons_of_mem _ (List.mem_cons_of_mem _ hw))) (hat w hw)
  have hk' : (Cond.classLink own ik cls).before args s' = true := vx_ot_at hW0 hvm.symm (hgood _ List.mem_cons_self) hk
  have hini' : (Cond.initialized cls).before args s' = true := vx_ot_at hW0 hvm.symm (hgood _ (List.mem_cons_of_mem _ List.mem_cons_self)) hini
  have hU' : vx_Zq Bundle.tN "UNASSIGNED_STACK" Bundle.steD A s' s'.heap := by rw [hhp]; exact vx_Zq.moved hW0.alike (hU.kept hS.2.1)
  have hN' : vx_Zq Bundle.tN "SUPPRESSED_SENTINEL" Bundle.listD A s' s'.heap := by rw [hhp]; exact vx_Zq.moved hW0.alike (hN.kept hS.2.1)
  have h : ∀ w ∈ Bundle.ownAtoms own ic cls names, w.before args s' = true := vx_own hat' (vx_isRefq hU'.1) (vx_isRefq hN'.1) hU'.2.word hN'.2.word
  have hown' : s'.vm.findClass own = some m.cls := by rw [hvm]; exact hown
  have hins : (Cond.instantiable cls 6).before args s' = true := h _ (by simp [Bundle.ownAtoms])
  obtain ⟨vm₁, cX, kX, hfX, hkX, -, -, X₁, st1⟩ := Y.newCold hexec (own := own) (C := cls) (index := ik) (n := 6) hown' hk' hins hini'
    (g := F0 m pc ls rest) rfl (by rw [hb]; exact d0) (Nat.le_refl _) (Nat.le_refl _)
  generalize hT1 : (T.setVm vm₁).pushCell { cls := cX, slots := kX.instanceTypes.map defaultValue, vm := .none } = T1 at X₁ st1
  have hcat : (Value.ref T.heap.size).category = 1 := rfl
  have hcellA : T1.heap[T.heap.size]? = some (freshCell cX kX) := by rw [← hT1]; exact State.heap_pushCell_size _ _
  have d3' : decode c.code (pc + 3) = .ok (.dup, 1) := by rw [hb]; exact d3
  have d4' : decode c.code (pc + 4) = .ok (.ldc is, 2) := by rw [hb]; exact d4
  have hstr' : vk_R own is text sa s' := vk_R.warm hW0 hstr
  obtain ⟨U, hsteps, hrun, hend, hW, hsame, ce, hce, hO⟩ := X₁.ctorThrowS hexec htr (own := own) (cls := cls) (names := names) (ic := ic) hown' hcls hnames h (fun x hx => nomatch hx) hfX hkX hcellA (by rw [hhp, hT]; exact Nat.le_refl _) (msg := .ref sa) rfl
    (g := { method := m, pc := pc + 6, locals := ls, stack := .ref sa :: .ref T.heap.size :: .ref T.heap.size :: rest, locked := none }) rfl hsize rfl rfl (rest := rest) rfl
    (by rw [hb]; exact d6) (by rw [hb]; exact d9) hout hRframes (by simp only [List.map_cons, List.sum_cons, hcat]; omega) hlocks
  obtain ⟨f1, f2⟩ := vx_frame hsame
  rw [hhp] at f1 f2
  have hWs : s.WarmedH U.vm := State.WarmedH.trans hW0 hW
  have hcl : s.vm.findClass cls = some ce.cls := by
    have h9 := hO.cls
    rw [hvm] at h9
    exact h9
  have hall : s.sameButNew ({ U with vm := s.vm } : State) locs mc ms := by
    subst hA
    obtain ⟨e1, e2⟩ := hsame
    rw [State.setFrames_setFrames] at e1
    have h2 : (T.setVm s.vm).sameButNew ({ U with vm := s.vm } : State) [] (0 + 1) (0 + 6) := ⟨e1, e2⟩
    have h3 := X.same.trans h2
    rw [List.append_nil] at h3
    exact h3.mono hc hs
  refine ⟨U, ?_, .threw T.heap.size, hrun, hend, Or.inr ⟨T.heap.size, rfl, cls, ce, locs, hx U hWs.alike f1 (fun q hq => f2 q hq (fun z hz => nomatch hz)), hce, hO.vm, hcl, hWs, hall, hf⟩⟩
  refine st1 _ ?_
  show Steps p.tables e below (T1.setTop { method := m, pc := pc + 3, locals := ls, stack := .ref T.heap.size :: rest, locked := none }) _
  jvm_step X₁.here [X₁.here.top, hexec, d3', Value.category]
  exact X₁.ldcString hexec (own := own) (text := text) (index := is) (a := sa) hown' hstr'.1 hstr'.2
    (g := { method := m, pc := pc + 4, locals := ls, stack := .ref T.heap.size :: .ref T.heap.size :: rest, locked := none }) rfl d4' _ hsteps
/-- 'throw new E("text")', the text by a wide index -/
theorem vx_throwSW {cc : ByteArray} {pc : Nat} (hexec : p.tables.exec = Jvm.exec) (hb : c.code = cc) (hl : l.stackTraces = false) {own cls text : String} {names : List String} {ik is ic mc ms sa : Nat} {A : Nat → Prop}
    (hown : s.vm.findClass own = some m.cls) (hcls : Bundle.fit cls = true) (hnames : ∀ n ∈ names, Bundle.fit n = true)
    (hk : (Cond.classLink own ik cls).before args s = true) (hini : (Cond.initialized cls).before args s = true) (hstr : vk_R own is text sa s) (hat : ∀ w ∈ vx_atS own ic cls names, w.before args s = true)
    (hgood : ∀ w ∈ Cond.classLink own ik cls :: Cond.initialized cls :: vx_atS own ic cls names, vx_ot w = true)
    (hU : vx_Zq Bundle.tN "UNASSIGNED_STACK" Bundle.steD A s s.heap) (hN : vx_Zq Bundle.tN "SUPPRESSED_SENTINEL" Bundle.listD A s s.heap) (hS : va_S A s.heap H locs) (hsize : ls.size = c.maxLocals)
    (d0 : decode cc pc = .ok (.new ik, 3)) (d3 : decode cc (pc + 3) = .ok (.dup, 1)) (d4 : decode cc (pc + 4) = .ok (.ldc_w is, 3)) (d7 : decode cc (pc + 7) = .ok (.invokespecial ic, 3)) (d10 : decode cc (pc + 10) = .ok (.athrow, 1))
    (hout : ∀ x ∈ c.exceptionTable.toList, covers x (pc + 10) = false)
    (hRframes : names.length + 3 < R.frames) (hRlocals : (rest.map fun v => v.category).sum + (13 * (names.length + 1) + 43) ≤ R.locals) (hRcells : cells + 1 ≤ R.cells) (hRslots : slots + 6 ≤ R.slots) (hlocks : meth.locks = false)
    (hx : ∀ t : State, s.vm.Alike t.vm → H.size ≤ t.heap.size → (∀ q : Nat, q < H.size → t.heap[q]? = H[q]?) → XC cls s t)
    (hf : ∀ z ∈ locs, free z.base) (hc : cells + 1 ≤ mc) (hs : slots + 6 ≤ ms) :
    W p l e R s m args below meth c H locs cells slots (vx_MQ below Qc XC args s mc ms free) (F0 m pc ls rest) := by
  intro T hT X
  have htr : e.platform.stackTraces = false := (show e.platform.stackTraces = l.stackTraces by rw [X.admits.platform]).trans hl
  have Y := vx_rebase X (R' := { frames := R.frames, locals := R.locals, cells := 1, slots := 6 }) (Nat.le_refl _) (Nat.le_refl _) hRcells hRslots
  obtain ⟨s', hA⟩ : ∃ z, z = (T.setVm s.vm).setFrames (.invoking m args :: below) := ⟨_, rfl⟩
  rw [← hA] at Y
  have hvm : s'.vm = s.vm := by rw [hA]; rfl
  have hhp : s'.heap = H := by rw [hA]; exact hT
  have hW0 : s.WarmedH s'.vm := by rw [hvm]; exact State.WarmedH.refl s
  have hat' : ∀ w ∈ vx_atS own ic cls names, w.before args s' = true := fun w hw => vx_ot_at hW0 hvm.symm (hgood w (List.mem_cons_of_mem _ (List.mem_cons_of_mem _ hw))) (hat w hw)
  have hk' : (Cond.classLink own ik cls).before args s' = true := vx_ot_at hW0 hvm.symm (hgood _ List.mem_cons_self) hk
  have hini' : (Cond.initialized cls).before args s' = true := vx_ot_at hW0 hvm.symm (hgood _ (List.mem_cons_of_mem _ List.mem_cons_self)) hini
  have hU' : vx_Zq Bundle.tN "UNASSIGNED_STACK" Bundle.steD A s' s'.heap := by rw [hhp]; exact vx_Zq.moved hW0.alike (hU.kept hS.2.1)
  have hN' : vx_Zq Bundle.tN "SUPPRESSED_SENTINEL" Bundle.listD A s' s'.heap := by rw [hhp]; exact vx_Zq.moved hW0.alike (hN.kept hS.2.1)
  have h : ∀ w ∈ Bundle.ownAtoms own ic cls names, w.before args s' = true := vx_own hat' (vx_isRefq hU'.1) (vx_isRefq hN'.1) hU'.2.word hN'.2.word
  have hown' : s'.vm.findClass own = some m.cls := by rw [hvm]; exact hown
  have hins : (Cond.instantiable cls 6).before args s' = true := h _ (by simp [Bundle.ownAtoms])
  obtain ⟨vm₁, cX, kX, hfX, hkX, -, -, X₁, st1⟩ := Y.newCold hexec (own := own) (C := cls) (index := ik) (n := 6) hown' hk' hins hini'
    (g := F0 m pc ls rest) rfl (by rw [hb]; exact d0) (Nat.le_refl _) (Nat.le_refl _)
  generalize hT1 : (T.setVm vm₁).pushCell { cls := cX, slots := kX.instanceTypes.map defaultValue, vm := .none } = T1 at X₁ st1
  have hcat : (Value.ref T.heap.size).category = 1 := rfl
  have hcellA : T1.heap[T.heap.size]? = some (freshCell cX kX) := by rw [← hT1]; exact State.heap_pushCell_size _ _
  have d3' : decode c.code (pc + 3) = .ok (.dup, 1) := by rw [hb]; exact d3
  have d4' : decode c.code (pc + 4) = .ok (.ldc_w is, 3) := by rw [hb]; exact d4
  have hstr' : vk_R own is text sa s' := vk_R.warm hW0 hstr
  obtain ⟨U, hsteps, hrun, hend, hW, hsame, ce, hce, hO⟩ := X₁.ctorThrowS hexec htr (own := own) (cls := cls) (names := names) (ic := ic) hown' hcls hnames h (fun x hx => nomatch hx) hfX hkX hcellA (by rw [hhp, hT]; exact Nat.le_refl _) (msg := .ref sa) rfl
    (g := { method := m, pc := pc + 7, locals := ls, stack := .ref sa :: .ref T.heap.size :: .ref T.heap.size :: rest, locked := none }) rfl hsize rfl rfl (rest := rest) rfl
    (by rw [hb]; exact d7) (by rw [hb]; exact d10) hout hRframes (by simp only [List.map_cons, List.sum_cons, hcat]; omega) hlocks
  obtain ⟨f1, f2⟩ := vx_frame hsame
  rw [hhp] at f1 f2
  have hWs : s.WarmedH U.vm := State.WarmedH.trans hW0 hW
  have hcl : s.vm.findClass cls = some ce.cls := by
    have h9 := hO.cls
    rw [hvm] at h9
    exact h9
  have hall : s.sameButNew ({ U with vm := s.vm } : State) locs mc ms := by
    subst hA
    obtain ⟨e1, e2⟩ := hsame
    rw [State.setFrames_setFrames] at e1
    have h2 : (T.setVm s.vm).sameButNew ({ U with vm := s.vm } : State) [] (0 + 1) (0 + 6) := ⟨e1, e2⟩
    have h3 := X.same.trans h2
    rw [List.append_nil] at h3
    exact h3.mono hc hs
  refine ⟨U, ?_, .threw T.heap.size, hrun, hend, Or.inr ⟨T.heap.size, rfl, cls, ce, locs, hx U hWs.alike f1 (fun q hq => f2 q hq (fun z hz => nomatch hz)), hce, hO.vm, hcl, hWs, hall, hf⟩⟩
  refine st1 _ ?_
  show Steps p.tables e below (T1.setTop { method := m, pc := pc + 3, locals := ls, stack := .ref T.heap.size :: rest, locked := none }) _
  jvm_step X₁.here [X₁.here.top, hexec, d3', Value.category]
  exact X₁.ldcStringW hexec (own := own) (text := text) (index := is) (a := sa) hown' hstr'.1 hstr'.2
    (g := { method := m, pc := pc + 4, locals := ls, stack := .ref T.heap.size :: .ref T.heap.size :: rest, locked := none }) rfl d4' _ hsteps
end Ends
section Bodies
variable {l : Launch}
theorem vx_ofW {y : MethodName} {ws ws' : List Cond} {rm : Room} {Pc : Array Value → State → Prop} {Qc : Array Value → State → Outcome → State → Prop} {XC : String → State → State → Prop} {mc ms : Nat} {free : Addr → Prop} {cc : ByteArray} {maxL : Nat} {ret : Option FieldType}
    (hy : plainName y.cls = true) (hw : ws = Cond.code y cc maxL ret :: ws')
    (body : ∀ p e s m args below meth c s₁, BodyLoose p l y (headSpec ws rm) cc maxL ret e s m args below meth c s₁ → c.maxLocals = maxL → (∀ x ∈ c.exceptionTable.toList, False) → Pc args s →
      W p l e (headSpec ws rm).room s m args below meth c s.heap [] 0 0 (vx_MQ below Qc XC args s mc ms free) (entryFrame m args maxL)) : vx_Met l y ws rm Pc Qc XC mc ms free := by
  refine MetFree.of_bodyS (code := cc) (maxLocals := maxL) (ret := ret) hy ?_ ?_
  · intro args s m h hn
    obtain ⟨meth, c, h1, h2, h3, h4, h5, h6, -, -⟩ := Cond.code_spec hn (atoms_spec (ws := ws) h _ (by rw [hw]; exact List.mem_cons_self))
    exact ⟨meth, c, h1, h2, h3, h4, h5, h6⟩
  · intro p e s m args below meth c s₁ B hml hP _
    have hh0 : s₁.heap = s.heap := by rw [B.state]; rfl
    have ht : ∀ x ∈ c.exceptionTable.toList, False := by
      obtain ⟨meth9, c9, h1, h2, -, -, -, -, h7, -⟩ := Cond.code_spec B.named (atoms_spec (ws := ws) B.pre _ (by rw [hw]; exact List.mem_cons_self))
      cases Option.some.inj (h1.symm.trans B.method)
      cases Option.some.inj (h2.symm.trans (Stand.of_body B).code)
      intro x hx
      rw [Array.isEmpty_iff.mp h7] at hx
      cases hx
    obtain ⟨t, a1, o, b1, b2, b3⟩ := body p e s m args below meth c s₁ B hml ht hP s₁ hh0 (Stand.of_body B)
    exact ⟨t, o, a1, b1, b2, b3⟩
/-- the table of a body with handlers -/
theorem vx_table {p : Program} {x y : MethodName} {S : Spec} {cc bytes : ByteArray} {maxL maxL' : Nat} {ret ret' : Option FieldType} {e : Env} {s s₁ : State} {m : MethodId} {args : Array Value} {below : List Frame} {meth : Method} {c : Code} {hh : List (Nat × Nat × Nat × Nat)}
    (B : BodyLoose p l y S cc maxL ret e s m args below meth c s₁) (h : (Cond.codeWith y bytes maxL' ret' hh).before args s = true) : c.exceptionTable.toList = tableOf hh := by
  obtain ⟨m9, meth9, c9, hn9, h1, h2, -, -, h6, -⟩ := Cond.codeWith_spec h
  cases Option.some.inj (hn9.symm.trans B.named)
  cases Option.some.inj (h1.symm.trans B.method)
  cases Option.some.inj (h2.symm.trans (Stand.of_body B).code)
  rw [← h6, table_eq]
end Bodies
end VXA
/-! ===== END ===== -/
/-! ===== BEGIN a static call of a method with an exception table ===== -/
section VXS
variable {p : Program} {l : Launch} {e : Env} {R : Room} {s : State} {m : MethodId} {args : Array Value} {below : List Frame} {meth : Method} {c : Code} {T : State} {H : Heap} {locs : List Loc} {cells slots : Nat}
abbrev vx_CSW (R : Room) (s : State) (args : Array Value) (own : String) (index : Nat) (y : MethodName) (bytes : ByteArray) (maxL : Nat) (ret : Option FieldType) (hh : List (Nat × Nat × Nat × Nat)) (ws : List Cond) (rm : Room) (mc ms n : Nat) : Prop :=
  (rm.cells = mc ∧ rm.slots = ms ∧ rm.frames + 1 ≤ R.frames ∧ 8 + (maxL + 11) + rm.locals ≤ R.locals ∧ (∀ w ∈ ws, ∀ (a' : Array Value) (U : State), s.WarmedH U.vm → w.before a' U = true) ∧ Cond.codeWith y bytes maxL ret hh ∈ ws) ∧
  (Cond.codeWith y bytes maxL ret hh).before args s = true ∧ (Cond.initialized y.cls).before args s = true ∧ (y.cls ≠ "java/lang/invoke/MethodHandle" ∧ y.cls ≠ "java/lang/invoke/VarHandle") ∧
  (∀ sig, parseMethodDescriptor y.desc = some sig → n = sig.parameters.length) ∧ (Cond.methodLink own index y).before args s = true ∧ (Cond.static y).before args s = true
theorem vx_cwSW {own : String} {index maxL mc ms : Nat} {y : MethodName} {bytes : ByteArray} {ret : Option FieldType} {hh : List (Nat × Nat × Nat × Nat)} {Ts ws ws' : List Cond} {rm : Room} (n : Nat) (ht : ∀ w ∈ Ts, w.before args s = true) (hT : GoodIn Ts (va_wsS own index y ws)) (hw : ws = Cond.codeWith y bytes maxL ret hh :: ws') (hrc : rm.cells = mc) (hrs : rm.slots = ms)
    (hd : y.cls ≠ "java/lang/invoke/MethodHandle" ∧ y.cls ≠ "java/lang/invoke/VarHandle" ∧ (parseMethodDescriptor y.desc).map (fun d => d.parameters.length) = some n) (hR : rm.frames + 1 ≤ R.frames ∧ 8 + (maxL + 11) + rm.locals ≤ R.locals) :
    vx_CSW R s args own index y bytes maxL ret hh ws rm mc ms n := by
  have ok : ∀ w ∈ va_wsS own index y ws, w.before args s = true := fun w h => ht w (hT w h).1
  have hG : GoodIn Ts ws := fun w h => hT w (by unfold va_wsS; exact List.mem_append_right _ h)
  have hc : Cond.codeWith y bytes maxL ret hh ∈ ws := by rw [hw]; exact List.mem_cons_self
  refine ⟨⟨hrc, hrs, hR.1, hR.2, pay_in ht hG, hc⟩, ht _ (hG _ hc).1, ok _ (by simp [va_wsS]), ⟨hd.1, hd.2.1⟩, fun sig h => ?_, ok _ (by simp [va_wsS]), ok _ (by simp [va_wsS])⟩
  have h2 := hd.2.2
  rw [h] at h2
  exact (Option.some.inj h2).symm
theorem vx_callSW (X : Stand p l e R s m args below meth c T locs cells slots) (hexec : p.tables.exec = Jvm.exec) {own : String} {index : Nat} {y : MethodName} {bytes : ByteArray} {maxL : Nat} {ret : Option FieldType} {hh : List (Nat × Nat × Nat × Nat)}
    (hown : s.vm.findClass own = some m.cls) (hlink : (Cond.methodLink own index y).before args s = true) (hstat : (Cond.static y).before args s = true) (hinit : (Cond.initialized y.cls).before args s = true)
    (hcode : (Cond.codeWith y bytes maxL ret hh).before args s = true) (hy : y.cls ≠ "java/lang/invoke/MethodHandle" ∧ y.cls ≠ "java/lang/invoke/VarHandle")
    {W9 : Nat} {Pre : Pt → Array Value → Prop} {Post : Pt → Array Value → Option Value → Pt → Prop} (hK : Back l R p e below s args y 3 W9 Pre Post)
    {g : JFrame} (hg : g.method = m) (hsize : g.locals.size = c.maxLocals) {argsL rest : List Value} (hlen : ∀ sig, parseMethodDescriptor y.desc = some sig → argsL.length = sig.parameters.length)
    (hstack : g.stack = argsL.reverse ++ rest) (hW : 2 * g.monitorRoom + (rest.map fun v => v.category).sum ≤ W9) (hdg : decode c.code g.pc = .ok (.invokestatic index, 3))
    (hpre : ∀ vm₁, s.WarmedH vm₁ → Pre ⟨T.setVm vm₁, locs, cells, slots⟩ argsL.toArray) :
    ∃ (v : Option Value) (vm₁ : Vm) (B : Pt), s.WarmedH vm₁ ∧ Stand p l e R s m args below meth c B.U B.locs B.cells B.slots ∧ Post ⟨T.setVm vm₁, locs, cells, slots⟩ argsL.toArray v B ∧
      ∀ target, Steps p.tables e below (B.U.setTop { g with pc := g.pc + 3, stack := v.toList ++ rest }) target → Steps p.tables e below (T.setTop g) target := by
  obtain ⟨mk, methM, cM, hnamed, hmethM, -, -, -, -, -, -, hsigM⟩ := Cond.codeWith_spec hcode
  have hstatic : methM.isStatic = true := Cond.static_spec hnamed hmethM hstat
  obtain ⟨kP, hkP, -⟩ := className_of_methodNamed hnamed
  have hinitP : kP.init = .initialized := Cond.initialized_spec (findClass_of_methodNamed hnamed) hkP hinit
  obtain ⟨vm₁, X₁, hstep₁⟩ := X.invokestatic hexec hown hlink hnamed hmethM hstatic hkP hinitP hy (g := g) hg (argsL := argsL) (rest := rest) (hlen _ hsigM) hstack hdg
  obtain ⟨v, B, X', hpost, hsteps⟩ := hK m meth c ⟨T.setVm vm₁, locs, cells, slots⟩ { g with stack := rest } (.invokestatic index) mk argsL.toArray X₁ hg hsize hdg hW (X₁.named hnamed) (hpre vm₁ X₁.warmed)
  exact ⟨v, vm₁, B, X₁.warmed, X', hpost, fun target h => hstep₁ _ fun acts => by rw [doInvoke_state]; exact hsteps.trans h⟩
theorem vx_runSW {y : MethodName} {bytes cc : ByteArray} {maxL nL mc ms n index : Nat} {ret : Option FieldType} {hh : List (Nat × Nat × Nat × Nat)} {ws : List Cond} {rm : Room} {Pc : Array Value → State → Prop} {Qc : Array Value → State → Outcome → State → Prop} {free : Addr → Prop} {Ts : List Cond} {own : String} {As rest : List Value} {g : JFrame}
    (S : CallFix p m c cc nL s args Ts own) (hM : Met l y ws rm Pc Qc mc ms free) (cw : vx_CSW R s args own index y bytes maxL ret hh ws rm mc ms n) (hp : PreS s H Pc As)
    (hg : g.method = m) (hn : As.length = n) (hsize : g.locals.size = nL) (hstack : g.stack = As.reverse ++ rest) (hW : 2 * g.monitorRoom + (rest.map fun v => v.category).sum ≤ 8) (hdg : decode cc g.pc = .ok (.invokestatic index, 3)) (hf : cells + mc ≤ R.cells ∧ slots + ms ≤ R.slots) :
    va_Run p l e R s m args below meth c H locs cells slots mc ms g rest (Qc As.toArray) (free) := by
  obtain ⟨⟨hrc, hrs, hfr, hlo, hws, hcw⟩, hcode, hini, hy, hlen, hl, hstt⟩ := cw
  have hK : Back l R p e below s args y 3 8 (PreOf R mc ms Pc) (PostOf Qc mc ms free) := va_backW (hh := hh) (bytes := bytes) (maxL := maxL) (ret := ret) hM hp.1 hrc hrs hfr hlo hws hcw (fun a' U hW => word_at hW (Or.inl (by first | rfl | simp [Cond.onTables, Cond.keeps, Cond.steady])) hini)
  obtain ⟨hx, hb, hml, ho, -⟩ := S
  intro T hT X
  obtain ⟨v, vm₁, ⟨U', l2, c2, s2⟩, hW₁, X', ⟨g', mk, t, L, e1, e2, hq, h1, hL, h2, h3⟩, st⟩ := vx_callSW X hx (hh := hh) (bytes := bytes) (maxL := maxL) (ret := ret) ho hl hstt hini hcode hy hK hg (hsize.trans hml.symm) (argsL := As) (rest := rest) (fun sig h => hn.trans (hlen sig h)) hstack hW (by rw [hb]; exact hdg)
    (fun vm₁ hW₁ => ⟨hf.1, hf.2, hp.2 (T.setVm vm₁) hT hW₁⟩)
  dsimp only [Pt.U, Pt.locs, Pt.cells, Pt.slots] at X' e1 e2 h1 h2 h3 st
  subst h1; subst h2; subst h3
  exact ⟨v, (T.setVm vm₁).calling g' mk As.toArray, t, U', L, hT, X', hL, e1, e2, hq, st⟩
/-- not caught here, past rows that name other classes: it goes on to the caller -/
theorem vx_outP {p : Program} {l : Launch} {e : Env} {R : Room} {s : State} {m : MethodId} {args : Array Value} {below : List Frame} {meth : Method} {c : Code} {H : Heap} {locs : List Loc} {cells slots : Nat} {free : Addr → Prop} {ls : Array Slot} {rest : List Value} {Qc : Array Value → State → Outcome → State → Prop} {XC : String → State → State → Prop}
    {pc : Nat} {own E : String} {ce : Cell} {q : Addr} {mc ms : Nat} (hown : s.vm.findClass own = some m.cls) (hlocks : meth.locks = false)
    (hpass : ∀ z ∈ c.exceptionTable.toList, covers z pc = false ∨ (z.catchType ≠ 0 ∧ ∃ nm : String, (Cond.classLink own z.catchType nm).before args s = true ∧ va_Nc E nm s)) (hcell : H[q]? = some ce) (hv : ce.vm = .none) (hcl : s.vm.findClass E = some ce.cls)
    (hx : ∀ t : State, t.heap = H → s.vm.Alike t.vm → XC E s t) (hf : ∀ z ∈ locs, free z.base) (hc : cells ≤ mc) (hs : slots ≤ ms) :
    vx_W p l e R s m args below meth c H locs cells slots (vx_MQ below Qc XC args s mc ms free) (F0 m pc ls rest) q := by
  intro T hT X
  have hpl : e.platform.magicAccessors = ({} : Platform).magicAccessors := by rw [X.admits.platform]
  obtain ⟨vm', hW', X', st⟩ := X.outThrough hlocks q (g := F0 m pc ls rest) rfl rfl rfl (cell := ce) (by rw [hT]; exact hcell) (by rw [hv]; rfl)
    (by obtain ⟨k9, h9, -⟩ := Vm.findClass_spec hcl; exact ⟨k9, h9⟩) (fun z hz => by
      rcases hpass z hz with h | ⟨hz0, nm, hl1, hn1⟩
      · exact Or.inl h
      · obtain ⟨c6, hc6, hcl6⟩ := Cond.classLink_spec hown hl1 e.platform hpl
        obtain ⟨a8, b8, h1, h2, h3⟩ := hn1
        cases Option.some.inj (h1.symm.trans hcl)
        cases Option.some.inj (h2.symm.trans hc6)
        exact Or.inr ⟨hz0, _, hcl6, h3⟩)
  obtain ⟨g₀, hfr⟩ := X'.frames_eq
  have hcell9 : ((T.setVm vm').setFrames (.throwing q :: below)).heap[q]? = some ce := by
    show T.heap[q]? = some ce
    rw [hT]; exact hcell
  have hend : Ended ((T.setVm vm').setFrames (.throwing q :: below)) below (.threw q) := State.frames_setFrames _ (State.cur_lt_of_frames hfr)
  refine ⟨(T.setVm vm').setFrames (.throwing q :: below), ?_, .threw q, X'.here.running, hend, Or.inr ⟨q, rfl, E, ce, locs, hx _ hT (X'.ends _).1.alike, hcell9, hv, hcl, (X'.ends _).1, (X'.ends _).2.mono hc hs, hf⟩⟩
  rw [X.pushThrowing_eq]
  exact st
/-- a thing of a world lies in the heap -/
theorem vx_lt {D : va_G} {cl : List vw_C} {ws : va_W} {H1 : Heap} (h : va_P D cl ws H1) {k : Nat} {q : Nat × va_E} (hk : ws[k]? = some q) : q.1 < H1.size := (h k q hk).lt
end VXS
/-! ===== END ===== -/
/-! ===== BEGIN methods with a table of their own: called by a name, returning or throwing ===== -/
section VXH
/-! vx_backW, vx_callVX, vx_callSX, vx_callVW, vx_runVW, vx_runVX, vx_runSX, vx_ofWH follow the same proofs as their sisters above (Free/Laws.lean, Shelf42/LK1.lean); vx_outP calls Shelf42/NT130.lean (outThrough). -/
section
variable {l : Launch} {R : Room} {p : Program} {e : Env} {below : List Frame} {s : State} {sargs : Array Value} {y : MethodName} {len W9 : Nat}
theorem vx_backW {ws : List Cond} {rm : Room} {Pc : Array Value → State → Prop} {Qc : Array Value → State → Outcome → State → Prop} {XC : String → State → State → Prop} {mc ms : Nat} {free : Addr → Prop} {bytes : ByteArray} {maxL : Nat} {ret : Option FieldType} {hh : List (Nat × Nat × Nat × Nat)}
    (hM : vx_Met l y ws rm Pc Qc XC mc ms free) (hblind : FrameBlind Pc) (hrc : rm.cells = mc) (hrs : rm.slots = ms)
    (hframes : rm.frames + 1 ≤ R.frames) (hlocals : W9 + (maxL + 11) + rm.locals ≤ R.locals)
    (hws : ∀ w ∈ ws, ∀ a' U, s.WarmedH U.vm → w.before a' U = true) (hcode : Cond.codeWith y bytes maxL ret hh ∈ ws) (hinit : ∀ a' U, s.WarmedH U.vm → (Cond.initialized y.cls).before a' U = true) :
    vx_Back l R p e below s sargs y len W9 (PreOf R mc ms Pc) (PostOf Qc mc ms free) (vx_Post XC mc ms free) := by
  intro m meth c A g ig mk a X hg hsize hdg hW hn hp
  have h1 : (headSpec ws rm).pre.before a A.U = true := atoms_intro fun w hw => hws w hw _ _ X.warmed
  have h2 : (Cond.codeWith y bytes maxL ret hh).before a A.U = true := hws _ hcode _ _ X.warmed
  have h3 : (Cond.initialized y.cls).before a A.U = true := hinit _ _ X.warmed
  have h4 : A.cells + (headSpec ws rm).room.cells ≤ R.cells := by rw [show (headSpec ws rm).room.cells = mc from hrc]; exact hp.1
  have h5 : A.slots + (headSpec ws rm).room.slots ≤ R.slots := by rw [show (headSpec ws rm).room.slots = ms from hrs]; exact hp.2.1
  have hPc : Pc a (A.U.calling g mk a) := hblind _ _ _ _ hp.2.2
  obtain ⟨U, Ls, c0, s0⟩ := A
  dsimp only [Pt.U, Pt.locs, Pt.cells, Pt.slots] at h1 h2 h3 h4 h5 X hn hPc ⊢
  obtain ⟨m9, methY, cY, hn9, hmY, hcY, -, hlY, -⟩ := Cond.codeWith_spec h2
  cases Option.some.inj (hn9.symm.trans hn)
  obtain ⟨kY, hkY, -⟩ := className_of_methodNamed hn
  have hinitY : kY.init = .initialized := Cond.initialized_spec (findClass_of_methodNamed hn) hkY h3
  have h : At U g.method c below := by rw [hg]; exact X.here
  have hlocals9 : W9 + (maxL + 11) + (headSpec ws rm).room.locals ≤ R.locals := hlocals
  have happ : (headSpec ws rm).appliesLoose y e.platform (U.calling g mk a) = true :=
    Spec.appliesLoose_calling (g := g) h hdg hn hkY hinitY
      (X.room_calling (g := g) (R' := (headSpec ws rm).room) hsize hmY hcY hframes (by rw [hlY]; omega) h4 h5) h1
  obtain ⟨mid, hmid⟩ := h.above
  have hfr : (U.setTop g).frames = (.java g :: mid) ++ below := by rw [State.frames_setTop' g h.top, hmid]; rfl
  obtain ⟨o, s₂, hsteps, -, hend, hq⟩ := Steps.callFree hM p X.admits X.cas X.clock (acts := []) hfr happ hPc trivial
  have hq' : vx_Q Qc XC mc ms free a (U.calling g mk a) o s₂ := hq
  rw [State.frames_setTop' g h.top] at hend
  obtain ⟨g₀, hg0⟩ := Option.isSome_iff_exists.mp h.top
  obtain ⟨r, hr⟩ := State.topJava?_eq_some.mp hg0
  have hr' : (({ U with heap := s₂.heap, slotsUsed := s₂.slotsUsed } : State).setVm s₂.vm).frames = .java g₀ :: r := hr
  rcases hq' with ⟨hqc, L, hfe, hL⟩ | ⟨q, rfl, E, ce, L, hx, hce, hcv, hcl, hW₂, hsm, hL⟩
  · obtain ⟨⟨v, rfl⟩, hW₂, e2, q2, q3, q4, q5, q6⟩ := id hfe
    have e3 : s₂ = ({ (U.calling g mk a).setFrames s₂.frames with heap := s₂.heap, slotsUsed := s₂.slotsUsed } : State).setVm s₂.vm := by
      have : s₂ = ({ s₂ with vm := (U.calling g mk a).vm } : State).setVm s₂.vm := rfl
      rw [e2] at this
      exact this
    obtain ⟨c₂, i₂, len₂, hc₂, hd₂, hf₂⟩ := hend
    have hW' : U.WarmedH s₂.vm := hW₂
    have hcc : c₂ = c := by
      have h1 : s₂.code? g.method = U.code? g.method := by
        rw [State.code?_eq, State.code?_eq, hW'.alike.method?]
      exact Option.some.inj (hc₂.symm.trans (h1.trans h.code))
    subst hcc
    have hlen : len₂ = len := by rw [hdg] at hd₂; cases hd₂; rfl
    subst hlen
    have hs₂ : s₂ = (({ U with heap := s₂.heap, slotsUsed := s₂.slotsUsed } : State).setVm s₂.vm).setTop { g with pc := g.pc + len₂, stack := v.toList ++ g.stack } := by
      refine e3.trans ?_
      rw [hf₂, State.calling_eq h.top, State.setFrames_setFrames, State.setTop_of_frames _ hr', hr]
      rfl
    have hsame : U.sameButNew ({ U with heap := s₂.heap, slotsUsed := s₂.slotsUsed } : State) L mc ms := by
      refine ⟨?_, q2, q3, q4, q5, q6⟩
      obtain ⟨t, ht, -⟩ := State.frames_cons hr
      show ({ U with heap := s₂.heap, slotsUsed := s₂.slotsUsed } : State) = { U.setFrames U.frames with heap := s₂.heap, slotsUsed := s₂.slotsUsed }
      rw [State.setFrames_self ht]
    subst hg
    refine Or.inl ⟨v, ⟨(({ U with heap := s₂.heap, slotsUsed := s₂.slotsUsed } : State).setVm s₂.vm), Ls ++ L, c0 + mc, s0 + ms⟩,
      ⟨X.admits, X.cas, X.clock, X.frames, X.room, X.hears, X.method, X.code, (X.here.setHeapUsed s₂.heap s₂.slotsUsed).setVm hW'.alike, X.tail, State.WarmedH.trans X.warmed hW', X.limits, X.bytes, X.same.trans (hsame.setVm s.vm)⟩,
      ⟨g, mk, s₂, L, rfl, rfl, hqc, rfl, hL, rfl, rfl⟩, ?_⟩
    show Steps p.tables e below _ ((({ U with heap := s₂.heap, slotsUsed := s₂.slotsUsed } : State).setVm s₂.vm).setTop { g with pc := g.pc + len₂, stack := v.toList ++ g.stack })
    rw [← hs₂]
    exact hsteps
  · obtain ⟨e2, q2, q3, q4, q5, q6⟩ := id hsm
    have e3 : s₂ = ({ (U.calling g mk a).setFrames s₂.frames with heap := s₂.heap, slotsUsed := s₂.slotsUsed } : State).setVm s₂.vm := by
      have : s₂ = ({ s₂ with vm := (U.calling g mk a).vm } : State).setVm s₂.vm := rfl
      rw [e2] at this
      exact this
    have hf₂ : s₂.frames = .throwing q :: .java g :: U.frames.tail := hend
    have hW' : U.WarmedH s₂.vm := hW₂
    have hs₂ : s₂ = ((({ U with heap := s₂.heap, slotsUsed := s₂.slotsUsed } : State).setVm s₂.vm).setTop g).pushFrame (.throwing q) := by
      refine e3.trans ?_
      rw [hf₂, State.calling_eq h.top, State.setFrames_setFrames, State.pushFrame, State.frames_setTop _ hr', State.setTop_of_frames _ hr', State.setFrames_setFrames, hr]
      rfl
    have hsame : U.sameButNew ({ U with heap := s₂.heap, slotsUsed := s₂.slotsUsed } : State) L mc ms := by
      refine ⟨?_, q2, q3, q4, q5, q6⟩
      obtain ⟨t, ht, -⟩ := State.frames_cons hr
      show ({ U with heap := s₂.heap, slotsUsed := s₂.slotsUsed } : State) = { U.setFrames U.frames with heap := s₂.heap, slotsUsed := s₂.slotsUsed }
      rw [State.setFrames_self ht]
    subst hg
    refine Or.inr ⟨q, ⟨(({ U with heap := s₂.heap, slotsUsed := s₂.slotsUsed } : State).setVm s₂.vm), Ls ++ L, c0 + mc, s0 + ms⟩,
      ⟨X.admits, X.cas, X.clock, X.frames, X.room, X.hears, X.method, X.code, (X.here.setHeapUsed s₂.heap s₂.slotsUsed).setVm hW'.alike, X.tail, State.WarmedH.trans X.warmed hW', X.limits, X.bytes, X.same.trans (hsame.setVm s.vm)⟩,
      ⟨g, mk, s₂, L, E, ce, rfl, rfl, hx, hce, hcv, hcl, rfl, hL, rfl, rfl⟩, ?_⟩
    show Steps p.tables e below _ (((({ U with heap := s₂.heap, slotsUsed := s₂.slotsUsed } : State).setVm s₂.vm).setTop g).pushFrame (.throwing q))
    rw [← hs₂]
    exact hsteps
end
variable {p : Program} {l : Launch} {e : Env} {R : Room} {s : State} {m : MethodId} {args : Array Value} {below : List Frame} {meth : Method} {c : Code} {T : State} {H : Heap} {locs : List Loc} {cells slots : Nat}
theorem vx_callVX (X : Stand p l e R s m args below meth c T locs cells slots) (hexec : p.tables.exec = Jvm.exec) {own C : String} {index : Nat} {y : MethodName} {bytes : ByteArray} {maxL : Nat} {ret : Option FieldType} {hh : List (Nat × Nat × Nat × Nat)}
    (hown : s.vm.findClass own = some m.cls) (hlink : (Cond.methodLink own index y).before args s = true) (hinst : (Cond.instanceMethod y).before args s = true) (hsel : (Cond.selects C y y).before args s = true)
    (hcode : (Cond.codeWith y bytes maxL ret hh).before args s = true) (hy : y.cls ≠ "java/lang/invoke/MethodHandle" ∧ y.cls ≠ "java/lang/invoke/VarHandle")
    {W9 : Nat} {Pre : Pt → Array Value → Prop} {Post : Pt → Array Value → Option Value → Pt → Prop} {PostX : Pt → Array Value → Addr → Pt → Prop} (hK : vx_Back l R p e below s args y 3 W9 Pre Post PostX)
    {b : Addr} {cellB : Cell} (hcell : T.heap[b]? = some cellB) (hobj : cellB.vm.isStatics = false) (hcls : s.vm.findClass C = some cellB.cls)
    {g : JFrame} (hg : g.method = m) (hsize : g.locals.size = c.maxLocals) {argsL rest : List Value} (hlen : ∀ sig, parseMethodDescriptor y.desc = some sig → argsL.length = sig.parameters.length)
    (hstack : g.stack = argsL.reverse ++ .ref b :: rest) (hW : 2 * g.monitorRoom + (rest.map fun v => v.category).sum ≤ W9) (hdg : decode c.code g.pc = .ok (.invokevirtual index, 3))
    (hpre : ∀ vm₁, s.WarmedH vm₁ → Pre ⟨T.setVm vm₁, locs, cells, slots⟩ (Value.ref b :: argsL).toArray) :
    (∃ (v : Option Value) (vm₁ : Vm) (B : Pt), s.WarmedH vm₁ ∧ Stand p l e R s m args below meth c B.U B.locs B.cells B.slots ∧ Post ⟨T.setVm vm₁, locs, cells, slots⟩ (Value.ref b :: argsL).toArray v B ∧
      ∀ target, Steps p.tables e below (B.U.setTop { g with pc := g.pc + 3, stack := v.toList ++ rest }) target → Steps p.tables e below (T.setTop g) target) ∨
    (∃ (q : Addr) (vm₁ : Vm) (B : Pt), s.WarmedH vm₁ ∧ Stand p l e R s m args below meth c B.U B.locs B.cells B.slots ∧ PostX ⟨T.setVm vm₁, locs, cells, slots⟩ (Value.ref b :: argsL).toArray q B ∧
      Steps p.tables e below (T.setTop g) ((B.U.setTop { g with stack := rest }).pushFrame (.throwing q))) := by
  obtain ⟨mk, methM, hnamed, hmethM, hstM, habM⟩ := Cond.instanceMethod_spec hinst
  obtain ⟨m8, methM', cM, hn8, hmethM', -, -, -, -, -, -, hsigM⟩ := Cond.codeWith_spec hcode
  cases Option.some.inj (hn8.symm.trans hnamed)
  cases hmethM.symm.trans hmethM'
  obtain ⟨c2, r2, m2, q1, q2, q3, q4, kP, hkP, hkPi⟩ := Cond.selects_spec hsel
  cases hcls.symm.trans q1
  cases (State.methodFound?_of_named hnamed hy).symm.trans q2
  cases hnamed.symm.trans q3
  have hselP : selectMethod e.platform s.vm cellB.cls mk = .method mk := by rw [Launch.admits_selectMethod X.admits]; exact q4
  obtain ⟨vm₁, X₁, hstep₁⟩ := X.invokevirtual hexec hown hlink hnamed hmethM hstM hkP hkPi hy (a := b) (cell := cellB) hcell
    (fun z h => by rw [h] at hobj; cases hobj) hselP hmethM habM hkP hkPi (g := g) hg (argsL := argsL) (rest := rest) (hlen _ hsigM) hstack hdg
  rcases hK m meth c ⟨T.setVm vm₁, locs, cells, slots⟩ { g with stack := rest } (.invokevirtual index) mk (Value.ref b :: argsL).toArray X₁ hg hsize hdg hW (X₁.named hnamed) (hpre vm₁ X₁.warmed) with ⟨v, B, X', hpost, hsteps⟩ | ⟨q, B, X', hpost, hsteps⟩
  · exact Or.inl ⟨v, vm₁, B, X₁.warmed, X', hpost, fun target h => hstep₁ _ fun acts => by rw [doInvoke_state]; exact hsteps.trans h⟩
  · exact Or.inr ⟨q, vm₁, B, X₁.warmed, X', hpost, hstep₁ _ fun acts => by rw [doInvoke_state]; exact hsteps⟩
theorem vx_callSX (X : Stand p l e R s m args below meth c T locs cells slots) (hexec : p.tables.exec = Jvm.exec) {own : String} {index : Nat} {y : MethodName} {bytes : ByteArray} {maxL : Nat} {ret : Option FieldType} {hh : List (Nat × Nat × Nat × Nat)}
    (hown : s.vm.findClass own = some m.cls) (hlink : (Cond.methodLink own index y).before args s = true) (hstat : (Cond.static y).before args s = true) (hinit : (Cond.initialized y.cls).before args s = true)
    (hcode : (Cond.codeWith y bytes maxL ret hh).before args s = true) (hy : y.cls ≠ "java/lang/invoke/MethodHandle" ∧ y.cls ≠ "java/lang/invoke/VarHandle")
    {W9 : Nat} {Pre : Pt → Array Value → Prop} {Post : Pt → Array Value → Option Value → Pt → Prop} {PostX : Pt → Array Value → Addr → Pt → Prop} (hK : vx_Back l R p e below s args y 3 W9 Pre Post PostX)
    {g : JFrame} (hg : g.method = m) (hsize : g.locals.size = c.maxLocals) {argsL rest : List Value} (hlen : ∀ sig, parseMethodDescriptor y.desc = some sig → argsL.length = sig.parameters.length)
    (hstack : g.stack = argsL.reverse ++ rest) (hW : 2 * g.monitorRoom + (rest.map fun v => v.category).sum ≤ W9) (hdg : decode c.code g.pc = .ok (.invokestatic index, 3))
    (hpre : ∀ vm₁, s.WarmedH vm₁ → Pre ⟨T.setVm vm₁, locs, cells, slots⟩ argsL.toArray) :
    (∃ (v : Option Value) (vm₁ : Vm) (B : Pt), s.WarmedH vm₁ ∧ Stand p l e R s m args below meth c B.U B.locs B.cells B.slots ∧ Post ⟨T.setVm vm₁, locs, cells, slots⟩ argsL.toArray v B ∧
      ∀ target, Steps p.tables e below (B.U.setTop { g with pc := g.pc + 3, stack := v.toList ++ rest }) target → Steps p.tables e below (T.setTop g) target) ∨
    (∃ (q : Addr) (vm₁ : Vm) (B : Pt), s.WarmedH vm₁ ∧ Stand p l e R s m args below meth c B.U B.locs B.cells B.slots ∧ PostX ⟨T.setVm vm₁, locs, cells, slots⟩ argsL.toArray q B ∧
      Steps p.tables e below (T.setTop g) ((B.U.setTop { g with stack := rest }).pushFrame (.throwing q))) := by
  obtain ⟨mk, methM, cM, hnamed, hmethM, -, -, -, -, -, -, hsigM⟩ := Cond.codeWith_spec hcode
  have hstatic : methM.isStatic = true := Cond.static_spec hnamed hmethM hstat
  obtain ⟨kP, hkP, -⟩ := className_of_methodNamed hnamed
  have hinitP : kP.init = .initialized := Cond.initialized_spec (findClass_of_methodNamed hnamed) hkP hinit
  obtain ⟨vm₁, X₁, hstep₁⟩ := X.invokestatic hexec hown hlink hnamed hmethM hstatic hkP hinitP hy (g := g) hg (argsL := argsL) (rest := rest) (hlen _ hsigM) hstack hdg
  rcases hK m meth c ⟨T.setVm vm₁, locs, cells, slots⟩ { g with stack := rest } (.invokestatic index) mk argsL.toArray X₁ hg hsize hdg hW (X₁.named hnamed) (hpre vm₁ X₁.warmed) with ⟨v, B, X', hpost, hsteps⟩ | ⟨q, B, X', hpost, hsteps⟩
  · exact Or.inl ⟨v, vm₁, B, X₁.warmed, X', hpost, fun target h => hstep₁ _ fun acts => by rw [doInvoke_state]; exact hsteps.trans h⟩
  · exact Or.inr ⟨q, vm₁, B, X₁.warmed, X', hpost, hstep₁ _ fun acts => by rw [doInvoke_state]; exact hsteps⟩
theorem vx_callVW (X : Stand p l e R s m args below meth c T locs cells slots) (hexec : p.tables.exec = Jvm.exec) {own C : String} {index : Nat} {y : MethodName} {bytes : ByteArray} {maxL : Nat} {ret : Option FieldType} {hh : List (Nat × Nat × Nat × Nat)}
    (hown : s.vm.findClass own = some m.cls) (hlink : (Cond.methodLink own index y).before args s = true) (hinst : (Cond.instanceMethod y).before args s = true) (hsel : (Cond.selects C y y).before args s = true)
    (hcode : (Cond.codeWith y bytes maxL ret hh).before args s = true) (hy : y.cls ≠ "java/lang/invoke/MethodHandle" ∧ y.cls ≠ "java/lang/invoke/VarHandle")
    {W9 : Nat} {Pre : Pt → Array Value → Prop} {Post : Pt → Array Value → Option Value → Pt → Prop} (hK : Back l R p e below s args y 3 W9 Pre Post)
    {b : Addr} {cellB : Cell} (hcell : T.heap[b]? = some cellB) (hobj : cellB.vm.isStatics = false) (hcls : s.vm.findClass C = some cellB.cls)
    {g : JFrame} (hg : g.method = m) (hsize : g.locals.size = c.maxLocals) {argsL rest : List Value} (hlen : ∀ sig, parseMethodDescriptor y.desc = some sig → argsL.length = sig.parameters.length)
    (hstack : g.stack = argsL.reverse ++ .ref b :: rest) (hW : 2 * g.monitorRoom + (rest.map fun v => v.category).sum ≤ W9) (hdg : decode c.code g.pc = .ok (.invokevirtual index, 3))
    (hpre : ∀ vm₁, s.WarmedH vm₁ → Pre ⟨T.setVm vm₁, locs, cells, slots⟩ (Value.ref b :: argsL).toArray) :
    ∃ (v : Option Value) (vm₁ : Vm) (B : Pt), s.WarmedH vm₁ ∧ Stand p l e R s m args below meth c B.U B.locs B.cells B.slots ∧ Post ⟨T.setVm vm₁, locs, cells, slots⟩ (Value.ref b :: argsL).toArray v B ∧
      ∀ target, Steps p.tables e below (B.U.setTop { g with pc := g.pc + 3, stack := v.toList ++ rest }) target → Steps p.tables e below (T.setTop g) target := by
  obtain ⟨mk, methM, hnamed, hmethM, hstM, habM⟩ := Cond.instanceMethod_spec hinst
  obtain ⟨m8, methM', cM, hn8, hmethM', -, -, -, -, -, -, hsigM⟩ := Cond.codeWith_spec hcode
  cases Option.some.inj (hn8.symm.trans hnamed)
  cases hmethM.symm.trans hmethM'
  obtain ⟨c2, r2, m2, q1, q2, q3, q4, kP, hkP, hkPi⟩ := Cond.selects_spec hsel
  cases hcls.symm.trans q1
  cases (State.methodFound?_of_named hnamed hy).symm.trans q2
  cases hnamed.symm.trans q3
  have hselP : selectMethod e.platform s.vm cellB.cls mk = .method mk := by rw [Launch.admits_selectMethod X.admits]; exact q4
  obtain ⟨vm₁, X₁, hstep₁⟩ := X.invokevirtual hexec hown hlink hnamed hmethM hstM hkP hkPi hy (a := b) (cell := cellB) hcell
    (fun z h => by rw [h] at hobj; cases hobj) hselP hmethM habM hkP hkPi (g := g) hg (argsL := argsL) (rest := rest) (hlen _ hsigM) hstack hdg
  obtain ⟨v, B, X', hpost, hsteps⟩ := hK m meth c ⟨T.setVm vm₁, locs, cells, slots⟩ { g with stack := rest } (.invokevirtual index) mk (Value.ref b :: argsL).toArray X₁ hg hsize hdg hW (X₁.named hnamed) (hpre vm₁ X₁.warmed)
  exact ⟨v, vm₁, B, X₁.warmed, X', hpost, fun target h => hstep₁ _ fun acts => by rw [doInvoke_state]; exact hsteps.trans h⟩
abbrev vx_CVW (R : Room) (s : State) (args : Array Value) (own C : String) (index : Nat) (y : MethodName) (bytes : ByteArray) (maxL : Nat) (ret : Option FieldType) (hh : List (Nat × Nat × Nat × Nat)) (ws : List Cond) (rm : Room) (mc ms n : Nat) : Prop :=
  (rm.cells = mc ∧ rm.slots = ms ∧ rm.frames + 1 ≤ R.frames ∧ 8 + (maxL + 11) + rm.locals ≤ R.locals ∧ (∀ w ∈ ws, ∀ (a' : Array Value) (U : State), s.WarmedH U.vm → w.before a' U = true) ∧ Cond.codeWith y bytes maxL ret hh ∈ ws) ∧
  (Cond.codeWith y bytes maxL ret hh).before args s = true ∧ (Cond.initialized y.cls).before args s = true ∧ (y.cls ≠ "java/lang/invoke/MethodHandle" ∧ y.cls ≠ "java/lang/invoke/VarHandle") ∧
  (∀ sig, parseMethodDescriptor y.desc = some sig → n = sig.parameters.length) ∧ (Cond.methodLink own index y).before args s = true ∧ (Cond.instanceMethod y).before args s = true ∧ (Cond.selects C y y).before args s = true
theorem vx_cwVW {own C : String} {index maxL mc ms : Nat} {y : MethodName} {bytes : ByteArray} {ret : Option FieldType} {hh : List (Nat × Nat × Nat × Nat)} {Ts ws ws' : List Cond} {rm : Room} (n : Nat) (ht : ∀ w ∈ Ts, w.before args s = true) (hT : GoodIn Ts (wsV own index C y ws)) (hw : ws = Cond.codeWith y bytes maxL ret hh :: ws') (hrc : rm.cells = mc) (hrs : rm.slots = ms)
    (hd : y.cls = C ∧ y.cls ≠ "java/lang/invoke/MethodHandle" ∧ y.cls ≠ "java/lang/invoke/VarHandle" ∧ (parseMethodDescriptor y.desc).map (fun d => d.parameters.length) = some n) (hR : rm.frames + 1 ≤ R.frames ∧ 8 + (maxL + 11) + rm.locals ≤ R.locals) :
    vx_CVW R s args own C index y bytes maxL ret hh ws rm mc ms n := by
  obtain ⟨hC, hd⟩ := hd
  subst hC
  have ok : ∀ w ∈ wsV own index y.cls y ws, w.before args s = true := fun w h => ht w (hT w h).1
  have hG : GoodIn Ts ws := fun w h => hT w (by unfold wsV; exact List.mem_append_right _ h)
  have hc : Cond.codeWith y bytes maxL ret hh ∈ ws := by rw [hw]; exact List.mem_cons_self
  refine ⟨⟨hrc, hrs, hR.1, hR.2, pay_in ht hG, hc⟩, ht _ (hG _ hc).1, ok _ (by simp [wsV]), ⟨hd.1, hd.2.1⟩, fun sig h => ?_, ok _ (by simp [wsV]), ok _ (by simp [wsV]), ok _ (by simp [wsV])⟩
  have h2 := hd.2.2
  rw [h] at h2
  exact (Option.some.inj h2).symm
theorem vx_runVW {y : MethodName} {bytes cc : ByteArray} {maxL nL mc ms n index : Nat} {ret : Option FieldType} {hh : List (Nat × Nat × Nat × Nat)} {ws : List Cond} {rm : Room} {Pc : Array Value → State → Prop} {Qc : Array Value → State → Outcome → State → Prop} {free : Addr → Prop} {Ts : List Cond} {own C : String} {b : Addr} {As rest : List Value} {g : JFrame}
    (S : CallFix p m c cc nL s args Ts own) (hM : Met l y ws rm Pc Qc mc ms free) (cw : vx_CVW R s args own C index y bytes maxL ret hh ws rm mc ms n) (hp : PreV s H C b Pc As)
    (hg : g.method = m) (hn : As.length = n) (hsize : g.locals.size = nL) (hstack : g.stack = As.reverse ++ .ref b :: rest) (hW : 2 * g.monitorRoom + (rest.map fun v => v.category).sum ≤ 8) (hdg : decode cc g.pc = .ok (.invokevirtual index, 3)) (hf : cells + mc ≤ R.cells ∧ slots + ms ≤ R.slots) :
    va_Run p l e R s m args below meth c H locs cells slots mc ms g rest (Qc (Value.ref b :: As).toArray) free := by
  obtain ⟨⟨hrc, hrs, hfr, hlo, hws, hcw⟩, hcode, hini, hy, hlen, hl, hin, hse⟩ := cw
  have hK : Back l R p e below s args y 3 8 (PreOf R mc ms Pc) (PostOf Qc mc ms free) := va_backW (hh := hh) (bytes := bytes) (maxL := maxL) (ret := ret) hM hp.1 hrc hrs hfr hlo hws hcw (fun a' U hW => word_at hW (Or.inl (by first | rfl | simp [Cond.onTables, Cond.keeps, Cond.steady])) hini)
  obtain ⟨hx, hb, hml, ho, -⟩ := S
  obtain ⟨-, ⟨cellB, hcB, hoB, hclB⟩, hPc⟩ := hp
  intro T hT X
  obtain ⟨v, vm₁, ⟨U', l2, c2, s2⟩, hW₁, X', ⟨g', mk, t, L, e1, e2, hq, h1, hL, h2, h3⟩, st⟩ := vx_callVW X hx (C := C) (hh := hh) (bytes := bytes) (maxL := maxL) (ret := ret) ho hl hin hse hcode hy hK (by rw [hT]; exact hcB) hoB hclB hg (hsize.trans hml.symm) (argsL := As) (rest := rest) (fun sig h => hn.trans (hlen sig h)) hstack hW (by rw [hb]; exact hdg)
    (fun vm₁ hW₁ => ⟨hf.1, hf.2, hPc (T.setVm vm₁) hT hW₁⟩)
  dsimp only [Pt.U, Pt.locs, Pt.cells, Pt.slots] at X' e1 e2 h1 h2 h3 st
  subst h1; subst h2; subst h3
  exact ⟨v, (T.setVm vm₁).calling g' mk (Value.ref b :: As).toArray, t, U', L, hT, X', hL, e1, e2, hq, st⟩
section
variable {y : MethodName} {bytes cc : ByteArray} {maxL nL mc ms n index : Nat} {ret : Option FieldType} {ws : List Cond} {rm : Room} {Pc : Array Value → State → Prop} {Qc : Array Value → State → Outcome → State → Prop} {XC : String → State → State → Prop} {free : Addr → Prop} {Ts : List Cond} {own C : String} {b : Addr} {As rest : List Value} {g : JFrame}
theorem vx_runVX {hh : List (Nat × Nat × Nat × Nat)} (S : CallFix p m c cc nL s args Ts own) (hM : vx_Met l y ws rm Pc Qc XC mc ms free) (cw : vx_CVW R s args own C index y bytes maxL ret hh ws rm mc ms n) (hp : PreV s H C b Pc As)
    (hg : g.method = m) (hn : As.length = n) (hsize : g.locals.size = nL) (hstack : g.stack = As.reverse ++ .ref b :: rest) (hW : 2 * g.monitorRoom + (rest.map fun v => v.category).sum ≤ 8) (hdg : decode cc g.pc = .ok (.invokevirtual index, 3)) (hf : cells + mc ≤ R.cells ∧ slots + ms ≤ R.slots) :
    vx_Run p l e R s m args below meth c H locs cells slots mc ms g rest (Qc (Value.ref b :: As).toArray) XC free := by
  obtain ⟨⟨hrc, hrs, hfr, hlo, hws, hcw⟩, hcode, hini, hy, hlen, hl, hin, hse⟩ := cw
  have hK : vx_Back l R p e below s args y 3 8 (PreOf R mc ms Pc) (PostOf Qc mc ms free) (vx_Post XC mc ms free) := vx_backW (hh := hh) (bytes := bytes) (maxL := maxL) (ret := ret) hM hp.1 hrc hrs hfr hlo hws hcw (fun a' U hW => word_at hW (Or.inl (by first | rfl | simp [Cond.onTables, Cond.keeps, Cond.steady])) hini)
  obtain ⟨hx, hb, hml, ho, -⟩ := S
  obtain ⟨-, ⟨cellB, hcB, hoB, hclB⟩, hPc⟩ := hp
  intro T hT X
  rcases vx_callVX X hx (C := C) (hh := hh) (bytes := bytes) (maxL := maxL) (ret := ret) ho hl hin hse hcode hy hK (by rw [hT]; exact hcB) hoB hclB hg (hsize.trans hml.symm) (argsL := As) (rest := rest) (fun sig h => hn.trans (hlen sig h)) hstack hW (by rw [hb]; exact hdg)
    (fun vm₁ hW₁ => ⟨hf.1, hf.2, hPc (T.setVm vm₁) hT hW₁⟩) with ⟨v, vm₁, ⟨U', l2, c2, s2⟩, hW₁, X', ⟨g', mk, t, L, e1, e2, hq, h1, hL, h2, h3⟩, st⟩ | ⟨q, vm₁, ⟨U', l2, c2, s2⟩, hW₁, X', ⟨g', mk, t, L, E, ce, e1, e2, hq, hce, hcv, hcl, h1, hL, h2, h3⟩, st⟩
  · dsimp only [Pt.U, Pt.locs, Pt.cells, Pt.slots] at X' e1 e2 h1 h2 h3 st
    subst h1; subst h2; subst h3
    exact Or.inl ⟨v, (T.setVm vm₁).calling g' mk (Value.ref b :: As).toArray, t, U', L, hT, X', hL, e1, e2, hq, st⟩
  · dsimp only [Pt.U, Pt.locs, Pt.cells, Pt.slots] at X' e1 e2 h1 h2 h3 st hcl
    subst h1; subst h2; subst h3
    exact Or.inr ⟨q, (T.setVm vm₁).calling g' mk (Value.ref b :: As).toArray, t, U', L, E, ce, hT, X', hL, e1, e2, hq, hce, hcv, vx_cls hW₁ hcl, st⟩
theorem vx_runSX {hh : List (Nat × Nat × Nat × Nat)} (S : CallFix p m c cc nL s args Ts own) (hM : vx_Met l y ws rm Pc Qc XC mc ms free) (cw : vx_CSW R s args own index y bytes maxL ret hh ws rm mc ms n) (hp : PreS s H Pc As)
    (hg : g.method = m) (hn : As.length = n) (hsize : g.locals.size = nL) (hstack : g.stack = As.reverse ++ rest) (hW : 2 * g.monitorRoom + (rest.map fun v => v.category).sum ≤ 8) (hdg : decode cc g.pc = .ok (.invokestatic index, 3)) (hf : cells + mc ≤ R.cells ∧ slots + ms ≤ R.slots) :
    vx_Run p l e R s m args below meth c H locs cells slots mc ms g rest (Qc As.toArray) XC free := by
  obtain ⟨⟨hrc, hrs, hfr, hlo, hws, hcw⟩, hcode, hini, hy, hlen, hl, hstt⟩ := cw
  have hK : vx_Back l R p e below s args y 3 8 (PreOf R mc ms Pc) (PostOf Qc mc ms free) (vx_Post XC mc ms free) := vx_backW (hh := hh) (bytes := bytes) (maxL := maxL) (ret := ret) hM hp.1 hrc hrs hfr hlo hws hcw (fun a' U hW => word_at hW (Or.inl (by first | rfl | simp [Cond.onTables, Cond.keeps, Cond.steady])) hini)
  obtain ⟨hx, hb, hml, ho, -⟩ := S
  intro T hT X
  rcases vx_callSX X hx (hh := hh) (bytes := bytes) (maxL := maxL) (ret := ret) ho hl hstt hini hcode hy hK hg (hsize.trans hml.symm) (argsL := As) (rest := rest) (fun sig h => hn.trans (hlen sig h)) hstack hW (by rw [hb]; exact hdg)
    (fun vm₁ hW₁ => ⟨hf.1, hf.2, hp.2 (T.setVm vm₁) hT hW₁⟩) with ⟨v, vm₁, ⟨U', l2, c2, s2⟩, hW₁, X', ⟨g', mk, t, L, e1, e2, hq, h1, hL, h2, h3⟩, st⟩ | ⟨q, vm₁, ⟨U', l2, c2, s2⟩, hW₁, X', ⟨g', mk, t, L, E, ce, e1, e2, hq, hce, hcv, hcl, h1, hL, h2, h3⟩, st⟩
  · dsimp only [Pt.U, Pt.locs, Pt.cells, Pt.slots] at X' e1 e2 h1 h2 h3 st
    subst h1; subst h2; subst h3
    exact Or.inl ⟨v, (T.setVm vm₁).calling g' mk As.toArray, t, U', L, hT, X', hL, e1, e2, hq, st⟩
  · dsimp only [Pt.U, Pt.locs, Pt.cells, Pt.slots] at X' e1 e2 h1 h2 h3 st hcl
    subst h1; subst h2; subst h3
    exact Or.inr ⟨q, (T.setVm vm₁).calling g' mk As.toArray, t, U', L, E, ce, hT, X', hL, e1, e2, hq, hce, hcv, vx_cls hW₁ hcl, st⟩
end
end VXH
theorem vx_ofWH {l : Launch} {y : MethodName} {ws ws' : List Cond} {rm : Room} {Pc : Array Value → State → Prop} {Qc : Array Value → State → Outcome → State → Prop} {XC : String → State → State → Prop} {mc ms : Nat} {free : Addr → Prop} {cc : ByteArray} {maxL : Nat} {ret : Option FieldType} {hh : List (Nat × Nat × Nat × Nat)}
    (hy : plainName y.cls = true) (hw : ws = Cond.codeWith y cc maxL ret hh :: ws')
    (body : ∀ p e s m args below meth c s₁, BodyLoose p l y (headSpec ws rm) cc maxL ret e s m args below meth c s₁ → c.maxLocals = maxL → Pc args s →
      W p l e (headSpec ws rm).room s m args below meth c s.heap [] 0 0 (vx_MQ below Qc XC args s mc ms free) (entryFrame m args maxL)) : vx_Met l y ws rm Pc Qc XC mc ms free := by
  refine MetFree.of_bodyS (code := cc) (maxLocals := maxL) (ret := ret) hy ?_ ?_
  · intro args s m h hn
    obtain ⟨m9, meth, c, hn9, h1, h2, h3, h4, -, h5, h6, -⟩ := Cond.codeWith_spec (atoms_spec (ws := ws) h _ (by rw [hw]; exact List.mem_cons_self))
    cases hn.symm.trans hn9
    exact ⟨meth, c, h1, h2, h3, h4, h5, h6⟩
  · intro p e s m args below meth c s₁ B hml hP _
    have hh0 : s₁.heap = s.heap := by rw [B.state]; rfl
    obtain ⟨t, a1, o, b1, b2, b3⟩ := body p e s m args below meth c s₁ B hml hP s₁ hh0 (Stand.of_body B)
    exact ⟨t, o, a1, b1, b2, b3⟩
/-! ===== END ===== -/
end
section
/-! ===== BEGIN printed: names, fields, word lists, decode rows ===== -/
def RX0 : String := "FlexibleBoxes$Box"
def TX0 : u_T := fun k => match k with
  | 0 => ("FlexibleBoxes$Box", "number", "I", true)
  | 1 => ("FlexibleBoxes$Box", "style", "[I", true)
  | 2 => ("FlexibleBoxes$Box", "exists", "Z", false)
  | 3 => ("FlexibleBoxes$Box", "parent", "LFlexibleBoxes$Box;", false)
  | 4 => ("FlexibleBoxes$Box", "container", "Z", false)
  | 5 => ("FlexibleBoxes$Box", "shown", "Z", false)
  | 6 => ("FlexibleBoxes$Box", "firstKid", "LFlexibleBoxes$Box;", false)
  | 7 => ("FlexibleBoxes$Box", "nextKid", "LFlexibleBoxes$Box;", false)
  | 8 => ("FlexibleBoxes$Box", "kids", "I", false)
  | 9 => ("FlexibleBoxes$Box", "heir", "LFlexibleBoxes$Box;", false)
  | 10 => ("FlexibleBoxes$Box", "naturalWidth", "I", false)
  | 11 => ("FlexibleBoxes$Box", "naturalHeight", "I", false)
  | 12 => ("FlexibleBoxes$Box", "x", "I", false)
  | 13 => ("FlexibleBoxes$Box", "y", "I", false)
  | 14 => ("FlexibleBoxes$Box", "width", "I", false)
  | 15 => ("FlexibleBoxes$Box", "height", "I", false)
  | 16 => ("FlexibleBoxes$Box", "lineCount", "I", false)
  | _ => ("FlexibleBoxes$Box", "line", "I", false)
def tyX0 : Nat → FieldType := fun k => match k with
  | 0 => .int
  | 1 => .array .int
  | 2 => .boolean
  | 3 => .object "FlexibleBoxes$Box"
  | 4 => .boolean
  | 5 => .boolean
  | 6 => .object "FlexibleBoxes$Box"
  | 7 => .object "FlexibleBoxes$Box"
  | 8 => .int
  | 9 => .object "FlexibleBoxes$Box"
  | 10 => .int
  | 11 => .int
  | 12 => .int
  | 13 => .int
  | 14 => .int
  | 15 => .int
  | 16 => .int
  | _ => .int
abbrev wsX00 : List Cond := u_ws RX0 TX0 18
theorem nmX0 : ∀ a, a < 18 → ∀ b, b < 18 → a ≠ b → (TX0 a).2.1 ≠ (TX0 b).2.1 := by decide +kernel
theorem tyX0_ok : ∀ k, k < 18 → parseFieldDescriptor (TX0 k).2.2.1 = some (tyX0 k) := by decide +kernel
abbrev cX0_init : ByteArray := prog_2_method_1_code
def yX0_init : MethodName := ⟨RX0, "<init>", "(I)V"⟩
abbrev cX0_begin : ByteArray := prog_2_method_2_code
def yX0_begin : MethodName := ⟨RX0, "begin", "(LFlexibleBoxes$Box;)V"⟩
abbrev cX0_of : ByteArray := prog_2_method_3_code
def yX0_of : MethodName := ⟨RX0, "of", "(I)I"⟩
abbrev cX0_change : ByteArray := prog_2_method_4_code
def yX0_change : MethodName := ⟨RX0, "change", "(II)I"⟩
abbrev cX0_isRoot : ByteArray := prog_2_method_5_code
def yX0_isRoot : MethodName := ⟨RX0, "isRoot", "()Z"⟩
abbrev cX0_parentNumber : ByteArray := prog_2_method_6_code
def yX0_parentNumber : MethodName := ⟨RX0, "parentNumber", "()I"⟩
abbrev cX0_isColumn : ByteArray := prog_2_method_7_code
def yX0_isColumn : MethodName := ⟨RX0, "isColumn", "()Z"⟩
abbrev cX0_wraps : ByteArray := prog_2_method_8_code
def yX0_wraps : MethodName := ⟨RX0, "wraps", "()Z"⟩
abbrev cX0_unlink : ByteArray := prog_2_method_9_code
def yX0_unlink : MethodName := ⟨RX0, "unlink", "()V"⟩
abbrev cX0_adopt : ByteArray := prog_2_method_10_code
def yX0_adopt : MethodName := ⟨RX0, "adopt", "(LFlexibleBoxes$Box;)V"⟩
abbrev cX0_innerWidth : ByteArray := prog_2_method_11_code
def yX0_innerWidth : MethodName := ⟨RX0, "innerWidth", "()I"⟩
abbrev cX0_innerHeight : ByteArray := prog_2_method_12_code
def yX0_innerHeight : MethodName := ⟨RX0, "innerHeight", "()I"⟩
abbrev cX0_margins : ByteArray := prog_2_method_13_code
def yX0_margins : MethodName := ⟨RX0, "margins", "()I"⟩
abbrev cX0_limitWidth : ByteArray := prog_2_method_14_code
def yX0_limitWidth : MethodName := ⟨RX0, "limitWidth", "(I)I"⟩
abbrev cX0_limitHeight : ByteArray := prog_2_method_15_code
def yX0_limitHeight : MethodName := ⟨RX0, "limitHeight", "(I)I"⟩
abbrev cX0_fixedSize : ByteArray := prog_2_method_16_code
def yX0_fixedSize : MethodName := ⟨RX0, "fixedSize", "(I)I"⟩
abbrev cX0_alignment : ByteArray := prog_2_method_17_code
def yX0_alignment : MethodName := ⟨RX0, "alignment", "()I"⟩
abbrev cX0_textLines : ByteArray := prog_2_method_18_code
def yX0_textLines : MethodName := ⟨RX0, "textLines", "()I"⟩
abbrev cX0_covers : ByteArray := prog_2_method_19_code
def yX0_covers : MethodName := ⟨RX0, "covers", "(II)Z"⟩
def RX1 : String := "FlexibleBoxes$Flex"
def TX1 : u_T := fun k => match k with
  | 0 => ("FlexibleBoxes$Flex", "bases", "[I", true)
  | 1 => ("FlexibleBoxes$Flex", "leasts", "[I", true)
  | 2 => ("FlexibleBoxes$Flex", "greatests", "[I", true)
  | 3 => ("FlexibleBoxes$Flex", "grows", "[I", true)
  | 4 => ("FlexibleBoxes$Flex", "shrinks", "[I", true)
  | 5 => ("FlexibleBoxes$Flex", "factors", "[I", true)
  | 6 => ("FlexibleBoxes$Flex", "sizes", "[I", true)
  | 7 => ("FlexibleBoxes$Flex", "deviations", "[I", true)
  | 8 => ("FlexibleBoxes$Flex", "settled", "[Z", true)
  | 9 => ("FlexibleBoxes$Flex", "count", "I", false)
  | _ => ("FlexibleBoxes$Flex", "margins", "I", false)
def tyX1 : Nat → FieldType := fun k => match k with
  | 0 => .array .int
  | 1 => .array .int
  | 2 => .array .int
  | 3 => .array .int
  | 4 => .array .int
  | 5 => .array .int
  | 6 => .array .int
  | 7 => .array .int
  | 8 => .array .boolean
  | 9 => .int
  | _ => .int
abbrev wsX10 : List Cond := u_ws RX1 TX1 11
theorem nmX1 : ∀ a, a < 11 → ∀ b, b < 11 → a ≠ b → (TX1 a).2.1 ≠ (TX1 b).2.1 := by decide +kernel
theorem tyX1_ok : ∀ k, k < 11 → parseFieldDescriptor (TX1 k).2.2.1 = some (tyX1 k) := by decide +kernel
abbrev cX1_init : ByteArray := prog_3_method_1_code
def yX1_init : MethodName := ⟨RX1, "<init>", "()V"⟩
abbrev cX1_clear : ByteArray := prog_3_method_2_code
def yX1_clear : MethodName := ⟨RX1, "clear", "()V"⟩
abbrev cX1_put : ByteArray := prog_3_method_3_code
def yX1_put : MethodName := ⟨RX1, "put", "(LFlexibleBoxes$Box;Z)V"⟩
abbrev cX1_baseOf : ByteArray := prog_3_method_4_code
def yX1_baseOf : MethodName := ⟨RX1, "baseOf", "(LFlexibleBoxes$Box;Z)I"⟩
abbrev cX1_sizeAt : ByteArray := prog_3_method_5_code
def yX1_sizeAt : MethodName := ⟨RX1, "sizeAt", "(I)I"⟩
abbrev cX1_share : ByteArray := prog_3_method_6_code
def yX1_share : MethodName := ⟨RX1, "share", "(II)V"⟩
abbrev cX1_begin : ByteArray := prog_3_method_7_code
def yX1_begin : MethodName := ⟨RX1, "begin", "()I"⟩
abbrev cX1_restOf : ByteArray := prog_3_method_8_code
def yX1_restOf : MethodName := ⟨RX1, "restOf", "(I)I"⟩
abbrev cX1_openFactors : ByteArray := prog_3_method_9_code
def yX1_openFactors : MethodName := ⟨RX1, "openFactors", "()J"⟩
abbrev cX1_propose : ByteArray := prog_3_method_10_code
def yX1_propose : MethodName := ⟨RX1, "propose", "(JJZ)J"⟩
abbrev cX1_settle : ByteArray := prog_3_method_11_code
def yX1_settle : MethodName := ⟨RX1, "settle", "(J)V"⟩
def RX2 : String := "FlexibleBoxes$Layout"
def TX2 : u_T := fun k => match k with
  | 0 => ("FlexibleBoxes$Layout", "tree", "LFlexibleBoxes$Tree;", true)
  | 1 => ("FlexibleBoxes$Layout", "flex", "LFlexibleBoxes$Flex;", true)
  | _ => ("FlexibleBoxes$Layout", "stale", "Z", false)
def tyX2 : Nat → FieldType := fun k => match k with
  | 0 => .object "FlexibleBoxes$Tree"
  | 1 => .object "FlexibleBoxes$Flex"
  | _ => .boolean
abbrev wsX20 : List Cond := u_ws RX2 TX2 3
theorem nmX2 : ∀ a, a < 3 → ∀ b, b < 3 → a ≠ b → (TX2 a).2.1 ≠ (TX2 b).2.1 := by decide +kernel
theorem tyX2_ok : ∀ k, k < 3 → parseFieldDescriptor (TX2 k).2.2.1 = some (tyX2 k) := by decide +kernel
abbrev cX2_init : ByteArray := prog_4_method_1_code
def yX2_init : MethodName := ⟨RX2, "<init>", "(LFlexibleBoxes$Tree;)V"⟩
abbrev cX2_arrange : ByteArray := prog_4_method_2_code
def yX2_arrange : MethodName := ⟨RX2, "arrange", "()V"⟩
abbrev cX2_measureWidth : ByteArray := prog_4_method_3_code
def yX2_measureWidth : MethodName := ⟨RX2, "measureWidth", "(LFlexibleBoxes$Box;)V"⟩
abbrev cX2_contentWidth : ByteArray := prog_4_method_4_code
def yX2_contentWidth : MethodName := ⟨RX2, "contentWidth", "(LFlexibleBoxes$Box;)I"⟩
abbrev cX2_spreadWidths : ByteArray := prog_4_method_5_code
def yX2_spreadWidths : MethodName := ⟨RX2, "spreadWidths", "(LFlexibleBoxes$Box;)V"⟩
abbrev cX2_spreadColumn : ByteArray := prog_4_method_6_code
def yX2_spreadColumn : MethodName := ⟨RX2, "spreadColumn", "(LFlexibleBoxes$Box;)V"⟩
abbrev cX2_breakLines : ByteArray := prog_4_method_7_code
def yX2_breakLines : MethodName := ⟨RX2, "breakLines", "(LFlexibleBoxes$Box;)V"⟩
abbrev cX2_lineEnd : ByteArray := prog_4_method_8_code
def yX2_lineEnd : MethodName := ⟨RX2, "lineEnd", "(LFlexibleBoxes$Box;)LFlexibleBoxes$Box;"⟩
abbrev cX2_flexKids : ByteArray := prog_4_method_9_code
def yX2_flexKids : MethodName := ⟨RX2, "flexKids", "(LFlexibleBoxes$Box;LFlexibleBoxes$Box;ZII)V"⟩
abbrev cX2_measureHeight : ByteArray := prog_4_method_10_code
def yX2_measureHeight : MethodName := ⟨RX2, "measureHeight", "(LFlexibleBoxes$Box;)V"⟩
abbrev cX2_contentHeight : ByteArray := prog_4_method_11_code
def yX2_contentHeight : MethodName := ⟨RX2, "contentHeight", "(LFlexibleBoxes$Box;)I"⟩
abbrev cX2_lineHeight : ByteArray := prog_4_method_12_code
def yX2_lineHeight : MethodName := ⟨RX2, "lineHeight", "(LFlexibleBoxes$Box;LFlexibleBoxes$Box;)I"⟩
abbrev cX2_placeRow : ByteArray := prog_4_method_13_code
def yX2_placeRow : MethodName := ⟨RX2, "placeRow", "(LFlexibleBoxes$Box;)V"⟩
abbrev cX2_placeColumn : ByteArray := prog_4_method_14_code
def yX2_placeColumn : MethodName := ⟨RX2, "placeColumn", "(LFlexibleBoxes$Box;)V"⟩
abbrev cX2_placeLine : ByteArray := prog_4_method_15_code
def yX2_placeLine : MethodName := ⟨RX2, "placeLine", "(LFlexibleBoxes$Box;LFlexibleBoxes$Box;LFlexibleBoxes$Box;II)V"⟩
abbrev cX2_heightInLine : ByteArray := prog_4_method_16_code
def yX2_heightInLine : MethodName := ⟨RX2, "heightInLine", "(LFlexibleBoxes$Box;I)I"⟩
abbrev cX2_justifyShift : ByteArray := prog_4_method_17_code
def yX2_justifyShift : MethodName := ⟨RX2, "justifyShift", "(IIII)I"⟩
abbrev cX2_alignShift : ByteArray := prog_4_method_18_code
def yX2_alignShift : MethodName := ⟨RX2, "alignShift", "(II)I"⟩
abbrev cX2_kidsOverflow : ByteArray := prog_4_method_19_code
def yX2_kidsOverflow : MethodName := ⟨RX2, "kidsOverflow", "(LFlexibleBoxes$Box;)I"⟩
abbrev cX2_textOverflow : ByteArray := prog_4_method_20_code
def yX2_textOverflow : MethodName := ⟨RX2, "textOverflow", "(LFlexibleBoxes$Box;)I"⟩
abbrev cX2_topmostAt : ByteArray := prog_4_method_21_code
def yX2_topmostAt : MethodName := ⟨RX2, "topmostAt", "(II)I"⟩
abbrev cX2_paintedAfter : ByteArray := prog_4_method_22_code
def yX2_paintedAfter : MethodName := ⟨RX2, "paintedAfter", "(LFlexibleBoxes$Box;)LFlexibleBoxes$Box;"⟩
abbrev cX2_narrowestFor : ByteArray := prog_4_method_23_code
def yX2_narrowestFor : MethodName := ⟨RX2, "narrowestFor", "(LFlexibleBoxes$Box;I)I"⟩
abbrev cX2_linesVary : ByteArray := prog_4_method_24_code
def yX2_linesVary : MethodName := ⟨RX2, "linesVary", "(LFlexibleBoxes$Box;)Z"⟩
abbrev cX2_linesAt : ByteArray := prog_4_method_25_code
def yX2_linesAt : MethodName := ⟨RX2, "linesAt", "(LFlexibleBoxes$Box;I)I"⟩
def RX3 : String := "FlexibleBoxes$Snapshot"
def TX3 : u_T := fun k => match k with
  | 0 => ("FlexibleBoxes$Snapshot", "exists", "[Z", true)
  | 1 => ("FlexibleBoxes$Snapshot", "parents", "[I", true)
  | 2 => ("FlexibleBoxes$Snapshot", "styles", "[[I", true)
  | 3 => ("FlexibleBoxes$Snapshot", "given", "I", false)
  | 4 => ("FlexibleBoxes$Snapshot", "viewportWidth", "I", false)
  | _ => ("FlexibleBoxes$Snapshot", "viewportHeight", "I", false)
def tyX3 : Nat → FieldType := fun k => match k with
  | 0 => .array .boolean
  | 1 => .array .int
  | 2 => .array (.array .int)
  | 3 => .int
  | 4 => .int
  | _ => .int
abbrev wsX30 : List Cond := u_ws RX3 TX3 6
theorem nmX3 : ∀ a, a < 6 → ∀ b, b < 6 → a ≠ b → (TX3 a).2.1 ≠ (TX3 b).2.1 := by decide +kernel
theorem tyX3_ok : ∀ k, k < 6 → parseFieldDescriptor (TX3 k).2.2.1 = some (tyX3 k) := by decide +kernel
abbrev cX3_init : ByteArray := prog_5_method_1_code
def yX3_init : MethodName := ⟨RX3, "<init>", "()V"⟩
def RX4 : String := "FlexibleBoxes$Tree"
def TX4 : u_T := fun k => match k with
  | 0 => ("FlexibleBoxes$Tree", "boxes", "[LFlexibleBoxes$Box;", true)
  | 1 => ("FlexibleBoxes$Tree", "root", "LFlexibleBoxes$Box;", true)
  | 2 => ("FlexibleBoxes$Tree", "given", "I", false)
  | 3 => ("FlexibleBoxes$Tree", "viewportWidth", "I", false)
  | _ => ("FlexibleBoxes$Tree", "viewportHeight", "I", false)
def tyX4 : Nat → FieldType := fun k => match k with
  | 0 => .array (.object "FlexibleBoxes$Box")
  | 1 => .object "FlexibleBoxes$Box"
  | 2 => .int
  | 3 => .int
  | _ => .int
abbrev wsX40 : List Cond := u_ws RX4 TX4 5
theorem nmX4 : ∀ a, a < 5 → ∀ b, b < 5 → a ≠ b → (TX4 a).2.1 ≠ (TX4 b).2.1 := by decide +kernel
theorem tyX4_ok : ∀ k, k < 5 → parseFieldDescriptor (TX4 k).2.2.1 = some (tyX4 k) := by decide +kernel
abbrev cX4_init : ByteArray := prog_6_method_1_code
def yX4_init : MethodName := ⟨RX4, "<init>", "()V"⟩
abbrev cX4_at : ByteArray := prog_6_method_2_code
def yX4_at : MethodName := ⟨RX4, "at", "(I)LFlexibleBoxes$Box;"⟩
abbrev cX4_shownAt : ByteArray := prog_6_method_3_code
def yX4_shownAt : MethodName := ⟨RX4, "shownAt", "(I)LFlexibleBoxes$Box;"⟩
abbrev cX4_isFull : ByteArray := prog_6_method_4_code
def yX4_isFull : MethodName := ⟨RX4, "isFull", "()Z"⟩
abbrev cX4_append : ByteArray := prog_6_method_5_code
def yX4_append : MethodName := ⟨RX4, "append", "(LFlexibleBoxes$Box;)I"⟩
abbrev cX4_cut : ByteArray := prog_6_method_6_code
def yX4_cut : MethodName := ⟨RX4, "cut", "(LFlexibleBoxes$Box;)I"⟩
abbrev cX4_count : ByteArray := prog_6_method_7_code
def yX4_count : MethodName := ⟨RX4, "count", "()I"⟩
abbrev cX4_link : ByteArray := prog_6_method_8_code
def yX4_link : MethodName := ⟨RX4, "link", "()V"⟩
abbrev cX4_copyTo : ByteArray := prog_6_method_9_code
def yX4_copyTo : MethodName := ⟨RX4, "copyTo", "(LFlexibleBoxes$Snapshot;)V"⟩
abbrev cX4_takeFrom : ByteArray := prog_6_method_10_code
def yX4_takeFrom : MethodName := ⟨RX4, "takeFrom", "(LFlexibleBoxes$Snapshot;)V"⟩
def RX5 : String := "FlexibleBoxes"
def TX5 : u_T := fun k => match k with
  | 0 => ("FlexibleBoxes", "tree", "LFlexibleBoxes$Tree;", true)
  | 1 => ("FlexibleBoxes", "layout", "LFlexibleBoxes$Layout;", true)
  | _ => ("FlexibleBoxes", "slots", "[LFlexibleBoxes$Snapshot;", true)
def tyX5 : Nat → FieldType := fun k => match k with
  | 0 => .object "FlexibleBoxes$Tree"
  | 1 => .object "FlexibleBoxes$Layout"
  | _ => .array (.object "FlexibleBoxes$Snapshot")
abbrev wsX50 : List Cond := u_ws RX5 TX5 3
theorem nmX5 : ∀ a, a < 3 → ∀ b, b < 3 → a ≠ b → (TX5 a).2.1 ≠ (TX5 b).2.1 := by decide +kernel
theorem tyX5_ok : ∀ k, k < 3 → parseFieldDescriptor (TX5 k).2.2.1 = some (tyX5 k) := by decide +kernel
abbrev cX5_init : ByteArray := prog_1_method_1_code
def yX5_init : MethodName := ⟨RX5, "<init>", "()V"⟩
abbrev cX5_add : ByteArray := prog_1_method_2_code
def yX5_add : MethodName := ⟨RX5, "add", "(I)I"⟩
abbrev cX5_remove : ByteArray := prog_1_method_3_code
def yX5_remove : MethodName := ⟨RX5, "remove", "(I)I"⟩
abbrev cX5_boxes : ByteArray := prog_1_method_4_code
def yX5_boxes : MethodName := ⟨RX5, "boxes", "()I"⟩
abbrev cX5_parent : ByteArray := prog_1_method_5_code
def yX5_parent : MethodName := ⟨RX5, "parent", "(I)I"⟩
abbrev cX5_child : ByteArray := prog_1_method_6_code
def yX5_child : MethodName := ⟨RX5, "child", "(II)I"⟩
abbrev cX5_set : ByteArray := prog_1_method_7_code
def yX5_set : MethodName := ⟨RX5, "set", "(III)I"⟩
abbrev cX5_get : ByteArray := prog_1_method_8_code
def yX5_get : MethodName := ⟨RX5, "get", "(II)I"⟩
abbrev cX5_copyStyle : ByteArray := prog_1_method_9_code
def yX5_copyStyle : MethodName := ⟨RX5, "copyStyle", "(II)I"⟩
abbrev cX5_viewport : ByteArray := prog_1_method_10_code
def yX5_viewport : MethodName := ⟨RX5, "viewport", "(II)V"⟩
abbrev cX5_x : ByteArray := prog_1_method_11_code
def yX5_x : MethodName := ⟨RX5, "x", "(I)I"⟩
abbrev cX5_y : ByteArray := prog_1_method_12_code
def yX5_y : MethodName := ⟨RX5, "y", "(I)I"⟩
abbrev cX5_width : ByteArray := prog_1_method_13_code
def yX5_width : MethodName := ⟨RX5, "width", "(I)I"⟩
abbrev cX5_height : ByteArray := prog_1_method_14_code
def yX5_height : MethodName := ⟨RX5, "height", "(I)I"⟩
abbrev cX5_naturalWidth : ByteArray := prog_1_method_15_code
def yX5_naturalWidth : MethodName := ⟨RX5, "naturalWidth", "(I)I"⟩
abbrev cX5_naturalHeight : ByteArray := prog_1_method_16_code
def yX5_naturalHeight : MethodName := ⟨RX5, "naturalHeight", "(I)I"⟩
abbrev cX5_lines : ByteArray := prog_1_method_17_code
def yX5_lines : MethodName := ⟨RX5, "lines", "(I)I"⟩
abbrev cX5_lineOf : ByteArray := prog_1_method_18_code
def yX5_lineOf : MethodName := ⟨RX5, "lineOf", "(I)I"⟩
abbrev cX5_overflow : ByteArray := prog_1_method_19_code
def yX5_overflow : MethodName := ⟨RX5, "overflow", "(I)I"⟩
abbrev cX5_hit : ByteArray := prog_1_method_20_code
def yX5_hit : MethodName := ⟨RX5, "hit", "(II)I"⟩
abbrev cX5_widthFor : ByteArray := prog_1_method_21_code
def yX5_widthFor : MethodName := ⟨RX5, "widthFor", "(II)I"⟩
abbrev cX5_save : ByteArray := prog_1_method_22_code
def yX5_save : MethodName := ⟨RX5, "save", "(I)V"⟩
abbrev cX5_restore : ByteArray := prog_1_method_23_code
def yX5_restore : MethodName := ⟨RX5, "restore", "(I)V"⟩
abbrev cX5_existing : ByteArray := prog_1_method_24_code
def yX5_existing : MethodName := ⟨RX5, "existing", "(I)LFlexibleBoxes$Box;"⟩
abbrev cX5_laidOut : ByteArray := prog_1_method_25_code
def yX5_laidOut : MethodName := ⟨RX5, "laidOut", "(LFlexibleBoxes$Box;)LFlexibleBoxes$Box;"⟩
abbrev cX5_isProperty : ByteArray := prog_1_method_26_code
def yX5_isProperty : MethodName := ⟨RX5, "isProperty", "(I)Z"⟩
abbrev cX5_isViewportLength : ByteArray := prog_1_method_27_code
def yX5_isViewportLength : MethodName := ⟨RX5, "isViewportLength", "(I)Z"⟩
abbrev cX5_limited : ByteArray := prog_1_method_28_code
def yX5_limited : MethodName := ⟨RX5, "limited", "(III)I"⟩
abbrev cX5_gaps : ByteArray := prog_1_method_29_code
def yX5_gaps : MethodName := ⟨RX5, "gaps", "(II)I"⟩
def RX6 : String := "FlexibleBoxesModel"
def TX6 : u_T := fun k => match k with
  | 0 => ("FlexibleBoxesModel", "at", "[I", true)
  | 1 => ("FlexibleBoxesModel", "slots", "[I", true)
  | 2 => ("FlexibleBoxesModel", "isSaved", "[Z", true)
  | 3 => ("FlexibleBoxesModel", "thrown", "I", false)
  | 4 => ("FlexibleBoxesModel", "kids", "[I", true)
  | 5 => ("FlexibleBoxesModel", "kidMany", "I", false)
  | 6 => ("FlexibleBoxesModel", "isShown", "[Z", true)
  | 7 => ("FlexibleBoxesModel", "natural", "[I", true)
  | 8 => ("FlexibleBoxesModel", "size", "[I", true)
  | 9 => ("FlexibleBoxesModel", "place", "[I", true)
  | 10 => ("FlexibleBoxesModel", "lineAt", "[I", true)
  | 11 => ("FlexibleBoxesModel", "lineMany", "[I", true)
  | 12 => ("FlexibleBoxesModel", "isFixed", "[Z", true)
  | 13 => ("FlexibleBoxesModel", "factor", "[J", true)
  | 14 => ("FlexibleBoxesModel", "proposed", "[I", true)
  | _ => ("FlexibleBoxesModel", "waiting", "[I", true)
def tyX6 : Nat → FieldType := fun k => match k with
  | 0 => .array .int
  | 1 => .array .int
  | 2 => .array .boolean
  | 3 => .int
  | 4 => .array .int
  | 5 => .int
  | 6 => .array .boolean
  | 7 => .array .int
  | 8 => .array .int
  | 9 => .array .int
  | 10 => .array .int
  | 11 => .array .int
  | 12 => .array .boolean
  | 13 => .array .long
  | 14 => .array .int
  | _ => .array .int
abbrev wsX60 : List Cond := u_ws RX6 TX6 16
theorem nmX6 : ∀ a, a < 16 → ∀ b, b < 16 → a ≠ b → (TX6 a).2.1 ≠ (TX6 b).2.1 := by decide +kernel
theorem tyX6_ok : ∀ k, k < 16 → parseFieldDescriptor (TX6 k).2.2.1 = some (tyX6 k) := by decide +kernel
abbrev cX6_init : ByteArray := prog_8_method_1_code
def yX6_init : MethodName := ⟨RX6, "<init>", "()V"⟩
abbrev cX6_thrown : ByteArray := prog_8_method_2_code
def yX6_thrown : MethodName := ⟨RX6, "thrown", "()I"⟩
abbrev cX6_in : ByteArray := prog_8_method_3_code
def yX6_in : MethodName := ⟨RX6, "in", "(III)Z"⟩
abbrev cX6_low : ByteArray := prog_8_method_4_code
def yX6_low : MethodName := ⟨RX6, "low", "(I)I"⟩
abbrev cX6_high : ByteArray := prog_8_method_5_code
def yX6_high : MethodName := ⟨RX6, "high", "(I)I"⟩
abbrev cX6_firstOf : ByteArray := prog_8_method_6_code
def yX6_firstOf : MethodName := ⟨RX6, "firstOf", "(I)I"⟩
abbrev cX6_of : ByteArray := prog_8_method_7_code
def yX6_of : MethodName := ⟨RX6, "of", "(II)I"⟩
abbrev cX6_make : ByteArray := prog_8_method_8_code
def yX6_make : MethodName := ⟨RX6, "make", "(I)I"⟩
abbrev cX6_isBox : ByteArray := prog_8_method_9_code
def yX6_isBox : MethodName := ⟨RX6, "isBox", "(I)Z"⟩
abbrev cX6_add : ByteArray := prog_8_method_10_code
def yX6_add : MethodName := ⟨RX6, "add", "(I)I"⟩
abbrev cX6_remove : ByteArray := prog_8_method_11_code
def yX6_remove : MethodName := ⟨RX6, "remove", "(I)I"⟩
abbrev cX6_boxes : ByteArray := prog_8_method_12_code
def yX6_boxes : MethodName := ⟨RX6, "boxes", "()I"⟩
abbrev cX6_parent : ByteArray := prog_8_method_13_code
def yX6_parent : MethodName := ⟨RX6, "parent", "(I)I"⟩
abbrev cX6_isChild : ByteArray := prog_8_method_14_code
def yX6_isChild : MethodName := ⟨RX6, "isChild", "(II)Z"⟩
abbrev cX6_isAhead : ByteArray := prog_8_method_15_code
def yX6_isAhead : MethodName := ⟨RX6, "isAhead", "(II)Z"⟩
abbrev cX6_layKids : ByteArray := prog_8_method_16_code
def yX6_layKids : MethodName := ⟨RX6, "layKids", "(I)V"⟩
abbrev cX6_isLeaf : ByteArray := prog_8_method_17_code
def yX6_isLeaf : MethodName := ⟨RX6, "isLeaf", "(I)Z"⟩
abbrev cX6_child : ByteArray := prog_8_method_18_code
def yX6_child : MethodName := ⟨RX6, "child", "(II)I"⟩
abbrev cX6_set : ByteArray := prog_8_method_19_code
def yX6_set : MethodName := ⟨RX6, "set", "(III)I"⟩
abbrev cX6_get : ByteArray := prog_8_method_20_code
def yX6_get : MethodName := ⟨RX6, "get", "(II)I"⟩
abbrev cX6_copyStyle : ByteArray := prog_8_method_21_code
def yX6_copyStyle : MethodName := ⟨RX6, "copyStyle", "(II)I"⟩
abbrev cX6_viewport : ByteArray := prog_8_method_22_code
def yX6_viewport : MethodName := ⟨RX6, "viewport", "(II)V"⟩
abbrev cX6_findShown : ByteArray := prog_8_method_23_code
def yX6_findShown : MethodName := ⟨RX6, "findShown", "()V"⟩
abbrev cX6_limited : ByteArray := prog_8_method_24_code
def yX6_limited : MethodName := ⟨RX6, "limited", "(III)I"⟩
abbrev cX6_notNegative : ByteArray := prog_8_method_25_code
def yX6_notNegative : MethodName := ⟨RX6, "notNegative", "(I)I"⟩
abbrev cX6_inner : ByteArray := prog_8_method_26_code
def yX6_inner : MethodName := ⟨RX6, "inner", "(II)I"⟩
abbrev cX6_outer : ByteArray := prog_8_method_27_code
def yX6_outer : MethodName := ⟨RX6, "outer", "(II)I"⟩
abbrev cX6_gapsOf : ByteArray := prog_8_method_28_code
def yX6_gapsOf : MethodName := ⟨RX6, "gapsOf", "(II)I"⟩
abbrev cX6_content : ByteArray := prog_8_method_29_code
def yX6_content : MethodName := ⟨RX6, "content", "(IIZ)I"⟩
abbrev cX6_setNatural : ByteArray := prog_8_method_30_code
def yX6_setNatural : MethodName := ⟨RX6, "setNatural", "(III)V"⟩
abbrev cX6_findNaturalWidths : ByteArray := prog_8_method_31_code
def yX6_findNaturalWidths : MethodName := ⟨RX6, "findNaturalWidths", "()V"⟩
abbrev cX6_alignment : ByteArray := prog_8_method_32_code
def yX6_alignment : MethodName := ⟨RX6, "alignment", "(I)I"⟩
abbrev cX6_baseOf : ByteArray := prog_8_method_33_code
def yX6_baseOf : MethodName := ⟨RX6, "baseOf", "(II)I"⟩
abbrev cX6_startOf : ByteArray := prog_8_method_34_code
def yX6_startOf : MethodName := ⟨RX6, "startOf", "(II)I"⟩
abbrev cX6_beginFlex : ByteArray := prog_8_method_35_code
def yX6_beginFlex : MethodName := ⟨RX6, "beginFlex", "(IIIII)Z"⟩
abbrev cX6_propose : ByteArray := prog_8_method_36_code
def yX6_propose : MethodName := ⟨RX6, "propose", "(IIIIIZ)V"⟩
abbrev cX6_deviation : ByteArray := prog_8_method_37_code
def yX6_deviation : MethodName := ⟨RX6, "deviation", "(II)I"⟩
abbrev cX6_fixSome : ByteArray := prog_8_method_38_code
def yX6_fixSome : MethodName := ⟨RX6, "fixSome", "(III)I"⟩
abbrev cX6_flex : ByteArray := prog_8_method_39_code
def yX6_flex : MethodName := ⟨RX6, "flex", "(IIIII)V"⟩
abbrev cX6_endOfLine : ByteArray := prog_8_method_40_code
def yX6_endOfLine : MethodName := ⟨RX6, "endOfLine", "(II)I"⟩
abbrev cX6_findLines : ByteArray := prog_8_method_41_code
def yX6_findLines : MethodName := ⟨RX6, "findLines", "(I)V"⟩
abbrev cX6_findColumnWidths : ByteArray := prog_8_method_42_code
def yX6_findColumnWidths : MethodName := ⟨RX6, "findColumnWidths", "(I)V"⟩
abbrev cX6_textLines : ByteArray := prog_8_method_43_code
def yX6_textLines : MethodName := ⟨RX6, "textLines", "(I)I"⟩
abbrev cX6_findWidths : ByteArray := prog_8_method_44_code
def yX6_findWidths : MethodName := ⟨RX6, "findWidths", "()V"⟩
abbrev cX6_lineHeight : ByteArray := prog_8_method_45_code
def yX6_lineHeight : MethodName := ⟨RX6, "lineHeight", "(I)I"⟩
abbrev cX6_rowContent : ByteArray := prog_8_method_46_code
def yX6_rowContent : MethodName := ⟨RX6, "rowContent", "(I)I"⟩
abbrev cX6_findNaturalHeights : ByteArray := prog_8_method_47_code
def yX6_findNaturalHeights : MethodName := ⟨RX6, "findNaturalHeights", "()V"⟩
abbrev cX6_moved : ByteArray := prog_8_method_48_code
def yX6_moved : MethodName := ⟨RX6, "moved", "(IIII)I"⟩
abbrev cX6_justify : ByteArray := prog_8_method_49_code
def yX6_justify : MethodName := ⟨RX6, "justify", "(IIII)V"⟩
abbrev cX6_align : ByteArray := prog_8_method_50_code
def yX6_align : MethodName := ⟨RX6, "align", "(IIII)V"⟩
abbrev cX6_placeColumn : ByteArray := prog_8_method_51_code
def yX6_placeColumn : MethodName := ⟨RX6, "placeColumn", "(I)V"⟩
abbrev cX6_setRowHeight : ByteArray := prog_8_method_52_code
def yX6_setRowHeight : MethodName := ⟨RX6, "setRowHeight", "(II)V"⟩
abbrev cX6_placeRow : ByteArray := prog_8_method_53_code
def yX6_placeRow : MethodName := ⟨RX6, "placeRow", "(I)V"⟩
abbrev cX6_findPlaces : ByteArray := prog_8_method_54_code
def yX6_findPlaces : MethodName := ⟨RX6, "findPlaces", "()V"⟩
abbrev cX6_layOut : ByteArray := prog_8_method_55_code
def yX6_layOut : MethodName := ⟨RX6, "layOut", "()V"⟩
abbrev cX6_hasLayout : ByteArray := prog_8_method_56_code
def yX6_hasLayout : MethodName := ⟨RX6, "hasLayout", "(I)Z"⟩
abbrev cX6_x : ByteArray := prog_8_method_57_code
def yX6_x : MethodName := ⟨RX6, "x", "(I)I"⟩
abbrev cX6_y : ByteArray := prog_8_method_58_code
def yX6_y : MethodName := ⟨RX6, "y", "(I)I"⟩
abbrev cX6_width : ByteArray := prog_8_method_59_code
def yX6_width : MethodName := ⟨RX6, "width", "(I)I"⟩
abbrev cX6_height : ByteArray := prog_8_method_60_code
def yX6_height : MethodName := ⟨RX6, "height", "(I)I"⟩
abbrev cX6_naturalWidth : ByteArray := prog_8_method_61_code
def yX6_naturalWidth : MethodName := ⟨RX6, "naturalWidth", "(I)I"⟩
abbrev cX6_naturalHeight : ByteArray := prog_8_method_62_code
def yX6_naturalHeight : MethodName := ⟨RX6, "naturalHeight", "(I)I"⟩
abbrev cX6_lines : ByteArray := prog_8_method_63_code
def yX6_lines : MethodName := ⟨RX6, "lines", "(I)I"⟩
abbrev cX6_lineOf : ByteArray := prog_8_method_64_code
def yX6_lineOf : MethodName := ⟨RX6, "lineOf", "(I)I"⟩
abbrev cX6_end : ByteArray := prog_8_method_65_code
def yX6_end : MethodName := ⟨RX6, "end", "(II)I"⟩
abbrev cX6_overflow : ByteArray := prog_8_method_66_code
def yX6_overflow : MethodName := ⟨RX6, "overflow", "(I)I"⟩
abbrev cX6_covers : ByteArray := prog_8_method_67_code
def yX6_covers : MethodName := ⟨RX6, "covers", "(III)Z"⟩
abbrev cX6_hit : ByteArray := prog_8_method_68_code
def yX6_hit : MethodName := ⟨RX6, "hit", "(II)I"⟩
abbrev cX6_widthFor : ByteArray := prog_8_method_69_code
def yX6_widthFor : MethodName := ⟨RX6, "widthFor", "(II)I"⟩
abbrev cX6_save : ByteArray := prog_8_method_70_code
def yX6_save : MethodName := ⟨RX6, "save", "(I)V"⟩
abbrev cX6_restore : ByteArray := prog_8_method_71_code
def yX6_restore : MethodName := ⟨RX6, "restore", "(I)V"⟩
def RJ9 : String := "java/lang/Math"
def TJ9 : u_T := fun k => match k with
  | _ => ("", "", "", false)
def tyJ9 : Nat → FieldType := fun k => match k with
  | _ => .int
abbrev wsJ90 : List Cond := u_ws RJ9 TJ9 0
theorem nmJ9 : ∀ a, a < 0 → ∀ b, b < 0 → a ≠ b → (TJ9 a).2.1 ≠ (TJ9 b).2.1 := by decide +kernel
theorem tyJ9_ok : ∀ k, k < 0 → parseFieldDescriptor (TJ9 k).2.2.1 = some (tyJ9 k) := by decide +kernel
abbrev cJ9_max_7cf53 : ByteArray := prog_13_method_65_code
def yJ9_max_7cf53 : MethodName := ⟨RJ9, "max", "(II)I"⟩
abbrev cJ9_min_7cf53 : ByteArray := prog_13_method_69_code
def yJ9_min_7cf53 : MethodName := ⟨RJ9, "min", "(II)I"⟩
def RJ0 : String := "java/lang/String"
def TJ0 : u_T := fun k => match k with
  | _ => ("", "", "", false)
def tyJ0 : Nat → FieldType := fun k => match k with
  | _ => .int
abbrev wsJ00 : List Cond := u_ws RJ0 TJ0 0
theorem nmJ0 : ∀ a, a < 0 → ∀ b, b < 0 → a ≠ b → (TJ0 a).2.1 ≠ (TJ0 b).2.1 := by decide +kernel
theorem tyJ0_ok : ∀ k, k < 0 → parseFieldDescriptor (TJ0 k).2.2.1 = some (tyJ0 k) := by decide +kernel
def RJ10 : String := "java/lang/System"
def TJ10 : u_T := fun k => match k with
  | _ => ("", "", "", false)
def tyJ10 : Nat → FieldType := fun k => match k with
  | _ => .int
abbrev wsJ100 : List Cond := u_ws RJ10 TJ10 0
theorem nmJ10 : ∀ a, a < 0 → ∀ b, b < 0 → a ≠ b → (TJ10 a).2.1 ≠ (TJ10 b).2.1 := by decide +kernel
theorem tyJ10_ok : ∀ k, k < 0 → parseFieldDescriptor (TJ10 k).2.2.1 = some (tyJ10 k) := by decide +kernel
def RL : String := "FlexibleBoxesLaw"
abbrev cL_add : ByteArray := method_3_code
def yL_add : MethodName := ⟨RL, "add", "(LFlexibleBoxes;I[J)I"⟩
abbrev cL_remove : ByteArray := method_4_code
def yL_remove : MethodName := ⟨RL, "remove", "(LFlexibleBoxes;I[J)I"⟩
abbrev cL_parent : ByteArray := method_5_code
def yL_parent : MethodName := ⟨RL, "parent", "(LFlexibleBoxes;I[J)I"⟩
abbrev cL_child : ByteArray := method_6_code
def yL_child : MethodName := ⟨RL, "child", "(LFlexibleBoxes;II[J)I"⟩
abbrev cL_set : ByteArray := method_7_code
def yL_set : MethodName := ⟨RL, "set", "(LFlexibleBoxes;III[J)I"⟩
abbrev cL_get : ByteArray := method_8_code
def yL_get : MethodName := ⟨RL, "get", "(LFlexibleBoxes;II[J)I"⟩
abbrev cL_copyStyle : ByteArray := method_9_code
def yL_copyStyle : MethodName := ⟨RL, "copyStyle", "(LFlexibleBoxes;II[J)I"⟩
abbrev cL_viewport : ByteArray := method_10_code
def yL_viewport : MethodName := ⟨RL, "viewport", "(LFlexibleBoxes;II)I"⟩
abbrev cL_x : ByteArray := method_11_code
def yL_x : MethodName := ⟨RL, "x", "(LFlexibleBoxes;I[J)I"⟩
abbrev cL_y : ByteArray := method_12_code
def yL_y : MethodName := ⟨RL, "y", "(LFlexibleBoxes;I[J)I"⟩
abbrev cL_width : ByteArray := method_13_code
def yL_width : MethodName := ⟨RL, "width", "(LFlexibleBoxes;I[J)I"⟩
abbrev cL_height : ByteArray := method_14_code
def yL_height : MethodName := ⟨RL, "height", "(LFlexibleBoxes;I[J)I"⟩
abbrev cL_naturalWidth : ByteArray := method_15_code
def yL_naturalWidth : MethodName := ⟨RL, "naturalWidth", "(LFlexibleBoxes;I[J)I"⟩
abbrev cL_naturalHeight : ByteArray := method_16_code
def yL_naturalHeight : MethodName := ⟨RL, "naturalHeight", "(LFlexibleBoxes;I[J)I"⟩
abbrev cL_lines : ByteArray := method_17_code
def yL_lines : MethodName := ⟨RL, "lines", "(LFlexibleBoxes;I[J)I"⟩
abbrev cL_lineOf : ByteArray := method_18_code
def yL_lineOf : MethodName := ⟨RL, "lineOf", "(LFlexibleBoxes;I[J)I"⟩
abbrev cL_overflow : ByteArray := method_19_code
def yL_overflow : MethodName := ⟨RL, "overflow", "(LFlexibleBoxes;I[J)I"⟩
abbrev cL_widthFor : ByteArray := method_20_code
def yL_widthFor : MethodName := ⟨RL, "widthFor", "(LFlexibleBoxes;II[J)I"⟩
abbrev cL_save : ByteArray := method_21_code
def yL_save : MethodName := ⟨RL, "save", "(LFlexibleBoxes;I)I"⟩
abbrev cL_restore : ByteArray := method_22_code
def yL_restore : MethodName := ⟨RL, "restore", "(LFlexibleBoxes;I)I"⟩
abbrev cL_law : ByteArray := code
def yL_law : MethodName := ⟨RL, "law", "([I)Z"⟩
abbrev vwCl : List vw_C := [(RX0, TX0, 18), (RX1, TX1, 11), (RX2, TX2, 3), (RX3, TX3, 6), (RX4, TX4, 5), (RX5, TX5, 3), (RX6, TX6, 16)]
/-- the words that every method takes: the good ones of the tables -/
def zU : List Cond := lw_tbl.filter goodWord
theorem zin1 {w : Cond} (h : w ∈ tables_1_1) (hg : goodWord w = true) : w ∈ zU := List.mem_filter.mpr ⟨List.mem_append_right _ (show w ∈ tables_1 from List.mem_append_left _ h), hg⟩
theorem zin2 {w : Cond} (h : w ∈ tables_1_2) (hg : goodWord w = true) : w ∈ zU := List.mem_filter.mpr ⟨List.mem_append_right _ (show w ∈ tables_1 from List.mem_append_right _ (List.mem_append_left _ h)), hg⟩
theorem zin3 {w : Cond} (h : w ∈ tables_1_3) (hg : goodWord w = true) : w ∈ zU := List.mem_filter.mpr ⟨List.mem_append_right _ (show w ∈ tables_1 from List.mem_append_right _ (List.mem_append_right _ (List.mem_append_left _ h))), hg⟩
theorem zin4 {w : Cond} (h : w ∈ tables_1_4) (hg : goodWord w = true) : w ∈ zU := List.mem_filter.mpr ⟨List.mem_append_right _ (show w ∈ tables_1 from List.mem_append_right _ (List.mem_append_right _ (List.mem_append_right _ (List.mem_append_left _ h)))), hg⟩
theorem zin5 {w : Cond} (h : w ∈ tables_1_5) (hg : goodWord w = true) : w ∈ zU := List.mem_filter.mpr ⟨List.mem_append_right _ (show w ∈ tables_1 from List.mem_append_right _ (List.mem_append_right _ (List.mem_append_right _ (List.mem_append_right _ (h))))), hg⟩
theorem zin_t {w : Cond} (h : w ∈ zU) : w ∈ lw_tbl := (List.mem_filter.mp h).1
theorem zin_g {w : Cond} (h : w ∈ zU) : goodWord w = true := (List.mem_filter.mp h).2
theorem zs_X2_spreadWidths : Cond.selects RX2 yX2_spreadWidths yX2_spreadWidths ∈ zU := List.mem_filter.mpr ⟨List.mem_append_left _ (List.mem_map.mpr ⟨(⟨"FlexibleBoxes$Layout", "spreadWidths", "(LFlexibleBoxes$Box;)V"⟩, 3), (show _ ∈ lw_privs from List.mem_append_left _ (List.mem_of_getElem? (i := 0) rfl : (⟨"FlexibleBoxes$Layout", "spreadWidths", "(LFlexibleBoxes$Box;)V"⟩, 3) ∈ lw_privs_1)), rfl⟩), rfl⟩
theorem zs_X2_flexKids : Cond.selects RX2 yX2_flexKids yX2_flexKids ∈ zU := List.mem_filter.mpr ⟨List.mem_append_left _ (List.mem_map.mpr ⟨(⟨"FlexibleBoxes$Layout", "flexKids", "(LFlexibleBoxes$Box;LFlexibleBoxes$Box;ZII)V"⟩, 3), (show _ ∈ lw_privs from List.mem_append_left _ (List.mem_of_getElem? (i := 1) rfl : (⟨"FlexibleBoxes$Layout", "flexKids", "(LFlexibleBoxes$Box;LFlexibleBoxes$Box;ZII)V"⟩, 3) ∈ lw_privs_1)), rfl⟩), rfl⟩
theorem zs_X1_begin : Cond.selects RX1 yX1_begin yX1_begin ∈ zU := List.mem_filter.mpr ⟨List.mem_append_left _ (List.mem_map.mpr ⟨(⟨"FlexibleBoxes$Flex", "begin", "()I"⟩, 11), (show _ ∈ lw_privs from List.mem_append_left _ (List.mem_of_getElem? (i := 2) rfl : (⟨"FlexibleBoxes$Flex", "begin", "()I"⟩, 11) ∈ lw_privs_1)), rfl⟩), rfl⟩
theorem zs_X1_openFactors : Cond.selects RX1 yX1_openFactors yX1_openFactors ∈ zU := List.mem_filter.mpr ⟨List.mem_append_left _ (List.mem_map.mpr ⟨(⟨"FlexibleBoxes$Flex", "openFactors", "()J"⟩, 11), (show _ ∈ lw_privs from List.mem_append_left _ (List.mem_of_getElem? (i := 3) rfl : (⟨"FlexibleBoxes$Flex", "openFactors", "()J"⟩, 11) ∈ lw_privs_1)), rfl⟩), rfl⟩
theorem zs_X1_restOf : Cond.selects RX1 yX1_restOf yX1_restOf ∈ zU := List.mem_filter.mpr ⟨List.mem_append_left _ (List.mem_map.mpr ⟨(⟨"FlexibleBoxes$Flex", "restOf", "(I)I"⟩, 11), (show _ ∈ lw_privs from List.mem_append_left _ (List.mem_of_getElem? (i := 4) rfl : (⟨"FlexibleBoxes$Flex", "restOf", "(I)I"⟩, 11) ∈ lw_privs_1)), rfl⟩), rfl⟩
theorem zs_X1_propose : Cond.selects RX1 yX1_propose yX1_propose ∈ zU := List.mem_filter.mpr ⟨List.mem_append_left _ (List.mem_map.mpr ⟨(⟨"FlexibleBoxes$Flex", "propose", "(JJZ)J"⟩, 11), (show _ ∈ lw_privs from List.mem_append_left _ (List.mem_of_getElem? (i := 5) rfl : (⟨"FlexibleBoxes$Flex", "propose", "(JJZ)J"⟩, 11) ∈ lw_privs_1)), rfl⟩), rfl⟩
theorem zs_X1_settle : Cond.selects RX1 yX1_settle yX1_settle ∈ zU := List.mem_filter.mpr ⟨List.mem_append_left _ (List.mem_map.mpr ⟨(⟨"FlexibleBoxes$Flex", "settle", "(J)V"⟩, 11), (show _ ∈ lw_privs from List.mem_append_left _ (List.mem_of_getElem? (i := 6) rfl : (⟨"FlexibleBoxes$Flex", "settle", "(J)V"⟩, 11) ∈ lw_privs_1)), rfl⟩), rfl⟩
theorem zs_X2_placeColumn : Cond.selects RX2 yX2_placeColumn yX2_placeColumn ∈ zU := List.mem_filter.mpr ⟨List.mem_append_left _ (List.mem_map.mpr ⟨(⟨"FlexibleBoxes$Layout", "placeColumn", "(LFlexibleBoxes$Box;)V"⟩, 3), (show _ ∈ lw_privs from List.mem_append_left _ (List.mem_of_getElem? (i := 7) rfl : (⟨"FlexibleBoxes$Layout", "placeColumn", "(LFlexibleBoxes$Box;)V"⟩, 3) ∈ lw_privs_1)), rfl⟩), rfl⟩
theorem zs_X5_existing : Cond.selects RX5 yX5_existing yX5_existing ∈ zU := List.mem_filter.mpr ⟨List.mem_append_left _ (List.mem_map.mpr ⟨(⟨"FlexibleBoxes", "existing", "(I)LFlexibleBoxes$Box;"⟩, 3), (show _ ∈ lw_privs from List.mem_append_left _ (List.mem_of_getElem? (i := 8) rfl : (⟨"FlexibleBoxes", "existing", "(I)LFlexibleBoxes$Box;"⟩, 3) ∈ lw_privs_1)), rfl⟩), rfl⟩
theorem zs_X5_laidOut : Cond.selects RX5 yX5_laidOut yX5_laidOut ∈ zU := List.mem_filter.mpr ⟨List.mem_append_left _ (List.mem_map.mpr ⟨(⟨"FlexibleBoxes", "laidOut", "(LFlexibleBoxes$Box;)LFlexibleBoxes$Box;"⟩, 3), (show _ ∈ lw_privs from List.mem_append_left _ (List.mem_of_getElem? (i := 10) rfl : (⟨"FlexibleBoxes", "laidOut", "(LFlexibleBoxes$Box;)LFlexibleBoxes$Box;"⟩, 3) ∈ lw_privs_1)), rfl⟩), rfl⟩
theorem zs_X2_linesAt : Cond.selects RX2 yX2_linesAt yX2_linesAt ∈ zU := List.mem_filter.mpr ⟨List.mem_append_left _ (List.mem_map.mpr ⟨(⟨"FlexibleBoxes$Layout", "linesAt", "(LFlexibleBoxes$Box;I)I"⟩, 3), (show _ ∈ lw_privs from List.mem_append_left _ (List.mem_of_getElem? (i := 11) rfl : (⟨"FlexibleBoxes$Layout", "linesAt", "(LFlexibleBoxes$Box;I)I"⟩, 3) ∈ lw_privs_1)), rfl⟩), rfl⟩
theorem zs_X6_make : Cond.selects RX6 yX6_make yX6_make ∈ zU := List.mem_filter.mpr ⟨List.mem_append_left _ (List.mem_map.mpr ⟨(⟨"FlexibleBoxesModel", "make", "(I)I"⟩, 16), (show _ ∈ lw_privs from List.mem_append_left _ (List.mem_of_getElem? (i := 12) rfl : (⟨"FlexibleBoxesModel", "make", "(I)I"⟩, 16) ∈ lw_privs_1)), rfl⟩), rfl⟩
theorem zs_X6_isBox : Cond.selects RX6 yX6_isBox yX6_isBox ∈ zU := List.mem_filter.mpr ⟨List.mem_append_left _ (List.mem_map.mpr ⟨(⟨"FlexibleBoxesModel", "isBox", "(I)Z"⟩, 16), (show _ ∈ lw_privs from List.mem_append_left _ (List.mem_of_getElem? (i := 13) rfl : (⟨"FlexibleBoxesModel", "isBox", "(I)Z"⟩, 16) ∈ lw_privs_1)), rfl⟩), rfl⟩
theorem zs_X6_layKids : Cond.selects RX6 yX6_layKids yX6_layKids ∈ zU := List.mem_filter.mpr ⟨List.mem_append_left _ (List.mem_map.mpr ⟨(⟨"FlexibleBoxesModel", "layKids", "(I)V"⟩, 16), (show _ ∈ lw_privs from List.mem_append_left _ (List.mem_of_getElem? (i := 14) rfl : (⟨"FlexibleBoxesModel", "layKids", "(I)V"⟩, 16) ∈ lw_privs_1)), rfl⟩), rfl⟩
theorem zs_X6_isChild : Cond.selects RX6 yX6_isChild yX6_isChild ∈ zU := List.mem_filter.mpr ⟨List.mem_append_left _ (List.mem_map.mpr ⟨(⟨"FlexibleBoxesModel", "isChild", "(II)Z"⟩, 16), (show _ ∈ lw_privs from List.mem_append_left _ (List.mem_of_getElem? (i := 15) rfl : (⟨"FlexibleBoxesModel", "isChild", "(II)Z"⟩, 16) ∈ lw_privs_1)), rfl⟩), rfl⟩
theorem zs_X6_of : Cond.selects RX6 yX6_of yX6_of ∈ zU := List.mem_filter.mpr ⟨List.mem_append_left _ (List.mem_map.mpr ⟨(⟨"FlexibleBoxesModel", "of", "(II)I"⟩, 16), (show _ ∈ lw_privs from List.mem_append_right _ (List.mem_append_left _ (List.mem_of_getElem? (i := 0) rfl : (⟨"FlexibleBoxesModel", "of", "(II)I"⟩, 16) ∈ lw_privs_2))), rfl⟩), rfl⟩
theorem zs_X6_isAhead : Cond.selects RX6 yX6_isAhead yX6_isAhead ∈ zU := List.mem_filter.mpr ⟨List.mem_append_left _ (List.mem_map.mpr ⟨(⟨"FlexibleBoxesModel", "isAhead", "(II)Z"⟩, 16), (show _ ∈ lw_privs from List.mem_append_right _ (List.mem_append_left _ (List.mem_of_getElem? (i := 1) rfl : (⟨"FlexibleBoxesModel", "isAhead", "(II)Z"⟩, 16) ∈ lw_privs_2))), rfl⟩), rfl⟩
theorem zs_X6_hasLayout : Cond.selects RX6 yX6_hasLayout yX6_hasLayout ∈ zU := List.mem_filter.mpr ⟨List.mem_append_left _ (List.mem_map.mpr ⟨(⟨"FlexibleBoxesModel", "hasLayout", "(I)Z"⟩, 16), (show _ ∈ lw_privs from List.mem_append_right _ (List.mem_append_left _ (List.mem_of_getElem? (i := 2) rfl : (⟨"FlexibleBoxesModel", "hasLayout", "(I)Z"⟩, 16) ∈ lw_privs_2))), rfl⟩), rfl⟩
theorem zs_X6_findShown : Cond.selects RX6 yX6_findShown yX6_findShown ∈ zU := List.mem_filter.mpr ⟨List.mem_append_left _ (List.mem_map.mpr ⟨(⟨"FlexibleBoxesModel", "findShown", "()V"⟩, 16), (show _ ∈ lw_privs from List.mem_append_right _ (List.mem_append_left _ (List.mem_of_getElem? (i := 3) rfl : (⟨"FlexibleBoxesModel", "findShown", "()V"⟩, 16) ∈ lw_privs_2))), rfl⟩), rfl⟩
theorem zs_X6_layOut : Cond.selects RX6 yX6_layOut yX6_layOut ∈ zU := List.mem_filter.mpr ⟨List.mem_append_left _ (List.mem_map.mpr ⟨(⟨"FlexibleBoxesModel", "layOut", "()V"⟩, 16), (show _ ∈ lw_privs from List.mem_append_right _ (List.mem_append_left _ (List.mem_of_getElem? (i := 4) rfl : (⟨"FlexibleBoxesModel", "layOut", "()V"⟩, 16) ∈ lw_privs_2))), rfl⟩), rfl⟩
theorem zs_X6_findNaturalWidths : Cond.selects RX6 yX6_findNaturalWidths yX6_findNaturalWidths ∈ zU := List.mem_filter.mpr ⟨List.mem_append_left _ (List.mem_map.mpr ⟨(⟨"FlexibleBoxesModel", "findNaturalWidths", "()V"⟩, 16), (show _ ∈ lw_privs from List.mem_append_right _ (List.mem_append_left _ (List.mem_of_getElem? (i := 5) rfl : (⟨"FlexibleBoxesModel", "findNaturalWidths", "()V"⟩, 16) ∈ lw_privs_2))), rfl⟩), rfl⟩
theorem zs_X6_isLeaf : Cond.selects RX6 yX6_isLeaf yX6_isLeaf ∈ zU := List.mem_filter.mpr ⟨List.mem_append_left _ (List.mem_map.mpr ⟨(⟨"FlexibleBoxesModel", "isLeaf", "(I)Z"⟩, 16), (show _ ∈ lw_privs from List.mem_append_right _ (List.mem_append_left _ (List.mem_of_getElem? (i := 6) rfl : (⟨"FlexibleBoxesModel", "isLeaf", "(I)Z"⟩, 16) ∈ lw_privs_2))), rfl⟩), rfl⟩
theorem zs_X6_content : Cond.selects RX6 yX6_content yX6_content ∈ zU := List.mem_filter.mpr ⟨List.mem_append_left _ (List.mem_map.mpr ⟨(⟨"FlexibleBoxesModel", "content", "(IIZ)I"⟩, 16), (show _ ∈ lw_privs from List.mem_append_right _ (List.mem_append_left _ (List.mem_of_getElem? (i := 7) rfl : (⟨"FlexibleBoxesModel", "content", "(IIZ)I"⟩, 16) ∈ lw_privs_2))), rfl⟩), rfl⟩
theorem zs_X6_outer : Cond.selects RX6 yX6_outer yX6_outer ∈ zU := List.mem_filter.mpr ⟨List.mem_append_left _ (List.mem_map.mpr ⟨(⟨"FlexibleBoxesModel", "outer", "(II)I"⟩, 16), (show _ ∈ lw_privs from List.mem_append_right _ (List.mem_append_left _ (List.mem_of_getElem? (i := 8) rfl : (⟨"FlexibleBoxesModel", "outer", "(II)I"⟩, 16) ∈ lw_privs_2))), rfl⟩), rfl⟩
theorem zs_X6_gapsOf : Cond.selects RX6 yX6_gapsOf yX6_gapsOf ∈ zU := List.mem_filter.mpr ⟨List.mem_append_left _ (List.mem_map.mpr ⟨(⟨"FlexibleBoxesModel", "gapsOf", "(II)I"⟩, 16), (show _ ∈ lw_privs from List.mem_append_right _ (List.mem_append_left _ (List.mem_of_getElem? (i := 9) rfl : (⟨"FlexibleBoxesModel", "gapsOf", "(II)I"⟩, 16) ∈ lw_privs_2))), rfl⟩), rfl⟩
theorem zs_X6_setNatural : Cond.selects RX6 yX6_setNatural yX6_setNatural ∈ zU := List.mem_filter.mpr ⟨List.mem_append_left _ (List.mem_map.mpr ⟨(⟨"FlexibleBoxesModel", "setNatural", "(III)V"⟩, 16), (show _ ∈ lw_privs from List.mem_append_right _ (List.mem_append_left _ (List.mem_of_getElem? (i := 10) rfl : (⟨"FlexibleBoxesModel", "setNatural", "(III)V"⟩, 16) ∈ lw_privs_2))), rfl⟩), rfl⟩
theorem zs_X6_limited : Cond.selects RX6 yX6_limited yX6_limited ∈ zU := List.mem_filter.mpr ⟨List.mem_append_left _ (List.mem_map.mpr ⟨(⟨"FlexibleBoxesModel", "limited", "(III)I"⟩, 16), (show _ ∈ lw_privs from List.mem_append_right _ (List.mem_append_left _ (List.mem_of_getElem? (i := 11) rfl : (⟨"FlexibleBoxesModel", "limited", "(III)I"⟩, 16) ∈ lw_privs_2))), rfl⟩), rfl⟩
theorem zs_X6_findWidths : Cond.selects RX6 yX6_findWidths yX6_findWidths ∈ zU := List.mem_filter.mpr ⟨List.mem_append_left _ (List.mem_map.mpr ⟨(⟨"FlexibleBoxesModel", "findWidths", "()V"⟩, 16), (show _ ∈ lw_privs from List.mem_append_right _ (List.mem_append_left _ (List.mem_of_getElem? (i := 12) rfl : (⟨"FlexibleBoxesModel", "findWidths", "()V"⟩, 16) ∈ lw_privs_2))), rfl⟩), rfl⟩
theorem zs_X6_textLines : Cond.selects RX6 yX6_textLines yX6_textLines ∈ zU := List.mem_filter.mpr ⟨List.mem_append_left _ (List.mem_map.mpr ⟨(⟨"FlexibleBoxesModel", "textLines", "(I)I"⟩, 16), (show _ ∈ lw_privs from List.mem_append_right _ (List.mem_append_left _ (List.mem_of_getElem? (i := 13) rfl : (⟨"FlexibleBoxesModel", "textLines", "(I)I"⟩, 16) ∈ lw_privs_2))), rfl⟩), rfl⟩
theorem zs_X6_inner : Cond.selects RX6 yX6_inner yX6_inner ∈ zU := List.mem_filter.mpr ⟨List.mem_append_left _ (List.mem_map.mpr ⟨(⟨"FlexibleBoxesModel", "inner", "(II)I"⟩, 16), (show _ ∈ lw_privs from List.mem_append_right _ (List.mem_append_left _ (List.mem_of_getElem? (i := 14) rfl : (⟨"FlexibleBoxesModel", "inner", "(II)I"⟩, 16) ∈ lw_privs_2))), rfl⟩), rfl⟩
theorem zs_X6_findColumnWidths : Cond.selects RX6 yX6_findColumnWidths yX6_findColumnWidths ∈ zU := List.mem_filter.mpr ⟨List.mem_append_left _ (List.mem_map.mpr ⟨(⟨"FlexibleBoxesModel", "findColumnWidths", "(I)V"⟩, 16), (show _ ∈ lw_privs from List.mem_append_right _ (List.mem_append_left _ (List.mem_of_getElem? (i := 15) rfl : (⟨"FlexibleBoxesModel", "findColumnWidths", "(I)V"⟩, 16) ∈ lw_privs_2))), rfl⟩), rfl⟩
theorem zs_X6_alignment : Cond.selects RX6 yX6_alignment yX6_alignment ∈ zU := List.mem_filter.mpr ⟨List.mem_append_left _ (List.mem_map.mpr ⟨(⟨"FlexibleBoxesModel", "alignment", "(I)I"⟩, 16), (show _ ∈ lw_privs from List.mem_append_right _ (List.mem_append_right _ (List.mem_append_left _ (List.mem_of_getElem? (i := 0) rfl : (⟨"FlexibleBoxesModel", "alignment", "(I)I"⟩, 16) ∈ lw_privs_3)))), rfl⟩), rfl⟩
theorem zs_X6_findLines : Cond.selects RX6 yX6_findLines yX6_findLines ∈ zU := List.mem_filter.mpr ⟨List.mem_append_left _ (List.mem_map.mpr ⟨(⟨"FlexibleBoxesModel", "findLines", "(I)V"⟩, 16), (show _ ∈ lw_privs from List.mem_append_right _ (List.mem_append_right _ (List.mem_append_left _ (List.mem_of_getElem? (i := 1) rfl : (⟨"FlexibleBoxesModel", "findLines", "(I)V"⟩, 16) ∈ lw_privs_3)))), rfl⟩), rfl⟩
theorem zs_X6_endOfLine : Cond.selects RX6 yX6_endOfLine yX6_endOfLine ∈ zU := List.mem_filter.mpr ⟨List.mem_append_left _ (List.mem_map.mpr ⟨(⟨"FlexibleBoxesModel", "endOfLine", "(II)I"⟩, 16), (show _ ∈ lw_privs from List.mem_append_right _ (List.mem_append_right _ (List.mem_append_left _ (List.mem_of_getElem? (i := 2) rfl : (⟨"FlexibleBoxesModel", "endOfLine", "(II)I"⟩, 16) ∈ lw_privs_3)))), rfl⟩), rfl⟩
theorem zs_X6_startOf : Cond.selects RX6 yX6_startOf yX6_startOf ∈ zU := List.mem_filter.mpr ⟨List.mem_append_left _ (List.mem_map.mpr ⟨(⟨"FlexibleBoxesModel", "startOf", "(II)I"⟩, 16), (show _ ∈ lw_privs from List.mem_append_right _ (List.mem_append_right _ (List.mem_append_left _ (List.mem_of_getElem? (i := 3) rfl : (⟨"FlexibleBoxesModel", "startOf", "(II)I"⟩, 16) ∈ lw_privs_3)))), rfl⟩), rfl⟩
theorem zs_X6_baseOf : Cond.selects RX6 yX6_baseOf yX6_baseOf ∈ zU := List.mem_filter.mpr ⟨List.mem_append_left _ (List.mem_map.mpr ⟨(⟨"FlexibleBoxesModel", "baseOf", "(II)I"⟩, 16), (show _ ∈ lw_privs from List.mem_append_right _ (List.mem_append_right _ (List.mem_append_left _ (List.mem_of_getElem? (i := 4) rfl : (⟨"FlexibleBoxesModel", "baseOf", "(II)I"⟩, 16) ∈ lw_privs_3)))), rfl⟩), rfl⟩
theorem zs_X6_flex : Cond.selects RX6 yX6_flex yX6_flex ∈ zU := List.mem_filter.mpr ⟨List.mem_append_left _ (List.mem_map.mpr ⟨(⟨"FlexibleBoxesModel", "flex", "(IIIII)V"⟩, 16), (show _ ∈ lw_privs from List.mem_append_right _ (List.mem_append_right _ (List.mem_append_left _ (List.mem_of_getElem? (i := 5) rfl : (⟨"FlexibleBoxesModel", "flex", "(IIIII)V"⟩, 16) ∈ lw_privs_3)))), rfl⟩), rfl⟩
theorem zs_X6_beginFlex : Cond.selects RX6 yX6_beginFlex yX6_beginFlex ∈ zU := List.mem_filter.mpr ⟨List.mem_append_left _ (List.mem_map.mpr ⟨(⟨"FlexibleBoxesModel", "beginFlex", "(IIIII)Z"⟩, 16), (show _ ∈ lw_privs from List.mem_append_right _ (List.mem_append_right _ (List.mem_append_left _ (List.mem_of_getElem? (i := 6) rfl : (⟨"FlexibleBoxesModel", "beginFlex", "(IIIII)Z"⟩, 16) ∈ lw_privs_3)))), rfl⟩), rfl⟩
theorem zs_X6_propose : Cond.selects RX6 yX6_propose yX6_propose ∈ zU := List.mem_filter.mpr ⟨List.mem_append_left _ (List.mem_map.mpr ⟨(⟨"FlexibleBoxesModel", "propose", "(IIIIIZ)V"⟩, 16), (show _ ∈ lw_privs from List.mem_append_right _ (List.mem_append_right _ (List.mem_append_left _ (List.mem_of_getElem? (i := 7) rfl : (⟨"FlexibleBoxesModel", "propose", "(IIIIIZ)V"⟩, 16) ∈ lw_privs_3)))), rfl⟩), rfl⟩
theorem zs_X6_fixSome : Cond.selects RX6 yX6_fixSome yX6_fixSome ∈ zU := List.mem_filter.mpr ⟨List.mem_append_left _ (List.mem_map.mpr ⟨(⟨"FlexibleBoxesModel", "fixSome", "(III)I"⟩, 16), (show _ ∈ lw_privs from List.mem_append_right _ (List.mem_append_right _ (List.mem_append_left _ (List.mem_of_getElem? (i := 8) rfl : (⟨"FlexibleBoxesModel", "fixSome", "(III)I"⟩, 16) ∈ lw_privs_3)))), rfl⟩), rfl⟩
theorem zs_X6_deviation : Cond.selects RX6 yX6_deviation yX6_deviation ∈ zU := List.mem_filter.mpr ⟨List.mem_append_left _ (List.mem_map.mpr ⟨(⟨"FlexibleBoxesModel", "deviation", "(II)I"⟩, 16), (show _ ∈ lw_privs from List.mem_append_right _ (List.mem_append_right _ (List.mem_append_left _ (List.mem_of_getElem? (i := 9) rfl : (⟨"FlexibleBoxesModel", "deviation", "(II)I"⟩, 16) ∈ lw_privs_3)))), rfl⟩), rfl⟩
theorem zs_X6_findNaturalHeights : Cond.selects RX6 yX6_findNaturalHeights yX6_findNaturalHeights ∈ zU := List.mem_filter.mpr ⟨List.mem_append_left _ (List.mem_map.mpr ⟨(⟨"FlexibleBoxesModel", "findNaturalHeights", "()V"⟩, 16), (show _ ∈ lw_privs from List.mem_append_right _ (List.mem_append_right _ (List.mem_append_left _ (List.mem_of_getElem? (i := 10) rfl : (⟨"FlexibleBoxesModel", "findNaturalHeights", "()V"⟩, 16) ∈ lw_privs_3)))), rfl⟩), rfl⟩
theorem zs_X6_rowContent : Cond.selects RX6 yX6_rowContent yX6_rowContent ∈ zU := List.mem_filter.mpr ⟨List.mem_append_left _ (List.mem_map.mpr ⟨(⟨"FlexibleBoxesModel", "rowContent", "(I)I"⟩, 16), (show _ ∈ lw_privs from List.mem_append_right _ (List.mem_append_right _ (List.mem_append_left _ (List.mem_of_getElem? (i := 11) rfl : (⟨"FlexibleBoxesModel", "rowContent", "(I)I"⟩, 16) ∈ lw_privs_3)))), rfl⟩), rfl⟩
theorem zs_X6_lineHeight : Cond.selects RX6 yX6_lineHeight yX6_lineHeight ∈ zU := List.mem_filter.mpr ⟨List.mem_append_left _ (List.mem_map.mpr ⟨(⟨"FlexibleBoxesModel", "lineHeight", "(I)I"⟩, 16), (show _ ∈ lw_privs from List.mem_append_right _ (List.mem_append_right _ (List.mem_append_left _ (List.mem_of_getElem? (i := 12) rfl : (⟨"FlexibleBoxesModel", "lineHeight", "(I)I"⟩, 16) ∈ lw_privs_3)))), rfl⟩), rfl⟩
theorem zs_X6_findPlaces : Cond.selects RX6 yX6_findPlaces yX6_findPlaces ∈ zU := List.mem_filter.mpr ⟨List.mem_append_left _ (List.mem_map.mpr ⟨(⟨"FlexibleBoxesModel", "findPlaces", "()V"⟩, 16), (show _ ∈ lw_privs from List.mem_append_right _ (List.mem_append_right _ (List.mem_append_left _ (List.mem_of_getElem? (i := 13) rfl : (⟨"FlexibleBoxesModel", "findPlaces", "()V"⟩, 16) ∈ lw_privs_3)))), rfl⟩), rfl⟩
theorem zs_X6_placeColumn : Cond.selects RX6 yX6_placeColumn yX6_placeColumn ∈ zU := List.mem_filter.mpr ⟨List.mem_append_left _ (List.mem_map.mpr ⟨(⟨"FlexibleBoxesModel", "placeColumn", "(I)V"⟩, 16), (show _ ∈ lw_privs from List.mem_append_right _ (List.mem_append_right _ (List.mem_append_left _ (List.mem_of_getElem? (i := 14) rfl : (⟨"FlexibleBoxesModel", "placeColumn", "(I)V"⟩, 16) ∈ lw_privs_3)))), rfl⟩), rfl⟩
theorem zs_X6_justify : Cond.selects RX6 yX6_justify yX6_justify ∈ zU := List.mem_filter.mpr ⟨List.mem_append_left _ (List.mem_map.mpr ⟨(⟨"FlexibleBoxesModel", "justify", "(IIII)V"⟩, 16), (show _ ∈ lw_privs from List.mem_append_right _ (List.mem_append_right _ (List.mem_append_left _ (List.mem_of_getElem? (i := 15) rfl : (⟨"FlexibleBoxesModel", "justify", "(IIII)V"⟩, 16) ∈ lw_privs_3)))), rfl⟩), rfl⟩
theorem zs_X6_align : Cond.selects RX6 yX6_align yX6_align ∈ zU := List.mem_filter.mpr ⟨List.mem_append_left _ (List.mem_map.mpr ⟨(⟨"FlexibleBoxesModel", "align", "(IIII)V"⟩, 16), (show _ ∈ lw_privs from List.mem_append_right _ (List.mem_append_right _ (List.mem_append_right _ ((List.mem_of_getElem? (i := 0) rfl : (⟨"FlexibleBoxesModel", "align", "(IIII)V"⟩, 16) ∈ lw_privs_4))))), rfl⟩), rfl⟩
theorem zs_X6_placeRow : Cond.selects RX6 yX6_placeRow yX6_placeRow ∈ zU := List.mem_filter.mpr ⟨List.mem_append_left _ (List.mem_map.mpr ⟨(⟨"FlexibleBoxesModel", "placeRow", "(I)V"⟩, 16), (show _ ∈ lw_privs from List.mem_append_right _ (List.mem_append_right _ (List.mem_append_right _ ((List.mem_of_getElem? (i := 1) rfl : (⟨"FlexibleBoxesModel", "placeRow", "(I)V"⟩, 16) ∈ lw_privs_4))))), rfl⟩), rfl⟩
theorem zs_X6_setRowHeight : Cond.selects RX6 yX6_setRowHeight yX6_setRowHeight ∈ zU := List.mem_filter.mpr ⟨List.mem_append_left _ (List.mem_map.mpr ⟨(⟨"FlexibleBoxesModel", "setRowHeight", "(II)V"⟩, 16), (show _ ∈ lw_privs from List.mem_append_right _ (List.mem_append_right _ (List.mem_append_right _ ((List.mem_of_getElem? (i := 2) rfl : (⟨"FlexibleBoxesModel", "setRowHeight", "(II)V"⟩, 16) ∈ lw_privs_4))))), rfl⟩), rfl⟩
theorem zs_X6_end : Cond.selects RX6 yX6_end yX6_end ∈ zU := List.mem_filter.mpr ⟨List.mem_append_left _ (List.mem_map.mpr ⟨(⟨"FlexibleBoxesModel", "end", "(II)I"⟩, 16), (show _ ∈ lw_privs from List.mem_append_right _ (List.mem_append_right _ (List.mem_append_right _ ((List.mem_of_getElem? (i := 3) rfl : (⟨"FlexibleBoxesModel", "end", "(II)I"⟩, 16) ∈ lw_privs_4))))), rfl⟩), rfl⟩
theorem zs_X6_covers : Cond.selects RX6 yX6_covers yX6_covers ∈ zU := List.mem_filter.mpr ⟨List.mem_append_left _ (List.mem_map.mpr ⟨(⟨"FlexibleBoxesModel", "covers", "(III)Z"⟩, 16), (show _ ∈ lw_privs from List.mem_append_right _ (List.mem_append_right _ (List.mem_append_right _ ((List.mem_of_getElem? (i := 4) rfl : (⟨"FlexibleBoxesModel", "covers", "(III)Z"⟩, 16) ∈ lw_privs_4))))), rfl⟩), rfl⟩
theorem zm_1_0 : (Jvm.Cond.initialized "FlexibleBoxesLaw") ∈ zU := zin1 (List.mem_of_getElem? (i := 0) rfl) rfl
theorem zm_1_1 : (Jvm.Cond.initialized "FlexibleBoxes") ∈ zU := zin1 (List.mem_of_getElem? (i := 1) rfl) rfl
theorem zm_1_2 : (Jvm.Cond.initialized "FlexibleBoxes$Tree") ∈ zU := zin1 (List.mem_of_getElem? (i := 2) rfl) rfl
theorem zm_1_3 : (Jvm.Cond.initialized "FlexibleBoxes$Box") ∈ zU := zin1 (List.mem_of_getElem? (i := 3) rfl) rfl
theorem zm_1_4 : (Jvm.Cond.initialized "FlexibleBoxes$Layout") ∈ zU := zin1 (List.mem_of_getElem? (i := 4) rfl) rfl
theorem zm_1_5 : (Jvm.Cond.initialized "FlexibleBoxes$Flex") ∈ zU := zin1 (List.mem_of_getElem? (i := 5) rfl) rfl
theorem zm_1_6 : (Jvm.Cond.initialized "FlexibleBoxesModel") ∈ zU := zin1 (List.mem_of_getElem? (i := 6) rfl) rfl
theorem zm_1_7 : (Jvm.Cond.initialized "java/lang/Throwable") ∈ zU := zin1 (List.mem_of_getElem? (i := 7) rfl) rfl
theorem zm_1_8 : (Jvm.Cond.initialized "java/lang/Exception") ∈ zU := zin1 (List.mem_of_getElem? (i := 8) rfl) rfl
theorem zm_1_9 : (Jvm.Cond.initialized "java/lang/RuntimeException") ∈ zU := zin1 (List.mem_of_getElem? (i := 9) rfl) rfl
theorem zm_1_10 : (Jvm.Cond.initialized "java/lang/IndexOutOfBoundsException") ∈ zU := zin1 (List.mem_of_getElem? (i := 10) rfl) rfl
theorem zm_1_11 : (Jvm.Cond.initialized "java/lang/IllegalStateException") ∈ zU := zin1 (List.mem_of_getElem? (i := 11) rfl) rfl
theorem zm_1_12 : (Jvm.Cond.initialized "java/lang/IllegalArgumentException") ∈ zU := zin1 (List.mem_of_getElem? (i := 12) rfl) rfl
theorem zm_1_13 : (Jvm.Cond.initialized "java/lang/Math") ∈ zU := zin1 (List.mem_of_getElem? (i := 13) rfl) rfl
theorem zm_1_14 : (Jvm.Cond.initialized "FlexibleBoxes$Snapshot") ∈ zU := zin1 (List.mem_of_getElem? (i := 14) rfl) rfl
theorem zm_1_15 : (Jvm.Cond.initialized "java/lang/System") ∈ zU := zin1 (List.mem_of_getElem? (i := 15) rfl) rfl
theorem zm_1_16 : (Jvm.Cond.classLink "FlexibleBoxesLaw" (8 : Nat) "FlexibleBoxes") ∈ zU := zin1 (List.mem_of_getElem? (i := 16) rfl) rfl
theorem zm_1_17 : (Jvm.Cond.instantiable "FlexibleBoxes" (3 : Nat)) ∈ zU := zin1 (List.mem_of_getElem? (i := 17) rfl) rfl
theorem zm_1_18 : (Jvm.Cond.methodLink "FlexibleBoxesLaw" (80 : Nat) ({ cls := "FlexibleBoxes", name := "<init>", desc := "()V" } : Jvm.MethodName)) ∈ zU := zin1 (List.mem_of_getElem? (i := 18) rfl) rfl
theorem zm_1_19 : (Jvm.Cond.instanceMethod ({ cls := "FlexibleBoxes", name := "<init>", desc := "()V" } : Jvm.MethodName)) ∈ zU := zin1 (List.mem_of_getElem? (i := 19) rfl) rfl
theorem zm_1_20 : (Jvm.Cond.code ({ cls := "FlexibleBoxes", name := "<init>", desc := "()V" } : Jvm.MethodName) prog_1_method_1_code (1 : Nat) (Option.none : Option Jvm.ClassFile.FieldType)) ∈ zU := zin1 (List.mem_of_getElem? (i := 20) rfl) rfl
theorem zm_1_21 : (Jvm.Cond.methodLink "FlexibleBoxes" (1 : Nat) ({ cls := "java/lang/Object", name := "<init>", desc := "()V" } : Jvm.MethodName)) ∈ zU := zin1 (List.mem_of_getElem? (i := 21) rfl) rfl
theorem zm_1_22 : (Jvm.Cond.instanceMethod ({ cls := "java/lang/Object", name := "<init>", desc := "()V" } : Jvm.MethodName)) ∈ zU := zin1 (List.mem_of_getElem? (i := 22) rfl) rfl
theorem zm_1_23 : (Jvm.Cond.code ({ cls := "java/lang/Object", name := "<init>", desc := "()V" } : Jvm.MethodName) object_method_1_code (1 : Nat) (Option.none : Option Jvm.ClassFile.FieldType)) ∈ zU := zin1 (List.mem_of_getElem? (i := 23) rfl) rfl
theorem zm_1_24 : (Jvm.Cond.classLink "FlexibleBoxes" (7 : Nat) "FlexibleBoxes$Tree") ∈ zU := zin1 (List.mem_of_getElem? (i := 24) rfl) rfl
theorem zm_1_25 : (Jvm.Cond.instantiable "FlexibleBoxes$Tree" (5 : Nat)) ∈ zU := zin1 (List.mem_of_getElem? (i := 25) rfl) rfl
theorem zm_1_26 : (Jvm.Cond.methodLink "FlexibleBoxes" (9 : Nat) ({ cls := "FlexibleBoxes$Tree", name := "<init>", desc := "()V" } : Jvm.MethodName)) ∈ zU := zin1 (List.mem_of_getElem? (i := 26) rfl) rfl
theorem zm_1_27 : (Jvm.Cond.instanceMethod ({ cls := "FlexibleBoxes$Tree", name := "<init>", desc := "()V" } : Jvm.MethodName)) ∈ zU := zin1 (List.mem_of_getElem? (i := 27) rfl) rfl
theorem zm_1_28 : (Jvm.Cond.code ({ cls := "FlexibleBoxes$Tree", name := "<init>", desc := "()V" } : Jvm.MethodName) prog_6_method_1_code (2 : Nat) (Option.none : Option Jvm.ClassFile.FieldType)) ∈ zU := zin1 (List.mem_of_getElem? (i := 28) rfl) rfl
theorem zm_1_29 : (Jvm.Cond.methodLink "FlexibleBoxes$Tree" (3 : Nat) ({ cls := "java/lang/Object", name := "<init>", desc := "()V" } : Jvm.MethodName)) ∈ zU := zin1 (List.mem_of_getElem? (i := 29) rfl) rfl
theorem zm_1_30 : (Jvm.Cond.classLink "FlexibleBoxes$Tree" (9 : Nat) "FlexibleBoxes$Box") ∈ zU := zin1 (List.mem_of_getElem? (i := 30) rfl) rfl
theorem zm_1_32 : (Jvm.Cond.instantiable "FlexibleBoxes$Box" (18 : Nat)) ∈ zU := zin1 (List.mem_of_getElem? (i := 32) rfl) rfl
theorem zm_1_33 : (Jvm.Cond.methodLink "FlexibleBoxes$Tree" (17 : Nat) ({ cls := "FlexibleBoxes$Box", name := "<init>", desc := "(I)V" } : Jvm.MethodName)) ∈ zU := zin1 (List.mem_of_getElem? (i := 33) rfl) rfl
theorem zm_1_34 : (Jvm.Cond.instanceMethod ({ cls := "FlexibleBoxes$Box", name := "<init>", desc := "(I)V" } : Jvm.MethodName)) ∈ zU := zin1 (List.mem_of_getElem? (i := 34) rfl) rfl
theorem zm_1_35 : (Jvm.Cond.code ({ cls := "FlexibleBoxes$Box", name := "<init>", desc := "(I)V" } : Jvm.MethodName) prog_2_method_1_code (2 : Nat) (Option.none : Option Jvm.ClassFile.FieldType)) ∈ zU := zin1 (List.mem_of_getElem? (i := 35) rfl) rfl
theorem zm_1_36 : (Jvm.Cond.methodLink "FlexibleBoxes$Box" (3 : Nat) ({ cls := "java/lang/Object", name := "<init>", desc := "()V" } : Jvm.MethodName)) ∈ zU := zin1 (List.mem_of_getElem? (i := 36) rfl) rfl
theorem zm_1_37 : (Jvm.Cond.fieldLink "FlexibleBoxes$Box" (15 : Nat) "FlexibleBoxes$Box" "number" "I") ∈ zU := zin1 (List.mem_of_getElem? (i := 37) rfl) rfl
theorem zm_1_38 : (Jvm.Cond.fieldLink "FlexibleBoxes$Tree" (49 : Nat) "FlexibleBoxes$Box" "number" "I") ∈ zU := zin1 (List.mem_of_getElem? (i := 38) rfl) rfl
theorem zm_1_39 : (Jvm.Cond.fieldLink "FlexibleBoxes" (85 : Nat) "FlexibleBoxes$Box" "number" "I") ∈ zU := zin1 (List.mem_of_getElem? (i := 39) rfl) rfl
theorem zm_1_40 : (Jvm.Cond.fieldLink "FlexibleBoxes$Layout" (210 : Nat) "FlexibleBoxes$Box" "number" "I") ∈ zU := zin1 (List.mem_of_getElem? (i := 40) rfl) rfl
theorem zm_1_41 : (Jvm.Cond.fieldLink "FlexibleBoxes$Box" (9 : Nat) "FlexibleBoxes$Box" "style" "[I") ∈ zU := zin1 (List.mem_of_getElem? (i := 41) rfl) rfl
theorem zm_1_42 : (Jvm.Cond.fieldLink "FlexibleBoxes$Tree" (84 : Nat) "FlexibleBoxes$Box" "style" "[I") ∈ zU := zin1 (List.mem_of_getElem? (i := 42) rfl) rfl
theorem zm_1_43 : (Jvm.Cond.fieldLink "FlexibleBoxes$Box" (23 : Nat) "FlexibleBoxes$Box" "exists" "Z") ∈ zU := zin1 (List.mem_of_getElem? (i := 43) rfl) rfl
theorem zm_1_44 : (Jvm.Cond.fieldLink "FlexibleBoxes$Tree" (42 : Nat) "FlexibleBoxes$Box" "exists" "Z") ∈ zU := zin1 (List.mem_of_getElem? (i := 44) rfl) rfl
theorem zm_1_45 : (Jvm.Cond.fieldLink "FlexibleBoxes" (186 : Nat) "FlexibleBoxes$Box" "exists" "Z") ∈ zU := zin1 (List.mem_of_getElem? (i := 45) rfl) rfl
theorem zm_1_46 : (Jvm.Cond.fieldLink "FlexibleBoxes$Box" (19 : Nat) "FlexibleBoxes$Box" "parent" "LFlexibleBoxes$Box;") ∈ zU := zin1 (List.mem_of_getElem? (i := 46) rfl) rfl
theorem zm_1_47 : (Jvm.Cond.fieldLink "FlexibleBoxes$Tree" (52 : Nat) "FlexibleBoxes$Box" "parent" "LFlexibleBoxes$Box;") ∈ zU := zin1 (List.mem_of_getElem? (i := 47) rfl) rfl
theorem zm_1_48 : (Jvm.Cond.fieldLink "FlexibleBoxes$Layout" (216 : Nat) "FlexibleBoxes$Box" "parent" "LFlexibleBoxes$Box;") ∈ zU := zin1 (List.mem_of_getElem? (i := 48) rfl) rfl
theorem zm_1_49 : (Jvm.Cond.fieldLink "FlexibleBoxes$Layout" (91 : Nat) "FlexibleBoxes$Box" "container" "Z") ∈ zU := zin1 (List.mem_of_getElem? (i := 49) rfl) rfl
theorem zm_1_50 : (Jvm.Cond.fieldLink "FlexibleBoxes$Tree" (58 : Nat) "FlexibleBoxes$Box" "container" "Z") ∈ zU := zin1 (List.mem_of_getElem? (i := 50) rfl) rfl
theorem zm_1_51 : (Jvm.Cond.fieldLink "FlexibleBoxes$Box" (38 : Nat) "FlexibleBoxes$Box" "container" "Z") ∈ zU := zin1 (List.mem_of_getElem? (i := 51) rfl) rfl
theorem zm_1_52 : (Jvm.Cond.fieldLink "FlexibleBoxes" (153 : Nat) "FlexibleBoxes$Box" "container" "Z") ∈ zU := zin1 (List.mem_of_getElem? (i := 52) rfl) rfl
theorem zm_1_53 : (Jvm.Cond.fieldLink "FlexibleBoxes$Tree" (46 : Nat) "FlexibleBoxes$Box" "shown" "Z") ∈ zU := zin1 (List.mem_of_getElem? (i := 53) rfl) rfl
theorem zm_1_54 : (Jvm.Cond.fieldLink "FlexibleBoxes$Box" (41 : Nat) "FlexibleBoxes$Box" "shown" "Z") ∈ zU := zin1 (List.mem_of_getElem? (i := 54) rfl) rfl
theorem zm_1_55 : (Jvm.Cond.fieldLink "FlexibleBoxes" (194 : Nat) "FlexibleBoxes$Box" "shown" "Z") ∈ zU := zin1 (List.mem_of_getElem? (i := 55) rfl) rfl
theorem zm_1_56 : (Jvm.Cond.fieldLink "FlexibleBoxes$Layout" (101 : Nat) "FlexibleBoxes$Box" "firstKid" "LFlexibleBoxes$Box;") ∈ zU := zin1 (List.mem_of_getElem? (i := 56) rfl) rfl
theorem zm_1_57 : (Jvm.Cond.fieldLink "FlexibleBoxes" (81 : Nat) "FlexibleBoxes$Box" "firstKid" "LFlexibleBoxes$Box;") ∈ zU := zin1 (List.mem_of_getElem? (i := 57) rfl) rfl
theorem zm_1_58 : (Jvm.Cond.fieldLink "FlexibleBoxes$Box" (44 : Nat) "FlexibleBoxes$Box" "firstKid" "LFlexibleBoxes$Box;") ∈ zU := zin1 (List.mem_of_getElem? (i := 58) rfl) rfl
theorem zm_1_59 : (Jvm.Cond.fieldLink "FlexibleBoxes$Layout" (113 : Nat) "FlexibleBoxes$Box" "nextKid" "LFlexibleBoxes$Box;") ∈ zU := zin1 (List.mem_of_getElem? (i := 59) rfl) rfl
theorem zm_1_60 : (Jvm.Cond.fieldLink "FlexibleBoxes" (88 : Nat) "FlexibleBoxes$Box" "nextKid" "LFlexibleBoxes$Box;") ∈ zU := zin1 (List.mem_of_getElem? (i := 60) rfl) rfl
theorem zm_1_61 : (Jvm.Cond.fieldLink "FlexibleBoxes$Box" (47 : Nat) "FlexibleBoxes$Box" "nextKid" "LFlexibleBoxes$Box;") ∈ zU := zin1 (List.mem_of_getElem? (i := 61) rfl) rfl
theorem zm_1_62 : (Jvm.Cond.fieldLink "FlexibleBoxes$Layout" (94 : Nat) "FlexibleBoxes$Box" "kids" "I") ∈ zU := zin1 (List.mem_of_getElem? (i := 62) rfl) rfl
theorem zm_1_63 : (Jvm.Cond.fieldLink "FlexibleBoxes" (77 : Nat) "FlexibleBoxes$Box" "kids" "I") ∈ zU := zin1 (List.mem_of_getElem? (i := 63) rfl) rfl
theorem zm_1_64 : (Jvm.Cond.fieldLink "FlexibleBoxes$Box" (50 : Nat) "FlexibleBoxes$Box" "kids" "I") ∈ zU := zin1 (List.mem_of_getElem? (i := 64) rfl) rfl
theorem zm_1_65 : (Jvm.Cond.fieldLink "FlexibleBoxes$Layout" (223 : Nat) "FlexibleBoxes$Box" "heir" "LFlexibleBoxes$Box;") ∈ zU := zin1 (List.mem_of_getElem? (i := 65) rfl) rfl
theorem zm_1_66 : (Jvm.Cond.fieldLink "FlexibleBoxes$Layout" (88 : Nat) "FlexibleBoxes$Box" "naturalWidth" "I") ∈ zU := zin1 (List.mem_of_getElem? (i := 66) rfl) rfl
theorem zm_1_67 : (Jvm.Cond.fieldLink "FlexibleBoxes$Flex" (60 : Nat) "FlexibleBoxes$Box" "naturalWidth" "I") ∈ zU := zin1 (List.mem_of_getElem? (i := 67) rfl) rfl
theorem zm_1_68 : (Jvm.Cond.fieldLink "FlexibleBoxes" (141 : Nat) "FlexibleBoxes$Box" "naturalWidth" "I") ∈ zU := zin1 (List.mem_of_getElem? (i := 68) rfl) rfl
theorem zm_1_69 : (Jvm.Cond.fieldLink "FlexibleBoxes$Flex" (63 : Nat) "FlexibleBoxes$Box" "naturalHeight" "I") ∈ zU := zin1 (List.mem_of_getElem? (i := 69) rfl) rfl
theorem zm_1_70 : (Jvm.Cond.fieldLink "FlexibleBoxes$Layout" (175 : Nat) "FlexibleBoxes$Box" "naturalHeight" "I") ∈ zU := zin1 (List.mem_of_getElem? (i := 70) rfl) rfl
theorem zm_1_71 : (Jvm.Cond.fieldLink "FlexibleBoxes" (144 : Nat) "FlexibleBoxes$Box" "naturalHeight" "I") ∈ zU := zin1 (List.mem_of_getElem? (i := 71) rfl) rfl
theorem zm_1_72 : (Jvm.Cond.fieldLink "FlexibleBoxes" (129 : Nat) "FlexibleBoxes$Box" "x" "I") ∈ zU := zin1 (List.mem_of_getElem? (i := 72) rfl) rfl
theorem zm_1_73 : (Jvm.Cond.fieldLink "FlexibleBoxes$Layout" (192 : Nat) "FlexibleBoxes$Box" "x" "I") ∈ zU := zin1 (List.mem_of_getElem? (i := 73) rfl) rfl
theorem zm_1_74 : (Jvm.Cond.fieldLink "FlexibleBoxes$Box" (77 : Nat) "FlexibleBoxes$Box" "x" "I") ∈ zU := zin1 (List.mem_of_getElem? (i := 74) rfl) rfl
theorem zm_1_75 : (Jvm.Cond.fieldLink "FlexibleBoxes" (132 : Nat) "FlexibleBoxes$Box" "y" "I") ∈ zU := zin1 (List.mem_of_getElem? (i := 75) rfl) rfl
theorem zm_1_76 : (Jvm.Cond.fieldLink "FlexibleBoxes$Layout" (182 : Nat) "FlexibleBoxes$Box" "y" "I") ∈ zU := zin1 (List.mem_of_getElem? (i := 76) rfl) rfl
theorem zm_1_77 : (Jvm.Cond.fieldLink "FlexibleBoxes$Box" (80 : Nat) "FlexibleBoxes$Box" "y" "I") ∈ zU := zin1 (List.mem_of_getElem? (i := 77) rfl) rfl
theorem zm_1_78 : (Jvm.Cond.fieldLink "FlexibleBoxes$Layout" (47 : Nat) "FlexibleBoxes$Box" "width" "I") ∈ zU := zin1 (List.mem_of_getElem? (i := 78) rfl) rfl
theorem zm_1_79 : (Jvm.Cond.fieldLink "FlexibleBoxes$Box" (53 : Nat) "FlexibleBoxes$Box" "width" "I") ∈ zU := zin1 (List.mem_of_getElem? (i := 79) rfl) rfl
theorem zm_1_80 : (Jvm.Cond.fieldLink "FlexibleBoxes" (135 : Nat) "FlexibleBoxes$Box" "width" "I") ∈ zU := zin1 (List.mem_of_getElem? (i := 80) rfl) rfl
theorem zm_1_81 : (Jvm.Cond.fieldLink "FlexibleBoxes$Layout" (61 : Nat) "FlexibleBoxes$Box" "height" "I") ∈ zU := zin1 (List.mem_of_getElem? (i := 81) rfl) rfl
theorem zm_1_82 : (Jvm.Cond.fieldLink "FlexibleBoxes$Box" (62 : Nat) "FlexibleBoxes$Box" "height" "I") ∈ zU := zin1 (List.mem_of_getElem? (i := 82) rfl) rfl
theorem zm_1_83 : (Jvm.Cond.fieldLink "FlexibleBoxes" (138 : Nat) "FlexibleBoxes$Box" "height" "I") ∈ zU := zin1 (List.mem_of_getElem? (i := 83) rfl) rfl
theorem zm_1_84 : (Jvm.Cond.fieldLink "FlexibleBoxes$Layout" (122 : Nat) "FlexibleBoxes$Box" "lineCount" "I") ∈ zU := zin1 (List.mem_of_getElem? (i := 84) rfl) rfl
theorem zm_1_85 : (Jvm.Cond.fieldLink "FlexibleBoxes" (147 : Nat) "FlexibleBoxes$Box" "lineCount" "I") ∈ zU := zin1 (List.mem_of_getElem? (i := 85) rfl) rfl
theorem zm_1_86 : (Jvm.Cond.fieldLink "FlexibleBoxes$Layout" (142 : Nat) "FlexibleBoxes$Box" "line" "I") ∈ zU := zin1 (List.mem_of_getElem? (i := 86) rfl) rfl
theorem zm_1_87 : (Jvm.Cond.fieldLink "FlexibleBoxes" (150 : Nat) "FlexibleBoxes$Box" "line" "I") ∈ zU := zin1 (List.mem_of_getElem? (i := 87) rfl) rfl
theorem zm_1_125 : (Jvm.Cond.arrayClass Jvm.ClassFile.FieldType.int) ∈ zU := zin1 (List.mem_of_getElem? (i := 125) rfl) rfl
theorem zm_1_126 : (Jvm.Cond.methodLink "FlexibleBoxes$Tree" (34 : Nat) ({ cls := "FlexibleBoxes$Box", name := "begin", desc := "(LFlexibleBoxes$Box;)V" } : Jvm.MethodName)) ∈ zU := zin1 (List.mem_of_getElem? (i := 126) rfl) rfl
theorem zm_1_127 : (Jvm.Cond.instanceMethod ({ cls := "FlexibleBoxes$Box", name := "begin", desc := "(LFlexibleBoxes$Box;)V" } : Jvm.MethodName)) ∈ zU := zin1 (List.mem_of_getElem? (i := 127) rfl) rfl
theorem zm_1_128 : (Jvm.Cond.selects "FlexibleBoxes$Box" ({ cls := "FlexibleBoxes$Box", name := "begin", desc := "(LFlexibleBoxes$Box;)V" } : Jvm.MethodName) ({ cls := "FlexibleBoxes$Box", name := "begin", desc := "(LFlexibleBoxes$Box;)V" } : Jvm.MethodName)) ∈ zU := zin1 (List.mem_of_getElem? (i := 128) rfl) rfl
theorem zm_1_129 : (Jvm.Cond.code ({ cls := "FlexibleBoxes$Box", name := "begin", desc := "(LFlexibleBoxes$Box;)V" } : Jvm.MethodName) prog_2_method_2_code (3 : Nat) (Option.none : Option Jvm.ClassFile.FieldType)) ∈ zU := zin1 (List.mem_of_getElem? (i := 129) rfl) rfl
theorem zm_1_132 : (Jvm.Cond.fieldLink "FlexibleBoxes$Tree" (11 : Nat) "FlexibleBoxes$Tree" "boxes" "[LFlexibleBoxes$Box;") ∈ zU := zin1 (List.mem_of_getElem? (i := 132) rfl) rfl
theorem zm_1_133 : (Jvm.Cond.fieldLink "FlexibleBoxes$Tree" (20 : Nat) "FlexibleBoxes$Tree" "root" "LFlexibleBoxes$Box;") ∈ zU := zin1 (List.mem_of_getElem? (i := 133) rfl) rfl
theorem zm_1_134 : (Jvm.Cond.fieldLink "FlexibleBoxes$Layout" (39 : Nat) "FlexibleBoxes$Tree" "root" "LFlexibleBoxes$Box;") ∈ zU := zin1 (List.mem_of_getElem? (i := 134) rfl) rfl
theorem zm_1_135 : (Jvm.Cond.fieldLink "FlexibleBoxes$Tree" (24 : Nat) "FlexibleBoxes$Tree" "given" "I") ∈ zU := zin1 (List.mem_of_getElem? (i := 135) rfl) rfl
theorem zm_1_136 : (Jvm.Cond.fieldLink "FlexibleBoxes$Tree" (28 : Nat) "FlexibleBoxes$Tree" "viewportWidth" "I") ∈ zU := zin1 (List.mem_of_getElem? (i := 136) rfl) rfl
theorem zm_1_137 : (Jvm.Cond.fieldLink "FlexibleBoxes$Layout" (43 : Nat) "FlexibleBoxes$Tree" "viewportWidth" "I") ∈ zU := zin1 (List.mem_of_getElem? (i := 137) rfl) rfl
theorem zm_1_138 : (Jvm.Cond.fieldLink "FlexibleBoxes" (119 : Nat) "FlexibleBoxes$Tree" "viewportWidth" "I") ∈ zU := zin1 (List.mem_of_getElem? (i := 138) rfl) rfl
theorem zm_1_139 : (Jvm.Cond.fieldLink "FlexibleBoxes$Tree" (31 : Nat) "FlexibleBoxes$Tree" "viewportHeight" "I") ∈ zU := zin1 (List.mem_of_getElem? (i := 139) rfl) rfl
theorem zm_1_140 : (Jvm.Cond.fieldLink "FlexibleBoxes$Layout" (58 : Nat) "FlexibleBoxes$Tree" "viewportHeight" "I") ∈ zU := zin1 (List.mem_of_getElem? (i := 140) rfl) rfl
theorem zm_1_141 : (Jvm.Cond.fieldLink "FlexibleBoxes" (122 : Nat) "FlexibleBoxes$Tree" "viewportHeight" "I") ∈ zU := zin1 (List.mem_of_getElem? (i := 141) rfl) rfl
theorem zm_1_153 : (Jvm.Cond.classLink "FlexibleBoxes" (16 : Nat) "FlexibleBoxes$Layout") ∈ zU := zin1 (List.mem_of_getElem? (i := 153) rfl) rfl
theorem zm_1_154 : (Jvm.Cond.instantiable "FlexibleBoxes$Layout" (3 : Nat)) ∈ zU := zin1 (List.mem_of_getElem? (i := 154) rfl) rfl
theorem zm_1_155 : (Jvm.Cond.methodLink "FlexibleBoxes" (18 : Nat) ({ cls := "FlexibleBoxes$Layout", name := "<init>", desc := "(LFlexibleBoxes$Tree;)V" } : Jvm.MethodName)) ∈ zU := zin1 (List.mem_of_getElem? (i := 155) rfl) rfl
theorem zm_1_156 : (Jvm.Cond.instanceMethod ({ cls := "FlexibleBoxes$Layout", name := "<init>", desc := "(LFlexibleBoxes$Tree;)V" } : Jvm.MethodName)) ∈ zU := zin1 (List.mem_of_getElem? (i := 156) rfl) rfl
theorem zm_1_157 : (Jvm.Cond.code ({ cls := "FlexibleBoxes$Layout", name := "<init>", desc := "(LFlexibleBoxes$Tree;)V" } : Jvm.MethodName) prog_4_method_1_code (2 : Nat) (Option.none : Option Jvm.ClassFile.FieldType)) ∈ zU := zin1 (List.mem_of_getElem? (i := 157) rfl) rfl
theorem zm_1_158 : (Jvm.Cond.methodLink "FlexibleBoxes$Layout" (3 : Nat) ({ cls := "java/lang/Object", name := "<init>", desc := "()V" } : Jvm.MethodName)) ∈ zU := zin1 (List.mem_of_getElem? (i := 158) rfl) rfl
theorem zm_1_159 : (Jvm.Cond.classLink "FlexibleBoxes$Layout" (9 : Nat) "FlexibleBoxes$Flex") ∈ zU := zin1 (List.mem_of_getElem? (i := 159) rfl) rfl
theorem zm_1_160 : (Jvm.Cond.instantiable "FlexibleBoxes$Flex" (11 : Nat)) ∈ zU := zin1 (List.mem_of_getElem? (i := 160) rfl) rfl
theorem zm_1_162 : (Jvm.Cond.instanceMethod ({ cls := "FlexibleBoxes$Flex", name := "<init>", desc := "()V" } : Jvm.MethodName)) ∈ zU := zin1 (List.mem_of_getElem? (i := 162) rfl) rfl
theorem zm_1_163 : (Jvm.Cond.code ({ cls := "FlexibleBoxes$Flex", name := "<init>", desc := "()V" } : Jvm.MethodName) prog_3_method_1_code (1 : Nat) (Option.none : Option Jvm.ClassFile.FieldType)) ∈ zU := zin1 (List.mem_of_getElem? (i := 163) rfl) rfl
theorem zm_1_164 : (Jvm.Cond.methodLink "FlexibleBoxes$Flex" (3 : Nat) ({ cls := "java/lang/Object", name := "<init>", desc := "()V" } : Jvm.MethodName)) ∈ zU := zin1 (List.mem_of_getElem? (i := 164) rfl) rfl
theorem zm_1_165 : (Jvm.Cond.fieldLink "FlexibleBoxes$Flex" (9 : Nat) "FlexibleBoxes$Flex" "bases" "[I") ∈ zU := zin1 (List.mem_of_getElem? (i := 165) rfl) rfl
theorem zm_1_166 : (Jvm.Cond.fieldLink "FlexibleBoxes$Flex" (15 : Nat) "FlexibleBoxes$Flex" "leasts" "[I") ∈ zU := zin1 (List.mem_of_getElem? (i := 166) rfl) rfl
theorem zm_1_167 : (Jvm.Cond.fieldLink "FlexibleBoxes$Flex" (18 : Nat) "FlexibleBoxes$Flex" "greatests" "[I") ∈ zU := zin1 (List.mem_of_getElem? (i := 167) rfl) rfl
theorem zm_1_168 : (Jvm.Cond.fieldLink "FlexibleBoxes$Flex" (21 : Nat) "FlexibleBoxes$Flex" "grows" "[I") ∈ zU := zin1 (List.mem_of_getElem? (i := 168) rfl) rfl
theorem zm_1_169 : (Jvm.Cond.fieldLink "FlexibleBoxes$Flex" (24 : Nat) "FlexibleBoxes$Flex" "shrinks" "[I") ∈ zU := zin1 (List.mem_of_getElem? (i := 169) rfl) rfl
theorem zm_1_170 : (Jvm.Cond.fieldLink "FlexibleBoxes$Flex" (27 : Nat) "FlexibleBoxes$Flex" "factors" "[I") ∈ zU := zin1 (List.mem_of_getElem? (i := 170) rfl) rfl
theorem zm_1_171 : (Jvm.Cond.fieldLink "FlexibleBoxes$Flex" (30 : Nat) "FlexibleBoxes$Flex" "sizes" "[I") ∈ zU := zin1 (List.mem_of_getElem? (i := 171) rfl) rfl
theorem zm_1_172 : (Jvm.Cond.fieldLink "FlexibleBoxes$Flex" (33 : Nat) "FlexibleBoxes$Flex" "deviations" "[I") ∈ zU := zin1 (List.mem_of_getElem? (i := 172) rfl) rfl
theorem zm_1_173 : (Jvm.Cond.fieldLink "FlexibleBoxes$Flex" (36 : Nat) "FlexibleBoxes$Flex" "settled" "[Z") ∈ zU := zin1 (List.mem_of_getElem? (i := 173) rfl) rfl
theorem zm_1_174 : (Jvm.Cond.fieldLink "FlexibleBoxes$Flex" (40 : Nat) "FlexibleBoxes$Flex" "count" "I") ∈ zU := zin1 (List.mem_of_getElem? (i := 174) rfl) rfl
theorem zm_1_175 : (Jvm.Cond.fieldLink "FlexibleBoxes$Flex" (44 : Nat) "FlexibleBoxes$Flex" "margins" "I") ∈ zU := zin1 (List.mem_of_getElem? (i := 175) rfl) rfl
theorem zm_1_199 : (Jvm.Cond.arrayClass Jvm.ClassFile.FieldType.boolean) ∈ zU := zin1 (List.mem_of_getElem? (i := 199) rfl) rfl
theorem zm_1_200 : (Jvm.Cond.fieldLink "FlexibleBoxes$Layout" (22 : Nat) "FlexibleBoxes$Layout" "tree" "LFlexibleBoxes$Tree;") ∈ zU := zin1 (List.mem_of_getElem? (i := 200) rfl) rfl
theorem zm_1_201 : (Jvm.Cond.fieldLink "FlexibleBoxes$Layout" (12 : Nat) "FlexibleBoxes$Layout" "flex" "LFlexibleBoxes$Flex;") ∈ zU := zin1 (List.mem_of_getElem? (i := 201) rfl) rfl
theorem zm_1_202 : (Jvm.Cond.fieldLink "FlexibleBoxes$Layout" (18 : Nat) "FlexibleBoxes$Layout" "stale" "Z") ∈ zU := zin1 (List.mem_of_getElem? (i := 202) rfl) rfl
theorem zm_1_203 : (Jvm.Cond.fieldLink "FlexibleBoxes" (46 : Nat) "FlexibleBoxes$Layout" "stale" "Z") ∈ zU := zin1 (List.mem_of_getElem? (i := 203) rfl) rfl
theorem zm_1_211 : (Jvm.Cond.classLink "FlexibleBoxes" (25 : Nat) "FlexibleBoxes$Snapshot") ∈ zU := zin1 (List.mem_of_getElem? (i := 211) rfl) rfl
theorem zm_1_213 : (Jvm.Cond.fieldLink "FlexibleBoxes" (10 : Nat) "FlexibleBoxes" "tree" "LFlexibleBoxes$Tree;") ∈ zU := zin1 (List.mem_of_getElem? (i := 213) rfl) rfl
theorem zm_1_214 : (Jvm.Cond.fieldLink "FlexibleBoxes" (21 : Nat) "FlexibleBoxes" "layout" "LFlexibleBoxes$Layout;") ∈ zU := zin1 (List.mem_of_getElem? (i := 214) rfl) rfl
theorem zm_1_215 : (Jvm.Cond.fieldLink "FlexibleBoxes" (27 : Nat) "FlexibleBoxes" "slots" "[LFlexibleBoxes$Snapshot;") ∈ zU := zin1 (List.mem_of_getElem? (i := 215) rfl) rfl
theorem zm_1_223 : (Jvm.Cond.methodLink "FlexibleBoxesLaw" (97 : Nat) ({ cls := "FlexibleBoxes", name := "boxes", desc := "()I" } : Jvm.MethodName)) ∈ zU := zin1 (List.mem_of_getElem? (i := 223) rfl) rfl
theorem zm_1_224 : (Jvm.Cond.instanceMethod ({ cls := "FlexibleBoxes", name := "boxes", desc := "()I" } : Jvm.MethodName)) ∈ zU := zin1 (List.mem_of_getElem? (i := 224) rfl) rfl
theorem zm_1_225 : (Jvm.Cond.selects "FlexibleBoxes" ({ cls := "FlexibleBoxes", name := "boxes", desc := "()I" } : Jvm.MethodName) ({ cls := "FlexibleBoxes", name := "boxes", desc := "()I" } : Jvm.MethodName)) ∈ zU := zin1 (List.mem_of_getElem? (i := 225) rfl) rfl
theorem zm_1_226 : (Jvm.Cond.code ({ cls := "FlexibleBoxes", name := "boxes", desc := "()I" } : Jvm.MethodName) prog_1_method_4_code (1 : Nat) (Option.some Jvm.ClassFile.FieldType.int)) ∈ zU := zin1 (List.mem_of_getElem? (i := 226) rfl) rfl
theorem zm_1_227 : (Jvm.Cond.methodLink "FlexibleBoxes" (67 : Nat) ({ cls := "FlexibleBoxes$Tree", name := "count", desc := "()I" } : Jvm.MethodName)) ∈ zU := zin1 (List.mem_of_getElem? (i := 227) rfl) rfl
theorem zm_1_228 : (Jvm.Cond.instanceMethod ({ cls := "FlexibleBoxes$Tree", name := "count", desc := "()I" } : Jvm.MethodName)) ∈ zU := zin1 (List.mem_of_getElem? (i := 228) rfl) rfl
theorem zm_1_229 : (Jvm.Cond.selects "FlexibleBoxes$Tree" ({ cls := "FlexibleBoxes$Tree", name := "count", desc := "()I" } : Jvm.MethodName) ({ cls := "FlexibleBoxes$Tree", name := "count", desc := "()I" } : Jvm.MethodName)) ∈ zU := zin1 (List.mem_of_getElem? (i := 229) rfl) rfl
theorem zm_1_230 : (Jvm.Cond.code ({ cls := "FlexibleBoxes$Tree", name := "count", desc := "()I" } : Jvm.MethodName) prog_6_method_7_code (4 : Nat) (Option.some Jvm.ClassFile.FieldType.int)) ∈ zU := zin1 (List.mem_of_getElem? (i := 230) rfl) rfl
theorem zm_1_231 : (Jvm.Cond.methodLink "FlexibleBoxes$Tree" (38 : Nat) ({ cls := "FlexibleBoxes$Tree", name := "at", desc := "(I)LFlexibleBoxes$Box;" } : Jvm.MethodName)) ∈ zU := zin1 (List.mem_of_getElem? (i := 231) rfl) rfl
theorem zm_1_232 : (Jvm.Cond.instanceMethod ({ cls := "FlexibleBoxes$Tree", name := "at", desc := "(I)LFlexibleBoxes$Box;" } : Jvm.MethodName)) ∈ zU := zin1 (List.mem_of_getElem? (i := 232) rfl) rfl
theorem zm_1_233 : (Jvm.Cond.selects "FlexibleBoxes$Tree" ({ cls := "FlexibleBoxes$Tree", name := "at", desc := "(I)LFlexibleBoxes$Box;" } : Jvm.MethodName) ({ cls := "FlexibleBoxes$Tree", name := "at", desc := "(I)LFlexibleBoxes$Box;" } : Jvm.MethodName)) ∈ zU := zin1 (List.mem_of_getElem? (i := 233) rfl) rfl
theorem zm_1_234 : (Jvm.Cond.code ({ cls := "FlexibleBoxes$Tree", name := "at", desc := "(I)LFlexibleBoxes$Box;" } : Jvm.MethodName) prog_6_method_2_code (2 : Nat) (Option.some (Jvm.ClassFile.FieldType.object "FlexibleBoxes$Box"))) ∈ zU := zin1 (List.mem_of_getElem? (i := 234) rfl) rfl
theorem zm_1_235 : (Jvm.Cond.methodLink "FlexibleBoxesLaw" (149 : Nat) ({ cls := "FlexibleBoxes", name := "hit", desc := "(II)I" } : Jvm.MethodName)) ∈ zU := zin1 (List.mem_of_getElem? (i := 235) rfl) rfl
theorem zm_1_236 : (Jvm.Cond.instanceMethod ({ cls := "FlexibleBoxes", name := "hit", desc := "(II)I" } : Jvm.MethodName)) ∈ zU := zin1 (List.mem_of_getElem? (i := 236) rfl) rfl
theorem zm_1_237 : (Jvm.Cond.selects "FlexibleBoxes" ({ cls := "FlexibleBoxes", name := "hit", desc := "(II)I" } : Jvm.MethodName) ({ cls := "FlexibleBoxes", name := "hit", desc := "(II)I" } : Jvm.MethodName)) ∈ zU := zin1 (List.mem_of_getElem? (i := 237) rfl) rfl
theorem zm_1_238 : (Jvm.Cond.code ({ cls := "FlexibleBoxes", name := "hit", desc := "(II)I" } : Jvm.MethodName) prog_1_method_20_code (3 : Nat) (Option.some Jvm.ClassFile.FieldType.int)) ∈ zU := zin1 (List.mem_of_getElem? (i := 238) rfl) rfl
theorem zm_1_239 : (Jvm.Cond.methodLink "FlexibleBoxes" (74 : Nat) ({ cls := "FlexibleBoxes$Layout", name := "arrange", desc := "()V" } : Jvm.MethodName)) ∈ zU := zin1 (List.mem_of_getElem? (i := 239) rfl) rfl
theorem zm_2_0 : (Jvm.Cond.instanceMethod ({ cls := "FlexibleBoxes$Layout", name := "arrange", desc := "()V" } : Jvm.MethodName)) ∈ zU := zin2 (List.mem_of_getElem? (i := 0) rfl) rfl
theorem zm_2_1 : (Jvm.Cond.selects "FlexibleBoxes$Layout" ({ cls := "FlexibleBoxes$Layout", name := "arrange", desc := "()V" } : Jvm.MethodName) ({ cls := "FlexibleBoxes$Layout", name := "arrange", desc := "()V" } : Jvm.MethodName)) ∈ zU := zin2 (List.mem_of_getElem? (i := 1) rfl) rfl
theorem zm_2_2 : (Jvm.Cond.code ({ cls := "FlexibleBoxes$Layout", name := "arrange", desc := "()V" } : Jvm.MethodName) prog_4_method_2_code (3 : Nat) (Option.none : Option Jvm.ClassFile.FieldType)) ∈ zU := zin2 (List.mem_of_getElem? (i := 2) rfl) rfl
theorem zm_2_3 : (Jvm.Cond.methodLink "FlexibleBoxes$Layout" (26 : Nat) ({ cls := "FlexibleBoxes$Tree", name := "link", desc := "()V" } : Jvm.MethodName)) ∈ zU := zin2 (List.mem_of_getElem? (i := 3) rfl) rfl
theorem zm_2_4 : (Jvm.Cond.instanceMethod ({ cls := "FlexibleBoxes$Tree", name := "link", desc := "()V" } : Jvm.MethodName)) ∈ zU := zin2 (List.mem_of_getElem? (i := 4) rfl) rfl
theorem zm_2_5 : (Jvm.Cond.selects "FlexibleBoxes$Tree" ({ cls := "FlexibleBoxes$Tree", name := "link", desc := "()V" } : Jvm.MethodName) ({ cls := "FlexibleBoxes$Tree", name := "link", desc := "()V" } : Jvm.MethodName)) ∈ zU := zin2 (List.mem_of_getElem? (i := 5) rfl) rfl
theorem zm_2_6 : (Jvm.Cond.code ({ cls := "FlexibleBoxes$Tree", name := "link", desc := "()V" } : Jvm.MethodName) prog_6_method_8_code (3 : Nat) (Option.none : Option Jvm.ClassFile.FieldType)) ∈ zU := zin2 (List.mem_of_getElem? (i := 6) rfl) rfl
theorem zm_2_7 : (Jvm.Cond.methodLink "FlexibleBoxes$Tree" (55 : Nat) ({ cls := "FlexibleBoxes$Box", name := "unlink", desc := "()V" } : Jvm.MethodName)) ∈ zU := zin2 (List.mem_of_getElem? (i := 7) rfl) rfl
theorem zm_2_8 : (Jvm.Cond.instanceMethod ({ cls := "FlexibleBoxes$Box", name := "unlink", desc := "()V" } : Jvm.MethodName)) ∈ zU := zin2 (List.mem_of_getElem? (i := 8) rfl) rfl
theorem zm_2_9 : (Jvm.Cond.selects "FlexibleBoxes$Box" ({ cls := "FlexibleBoxes$Box", name := "unlink", desc := "()V" } : Jvm.MethodName) ({ cls := "FlexibleBoxes$Box", name := "unlink", desc := "()V" } : Jvm.MethodName)) ∈ zU := zin2 (List.mem_of_getElem? (i := 9) rfl) rfl
theorem zm_2_10 : (Jvm.Cond.code ({ cls := "FlexibleBoxes$Box", name := "unlink", desc := "()V" } : Jvm.MethodName) prog_2_method_9_code (1 : Nat) (Option.none : Option Jvm.ClassFile.FieldType)) ∈ zU := zin2 (List.mem_of_getElem? (i := 10) rfl) rfl
theorem zm_2_11 : (Jvm.Cond.methodLink "FlexibleBoxes$Tree" (61 : Nat) ({ cls := "FlexibleBoxes$Box", name := "of", desc := "(I)I" } : Jvm.MethodName)) ∈ zU := zin2 (List.mem_of_getElem? (i := 11) rfl) rfl
theorem zm_2_12 : (Jvm.Cond.instanceMethod ({ cls := "FlexibleBoxes$Box", name := "of", desc := "(I)I" } : Jvm.MethodName)) ∈ zU := zin2 (List.mem_of_getElem? (i := 12) rfl) rfl
theorem zm_2_13 : (Jvm.Cond.selects "FlexibleBoxes$Box" ({ cls := "FlexibleBoxes$Box", name := "of", desc := "(I)I" } : Jvm.MethodName) ({ cls := "FlexibleBoxes$Box", name := "of", desc := "(I)I" } : Jvm.MethodName)) ∈ zU := zin2 (List.mem_of_getElem? (i := 13) rfl) rfl
theorem zm_2_14 : (Jvm.Cond.code ({ cls := "FlexibleBoxes$Box", name := "of", desc := "(I)I" } : Jvm.MethodName) prog_2_method_3_code (2 : Nat) (Option.some Jvm.ClassFile.FieldType.int)) ∈ zU := zin2 (List.mem_of_getElem? (i := 14) rfl) rfl
theorem zm_2_15 : (Jvm.Cond.methodLink "FlexibleBoxes$Tree" (65 : Nat) ({ cls := "FlexibleBoxes$Box", name := "adopt", desc := "(LFlexibleBoxes$Box;)V" } : Jvm.MethodName)) ∈ zU := zin2 (List.mem_of_getElem? (i := 15) rfl) rfl
theorem zm_2_16 : (Jvm.Cond.instanceMethod ({ cls := "FlexibleBoxes$Box", name := "adopt", desc := "(LFlexibleBoxes$Box;)V" } : Jvm.MethodName)) ∈ zU := zin2 (List.mem_of_getElem? (i := 16) rfl) rfl
theorem zm_2_17 : (Jvm.Cond.selects "FlexibleBoxes$Box" ({ cls := "FlexibleBoxes$Box", name := "adopt", desc := "(LFlexibleBoxes$Box;)V" } : Jvm.MethodName) ({ cls := "FlexibleBoxes$Box", name := "adopt", desc := "(LFlexibleBoxes$Box;)V" } : Jvm.MethodName)) ∈ zU := zin2 (List.mem_of_getElem? (i := 17) rfl) rfl
theorem zm_2_18 : (Jvm.Cond.code ({ cls := "FlexibleBoxes$Box", name := "adopt", desc := "(LFlexibleBoxes$Box;)V" } : Jvm.MethodName) prog_2_method_10_code (4 : Nat) (Option.none : Option Jvm.ClassFile.FieldType)) ∈ zU := zin2 (List.mem_of_getElem? (i := 18) rfl) rfl
theorem zm_2_19 : (Jvm.Cond.methodLink "FlexibleBoxes$Box" (30 : Nat) ({ cls := "FlexibleBoxes$Box", name := "of", desc := "(I)I" } : Jvm.MethodName)) ∈ zU := zin2 (List.mem_of_getElem? (i := 19) rfl) rfl
theorem zm_2_20 : (Jvm.Cond.methodLink "FlexibleBoxes$Layout" (31 : Nat) ({ cls := "FlexibleBoxes$Tree", name := "shownAt", desc := "(I)LFlexibleBoxes$Box;" } : Jvm.MethodName)) ∈ zU := zin2 (List.mem_of_getElem? (i := 20) rfl) rfl
theorem zm_2_21 : (Jvm.Cond.instanceMethod ({ cls := "FlexibleBoxes$Tree", name := "shownAt", desc := "(I)LFlexibleBoxes$Box;" } : Jvm.MethodName)) ∈ zU := zin2 (List.mem_of_getElem? (i := 21) rfl) rfl
theorem zm_2_22 : (Jvm.Cond.selects "FlexibleBoxes$Tree" ({ cls := "FlexibleBoxes$Tree", name := "shownAt", desc := "(I)LFlexibleBoxes$Box;" } : Jvm.MethodName) ({ cls := "FlexibleBoxes$Tree", name := "shownAt", desc := "(I)LFlexibleBoxes$Box;" } : Jvm.MethodName)) ∈ zU := zin2 (List.mem_of_getElem? (i := 22) rfl) rfl
theorem zm_2_23 : (Jvm.Cond.code ({ cls := "FlexibleBoxes$Tree", name := "shownAt", desc := "(I)LFlexibleBoxes$Box;" } : Jvm.MethodName) prog_6_method_3_code (3 : Nat) (Option.some (Jvm.ClassFile.FieldType.object "FlexibleBoxes$Box"))) ∈ zU := zin2 (List.mem_of_getElem? (i := 23) rfl) rfl
theorem zm_2_24 : (Jvm.Cond.methodLink "FlexibleBoxes$Layout" (35 : Nat) ({ cls := "FlexibleBoxes$Layout", name := "measureWidth", desc := "(LFlexibleBoxes$Box;)V" } : Jvm.MethodName)) ∈ zU := zin2 (List.mem_of_getElem? (i := 24) rfl) rfl
theorem zm_2_25 : (Jvm.Cond.static ({ cls := "FlexibleBoxes$Layout", name := "measureWidth", desc := "(LFlexibleBoxes$Box;)V" } : Jvm.MethodName)) ∈ zU := zin2 (List.mem_of_getElem? (i := 25) rfl) rfl
theorem zm_2_26 : (Jvm.Cond.code ({ cls := "FlexibleBoxes$Layout", name := "measureWidth", desc := "(LFlexibleBoxes$Box;)V" } : Jvm.MethodName) prog_4_method_3_code (2 : Nat) (Option.none : Option Jvm.ClassFile.FieldType)) ∈ zU := zin2 (List.mem_of_getElem? (i := 26) rfl) rfl
theorem zm_2_27 : (Jvm.Cond.methodLink "FlexibleBoxes$Layout" (74 : Nat) ({ cls := "FlexibleBoxes$Box", name := "fixedSize", desc := "(I)I" } : Jvm.MethodName)) ∈ zU := zin2 (List.mem_of_getElem? (i := 27) rfl) rfl
theorem zm_2_28 : (Jvm.Cond.instanceMethod ({ cls := "FlexibleBoxes$Box", name := "fixedSize", desc := "(I)I" } : Jvm.MethodName)) ∈ zU := zin2 (List.mem_of_getElem? (i := 28) rfl) rfl
theorem zm_2_29 : (Jvm.Cond.selects "FlexibleBoxes$Box" ({ cls := "FlexibleBoxes$Box", name := "fixedSize", desc := "(I)I" } : Jvm.MethodName) ({ cls := "FlexibleBoxes$Box", name := "fixedSize", desc := "(I)I" } : Jvm.MethodName)) ∈ zU := zin2 (List.mem_of_getElem? (i := 29) rfl) rfl
theorem zm_2_30 : (Jvm.Cond.code ({ cls := "FlexibleBoxes$Box", name := "fixedSize", desc := "(I)I" } : Jvm.MethodName) prog_2_method_16_code (2 : Nat) (Option.some Jvm.ClassFile.FieldType.int)) ∈ zU := zin2 (List.mem_of_getElem? (i := 30) rfl) rfl
theorem zm_2_31 : (Jvm.Cond.methodLink "FlexibleBoxes$Box" (65 : Nat) ({ cls := "FlexibleBoxes$Box", name := "isRoot", desc := "()Z" } : Jvm.MethodName)) ∈ zU := zin2 (List.mem_of_getElem? (i := 31) rfl) rfl
theorem zm_2_32 : (Jvm.Cond.instanceMethod ({ cls := "FlexibleBoxes$Box", name := "isRoot", desc := "()Z" } : Jvm.MethodName)) ∈ zU := zin2 (List.mem_of_getElem? (i := 32) rfl) rfl
theorem zm_2_33 : (Jvm.Cond.selects "FlexibleBoxes$Box" ({ cls := "FlexibleBoxes$Box", name := "isRoot", desc := "()Z" } : Jvm.MethodName) ({ cls := "FlexibleBoxes$Box", name := "isRoot", desc := "()Z" } : Jvm.MethodName)) ∈ zU := zin2 (List.mem_of_getElem? (i := 33) rfl) rfl
theorem zm_2_34 : (Jvm.Cond.code ({ cls := "FlexibleBoxes$Box", name := "isRoot", desc := "()Z" } : Jvm.MethodName) prog_2_method_5_code (1 : Nat) (Option.some Jvm.ClassFile.FieldType.boolean)) ∈ zU := zin2 (List.mem_of_getElem? (i := 34) rfl) rfl
theorem zm_2_35 : (Jvm.Cond.methodLink "FlexibleBoxes$Layout" (78 : Nat) ({ cls := "FlexibleBoxes$Layout", name := "contentWidth", desc := "(LFlexibleBoxes$Box;)I" } : Jvm.MethodName)) ∈ zU := zin2 (List.mem_of_getElem? (i := 35) rfl) rfl
theorem zm_2_36 : (Jvm.Cond.static ({ cls := "FlexibleBoxes$Layout", name := "contentWidth", desc := "(LFlexibleBoxes$Box;)I" } : Jvm.MethodName)) ∈ zU := zin2 (List.mem_of_getElem? (i := 36) rfl) rfl
theorem zm_2_37 : (Jvm.Cond.code ({ cls := "FlexibleBoxes$Layout", name := "contentWidth", desc := "(LFlexibleBoxes$Box;)I" } : Jvm.MethodName) prog_4_method_4_code (5 : Nat) (Option.some Jvm.ClassFile.FieldType.int)) ∈ zU := zin2 (List.mem_of_getElem? (i := 37) rfl) rfl
theorem zm_2_38 : (Jvm.Cond.methodLink "FlexibleBoxes$Layout" (82 : Nat) ({ cls := "FlexibleBoxes$Box", name := "of", desc := "(I)I" } : Jvm.MethodName)) ∈ zU := zin2 (List.mem_of_getElem? (i := 38) rfl) rfl
theorem zm_2_40 : (Jvm.Cond.static ({ cls := "FlexibleBoxes", name := "gaps", desc := "(II)I" } : Jvm.MethodName)) ∈ zU := zin2 (List.mem_of_getElem? (i := 40) rfl) rfl
theorem zm_2_41 : (Jvm.Cond.code ({ cls := "FlexibleBoxes", name := "gaps", desc := "(II)I" } : Jvm.MethodName) prog_1_method_29_code (2 : Nat) (Option.some Jvm.ClassFile.FieldType.int)) ∈ zU := zin2 (List.mem_of_getElem? (i := 41) rfl) rfl
theorem zm_2_42 : (Jvm.Cond.methodLink "FlexibleBoxes$Layout" (104 : Nat) ({ cls := "FlexibleBoxes$Box", name := "margins", desc := "()I" } : Jvm.MethodName)) ∈ zU := zin2 (List.mem_of_getElem? (i := 42) rfl) rfl
theorem zm_2_43 : (Jvm.Cond.instanceMethod ({ cls := "FlexibleBoxes$Box", name := "margins", desc := "()I" } : Jvm.MethodName)) ∈ zU := zin2 (List.mem_of_getElem? (i := 43) rfl) rfl
theorem zm_2_44 : (Jvm.Cond.selects "FlexibleBoxes$Box" ({ cls := "FlexibleBoxes$Box", name := "margins", desc := "()I" } : Jvm.MethodName) ({ cls := "FlexibleBoxes$Box", name := "margins", desc := "()I" } : Jvm.MethodName)) ∈ zU := zin2 (List.mem_of_getElem? (i := 44) rfl) rfl
theorem zm_2_45 : (Jvm.Cond.code ({ cls := "FlexibleBoxes$Box", name := "margins", desc := "()I" } : Jvm.MethodName) prog_2_method_13_code (1 : Nat) (Option.some Jvm.ClassFile.FieldType.int)) ∈ zU := zin2 (List.mem_of_getElem? (i := 45) rfl) rfl
theorem zm_2_46 : (Jvm.Cond.methodLink "FlexibleBoxes$Layout" (108 : Nat) ({ cls := "java/lang/Math", name := "max", desc := "(II)I" } : Jvm.MethodName)) ∈ zU := zin2 (List.mem_of_getElem? (i := 46) rfl) rfl
theorem zm_2_47 : (Jvm.Cond.static ({ cls := "java/lang/Math", name := "max", desc := "(II)I" } : Jvm.MethodName)) ∈ zU := zin2 (List.mem_of_getElem? (i := 47) rfl) rfl
theorem zm_2_48 : (Jvm.Cond.code ({ cls := "java/lang/Math", name := "max", desc := "(II)I" } : Jvm.MethodName) prog_13_method_65_code (2 : Nat) (Option.some Jvm.ClassFile.FieldType.int)) ∈ zU := zin2 (List.mem_of_getElem? (i := 48) rfl) rfl
theorem zm_2_49 : (Jvm.Cond.methodLink "FlexibleBoxes$Layout" (64 : Nat) ({ cls := "FlexibleBoxes$Box", name := "isColumn", desc := "()Z" } : Jvm.MethodName)) ∈ zU := zin2 (List.mem_of_getElem? (i := 49) rfl) rfl
theorem zm_2_50 : (Jvm.Cond.instanceMethod ({ cls := "FlexibleBoxes$Box", name := "isColumn", desc := "()Z" } : Jvm.MethodName)) ∈ zU := zin2 (List.mem_of_getElem? (i := 50) rfl) rfl
theorem zm_2_51 : (Jvm.Cond.selects "FlexibleBoxes$Box" ({ cls := "FlexibleBoxes$Box", name := "isColumn", desc := "()Z" } : Jvm.MethodName) ({ cls := "FlexibleBoxes$Box", name := "isColumn", desc := "()Z" } : Jvm.MethodName)) ∈ zU := zin2 (List.mem_of_getElem? (i := 51) rfl) rfl
theorem zm_2_52 : (Jvm.Cond.code ({ cls := "FlexibleBoxes$Box", name := "isColumn", desc := "()Z" } : Jvm.MethodName) prog_2_method_7_code (1 : Nat) (Option.some Jvm.ClassFile.FieldType.boolean)) ∈ zU := zin2 (List.mem_of_getElem? (i := 52) rfl) rfl
theorem zm_2_53 : (Jvm.Cond.methodLink "FlexibleBoxes$Layout" (85 : Nat) ({ cls := "FlexibleBoxes$Box", name := "limitWidth", desc := "(I)I" } : Jvm.MethodName)) ∈ zU := zin2 (List.mem_of_getElem? (i := 53) rfl) rfl
theorem zm_2_54 : (Jvm.Cond.instanceMethod ({ cls := "FlexibleBoxes$Box", name := "limitWidth", desc := "(I)I" } : Jvm.MethodName)) ∈ zU := zin2 (List.mem_of_getElem? (i := 54) rfl) rfl
theorem zm_2_55 : (Jvm.Cond.selects "FlexibleBoxes$Box" ({ cls := "FlexibleBoxes$Box", name := "limitWidth", desc := "(I)I" } : Jvm.MethodName) ({ cls := "FlexibleBoxes$Box", name := "limitWidth", desc := "(I)I" } : Jvm.MethodName)) ∈ zU := zin2 (List.mem_of_getElem? (i := 55) rfl) rfl
theorem zm_2_56 : (Jvm.Cond.code ({ cls := "FlexibleBoxes$Box", name := "limitWidth", desc := "(I)I" } : Jvm.MethodName) prog_2_method_14_code (2 : Nat) (Option.some Jvm.ClassFile.FieldType.int)) ∈ zU := zin2 (List.mem_of_getElem? (i := 56) rfl) rfl
theorem zm_2_58 : (Jvm.Cond.static ({ cls := "FlexibleBoxes", name := "limited", desc := "(III)I" } : Jvm.MethodName)) ∈ zU := zin2 (List.mem_of_getElem? (i := 58) rfl) rfl
theorem zm_2_59 : (Jvm.Cond.code ({ cls := "FlexibleBoxes", name := "limited", desc := "(III)I" } : Jvm.MethodName) prog_1_method_28_code (4 : Nat) (Option.some Jvm.ClassFile.FieldType.int)) ∈ zU := zin2 (List.mem_of_getElem? (i := 59) rfl) rfl
theorem zm_2_60 : (Jvm.Cond.methodLink "FlexibleBoxes$Layout" (52 : Nat) ({ cls := "FlexibleBoxes$Layout", name := "spreadWidths", desc := "(LFlexibleBoxes$Box;)V" } : Jvm.MethodName)) ∈ zU := zin2 (List.mem_of_getElem? (i := 60) rfl) rfl
theorem zm_2_62 : (Jvm.Cond.instanceMethod ({ cls := "FlexibleBoxes$Layout", name := "spreadWidths", desc := "(LFlexibleBoxes$Box;)V" } : Jvm.MethodName)) ∈ zU := zin2 (List.mem_of_getElem? (i := 62) rfl) rfl
theorem zm_2_63 : (Jvm.Cond.code ({ cls := "FlexibleBoxes$Layout", name := "spreadWidths", desc := "(LFlexibleBoxes$Box;)V" } : Jvm.MethodName) prog_4_method_5_code (5 : Nat) (Option.none : Option Jvm.ClassFile.FieldType)) ∈ zU := zin2 (List.mem_of_getElem? (i := 63) rfl) rfl
theorem zm_2_64 : (Jvm.Cond.methodLink "FlexibleBoxes$Layout" (116 : Nat) ({ cls := "FlexibleBoxes$Layout", name := "spreadColumn", desc := "(LFlexibleBoxes$Box;)V" } : Jvm.MethodName)) ∈ zU := zin2 (List.mem_of_getElem? (i := 64) rfl) rfl
theorem zm_2_65 : (Jvm.Cond.static ({ cls := "FlexibleBoxes$Layout", name := "spreadColumn", desc := "(LFlexibleBoxes$Box;)V" } : Jvm.MethodName)) ∈ zU := zin2 (List.mem_of_getElem? (i := 65) rfl) rfl
theorem zm_2_66 : (Jvm.Cond.code ({ cls := "FlexibleBoxes$Layout", name := "spreadColumn", desc := "(LFlexibleBoxes$Box;)V" } : Jvm.MethodName) prog_4_method_6_code (5 : Nat) (Option.none : Option Jvm.ClassFile.FieldType)) ∈ zU := zin2 (List.mem_of_getElem? (i := 66) rfl) rfl
theorem zm_2_67 : (Jvm.Cond.methodLink "FlexibleBoxes$Layout" (129 : Nat) ({ cls := "FlexibleBoxes$Box", name := "innerWidth", desc := "()I" } : Jvm.MethodName)) ∈ zU := zin2 (List.mem_of_getElem? (i := 67) rfl) rfl
theorem zm_2_68 : (Jvm.Cond.instanceMethod ({ cls := "FlexibleBoxes$Box", name := "innerWidth", desc := "()I" } : Jvm.MethodName)) ∈ zU := zin2 (List.mem_of_getElem? (i := 68) rfl) rfl
theorem zm_2_69 : (Jvm.Cond.selects "FlexibleBoxes$Box" ({ cls := "FlexibleBoxes$Box", name := "innerWidth", desc := "()I" } : Jvm.MethodName) ({ cls := "FlexibleBoxes$Box", name := "innerWidth", desc := "()I" } : Jvm.MethodName)) ∈ zU := zin2 (List.mem_of_getElem? (i := 69) rfl) rfl
theorem zm_2_70 : (Jvm.Cond.code ({ cls := "FlexibleBoxes$Box", name := "innerWidth", desc := "()I" } : Jvm.MethodName) prog_2_method_11_code (1 : Nat) (Option.some Jvm.ClassFile.FieldType.int)) ∈ zU := zin2 (List.mem_of_getElem? (i := 70) rfl) rfl
theorem zm_2_71 : (Jvm.Cond.methodLink "FlexibleBoxes$Box" (56 : Nat) ({ cls := "java/lang/Math", name := "max", desc := "(II)I" } : Jvm.MethodName)) ∈ zU := zin2 (List.mem_of_getElem? (i := 71) rfl) rfl
theorem zm_2_72 : (Jvm.Cond.methodLink "FlexibleBoxes$Layout" (136 : Nat) ({ cls := "FlexibleBoxes$Box", name := "alignment", desc := "()I" } : Jvm.MethodName)) ∈ zU := zin2 (List.mem_of_getElem? (i := 72) rfl) rfl
theorem zm_2_73 : (Jvm.Cond.instanceMethod ({ cls := "FlexibleBoxes$Box", name := "alignment", desc := "()I" } : Jvm.MethodName)) ∈ zU := zin2 (List.mem_of_getElem? (i := 73) rfl) rfl
theorem zm_2_74 : (Jvm.Cond.selects "FlexibleBoxes$Box" ({ cls := "FlexibleBoxes$Box", name := "alignment", desc := "()I" } : Jvm.MethodName) ({ cls := "FlexibleBoxes$Box", name := "alignment", desc := "()I" } : Jvm.MethodName)) ∈ zU := zin2 (List.mem_of_getElem? (i := 74) rfl) rfl
theorem zm_2_75 : (Jvm.Cond.code ({ cls := "FlexibleBoxes$Box", name := "alignment", desc := "()I" } : Jvm.MethodName) prog_2_method_17_code (1 : Nat) (Option.some Jvm.ClassFile.FieldType.int)) ∈ zU := zin2 (List.mem_of_getElem? (i := 75) rfl) rfl
theorem zm_2_76 : (Jvm.Cond.methodLink "FlexibleBoxes$Layout" (139 : Nat) ({ cls := "java/lang/Math", name := "min", desc := "(II)I" } : Jvm.MethodName)) ∈ zU := zin2 (List.mem_of_getElem? (i := 76) rfl) rfl
theorem zm_2_77 : (Jvm.Cond.static ({ cls := "java/lang/Math", name := "min", desc := "(II)I" } : Jvm.MethodName)) ∈ zU := zin2 (List.mem_of_getElem? (i := 77) rfl) rfl
theorem zm_2_78 : (Jvm.Cond.code ({ cls := "java/lang/Math", name := "min", desc := "(II)I" } : Jvm.MethodName) prog_13_method_69_code (2 : Nat) (Option.some Jvm.ClassFile.FieldType.int)) ∈ zU := zin2 (List.mem_of_getElem? (i := 78) rfl) rfl
theorem zm_2_79 : (Jvm.Cond.methodLink "FlexibleBoxes$Layout" (119 : Nat) ({ cls := "FlexibleBoxes$Layout", name := "breakLines", desc := "(LFlexibleBoxes$Box;)V" } : Jvm.MethodName)) ∈ zU := zin2 (List.mem_of_getElem? (i := 79) rfl) rfl
theorem zm_2_80 : (Jvm.Cond.static ({ cls := "FlexibleBoxes$Layout", name := "breakLines", desc := "(LFlexibleBoxes$Box;)V" } : Jvm.MethodName)) ∈ zU := zin2 (List.mem_of_getElem? (i := 80) rfl) rfl
theorem zm_2_81 : (Jvm.Cond.code ({ cls := "FlexibleBoxes$Layout", name := "breakLines", desc := "(LFlexibleBoxes$Box;)V" } : Jvm.MethodName) prog_4_method_7_code (5 : Nat) (Option.none : Option Jvm.ClassFile.FieldType)) ∈ zU := zin2 (List.mem_of_getElem? (i := 81) rfl) rfl
theorem zm_2_82 : (Jvm.Cond.methodLink "FlexibleBoxes$Layout" (145 : Nat) ({ cls := "FlexibleBoxes$Flex", name := "baseOf", desc := "(LFlexibleBoxes$Box;Z)I" } : Jvm.MethodName)) ∈ zU := zin2 (List.mem_of_getElem? (i := 82) rfl) rfl
theorem zm_2_83 : (Jvm.Cond.static ({ cls := "FlexibleBoxes$Flex", name := "baseOf", desc := "(LFlexibleBoxes$Box;Z)I" } : Jvm.MethodName)) ∈ zU := zin2 (List.mem_of_getElem? (i := 83) rfl) rfl
theorem zm_2_84 : (Jvm.Cond.code ({ cls := "FlexibleBoxes$Flex", name := "baseOf", desc := "(LFlexibleBoxes$Box;Z)I" } : Jvm.MethodName) prog_3_method_4_code (2 : Nat) (Option.some Jvm.ClassFile.FieldType.int)) ∈ zU := zin2 (List.mem_of_getElem? (i := 84) rfl) rfl
theorem zm_2_85 : (Jvm.Cond.methodLink "FlexibleBoxes$Flex" (51 : Nat) ({ cls := "FlexibleBoxes$Box", name := "of", desc := "(I)I" } : Jvm.MethodName)) ∈ zU := zin2 (List.mem_of_getElem? (i := 85) rfl) rfl
theorem zm_2_86 : (Jvm.Cond.methodLink "FlexibleBoxes$Layout" (149 : Nat) ({ cls := "FlexibleBoxes$Box", name := "wraps", desc := "()Z" } : Jvm.MethodName)) ∈ zU := zin2 (List.mem_of_getElem? (i := 86) rfl) rfl
theorem zm_2_87 : (Jvm.Cond.instanceMethod ({ cls := "FlexibleBoxes$Box", name := "wraps", desc := "()Z" } : Jvm.MethodName)) ∈ zU := zin2 (List.mem_of_getElem? (i := 87) rfl) rfl
theorem zm_2_88 : (Jvm.Cond.selects "FlexibleBoxes$Box" ({ cls := "FlexibleBoxes$Box", name := "wraps", desc := "()Z" } : Jvm.MethodName) ({ cls := "FlexibleBoxes$Box", name := "wraps", desc := "()Z" } : Jvm.MethodName)) ∈ zU := zin2 (List.mem_of_getElem? (i := 88) rfl) rfl
theorem zm_2_89 : (Jvm.Cond.code ({ cls := "FlexibleBoxes$Box", name := "wraps", desc := "()Z" } : Jvm.MethodName) prog_2_method_8_code (1 : Nat) (Option.some Jvm.ClassFile.FieldType.boolean)) ∈ zU := zin2 (List.mem_of_getElem? (i := 89) rfl) rfl
theorem zm_2_90 : (Jvm.Cond.methodLink "FlexibleBoxes$Layout" (125 : Nat) ({ cls := "FlexibleBoxes$Layout", name := "lineEnd", desc := "(LFlexibleBoxes$Box;)LFlexibleBoxes$Box;" } : Jvm.MethodName)) ∈ zU := zin2 (List.mem_of_getElem? (i := 90) rfl) rfl
theorem zm_2_91 : (Jvm.Cond.static ({ cls := "FlexibleBoxes$Layout", name := "lineEnd", desc := "(LFlexibleBoxes$Box;)LFlexibleBoxes$Box;" } : Jvm.MethodName)) ∈ zU := zin2 (List.mem_of_getElem? (i := 91) rfl) rfl
theorem zm_2_92 : (Jvm.Cond.code ({ cls := "FlexibleBoxes$Layout", name := "lineEnd", desc := "(LFlexibleBoxes$Box;)LFlexibleBoxes$Box;" } : Jvm.MethodName) prog_4_method_8_code (2 : Nat) (Option.some (Jvm.ClassFile.FieldType.object "FlexibleBoxes$Box"))) ∈ zU := zin2 (List.mem_of_getElem? (i := 92) rfl) rfl
theorem zm_2_93 : (Jvm.Cond.methodLink "FlexibleBoxes$Layout" (132 : Nat) ({ cls := "FlexibleBoxes$Layout", name := "flexKids", desc := "(LFlexibleBoxes$Box;LFlexibleBoxes$Box;ZII)V" } : Jvm.MethodName)) ∈ zU := zin2 (List.mem_of_getElem? (i := 93) rfl) rfl
theorem zm_2_95 : (Jvm.Cond.instanceMethod ({ cls := "FlexibleBoxes$Layout", name := "flexKids", desc := "(LFlexibleBoxes$Box;LFlexibleBoxes$Box;ZII)V" } : Jvm.MethodName)) ∈ zU := zin2 (List.mem_of_getElem? (i := 95) rfl) rfl
theorem zm_2_96 : (Jvm.Cond.code ({ cls := "FlexibleBoxes$Layout", name := "flexKids", desc := "(LFlexibleBoxes$Box;LFlexibleBoxes$Box;ZII)V" } : Jvm.MethodName) prog_4_method_9_code (8 : Nat) (Option.none : Option Jvm.ClassFile.FieldType)) ∈ zU := zin2 (List.mem_of_getElem? (i := 96) rfl) rfl
theorem zm_2_97 : (Jvm.Cond.methodLink "FlexibleBoxes$Layout" (152 : Nat) ({ cls := "FlexibleBoxes$Flex", name := "clear", desc := "()V" } : Jvm.MethodName)) ∈ zU := zin2 (List.mem_of_getElem? (i := 97) rfl) rfl
theorem zm_2_98 : (Jvm.Cond.instanceMethod ({ cls := "FlexibleBoxes$Flex", name := "clear", desc := "()V" } : Jvm.MethodName)) ∈ zU := zin2 (List.mem_of_getElem? (i := 98) rfl) rfl
theorem zm_2_99 : (Jvm.Cond.selects "FlexibleBoxes$Flex" ({ cls := "FlexibleBoxes$Flex", name := "clear", desc := "()V" } : Jvm.MethodName) ({ cls := "FlexibleBoxes$Flex", name := "clear", desc := "()V" } : Jvm.MethodName)) ∈ zU := zin2 (List.mem_of_getElem? (i := 99) rfl) rfl
theorem zm_2_100 : (Jvm.Cond.code ({ cls := "FlexibleBoxes$Flex", name := "clear", desc := "()V" } : Jvm.MethodName) prog_3_method_2_code (1 : Nat) (Option.none : Option Jvm.ClassFile.FieldType)) ∈ zU := zin2 (List.mem_of_getElem? (i := 100) rfl) rfl
theorem zm_2_101 : (Jvm.Cond.methodLink "FlexibleBoxes$Layout" (155 : Nat) ({ cls := "FlexibleBoxes$Flex", name := "put", desc := "(LFlexibleBoxes$Box;Z)V" } : Jvm.MethodName)) ∈ zU := zin2 (List.mem_of_getElem? (i := 101) rfl) rfl
theorem zm_2_102 : (Jvm.Cond.instanceMethod ({ cls := "FlexibleBoxes$Flex", name := "put", desc := "(LFlexibleBoxes$Box;Z)V" } : Jvm.MethodName)) ∈ zU := zin2 (List.mem_of_getElem? (i := 102) rfl) rfl
theorem zm_2_103 : (Jvm.Cond.selects "FlexibleBoxes$Flex" ({ cls := "FlexibleBoxes$Flex", name := "put", desc := "(LFlexibleBoxes$Box;Z)V" } : Jvm.MethodName) ({ cls := "FlexibleBoxes$Flex", name := "put", desc := "(LFlexibleBoxes$Box;Z)V" } : Jvm.MethodName)) ∈ zU := zin2 (List.mem_of_getElem? (i := 103) rfl) rfl
theorem zm_2_104 : (Jvm.Cond.code ({ cls := "FlexibleBoxes$Flex", name := "put", desc := "(LFlexibleBoxes$Box;Z)V" } : Jvm.MethodName) prog_3_method_3_code (3 : Nat) (Option.none : Option Jvm.ClassFile.FieldType)) ∈ zU := zin2 (List.mem_of_getElem? (i := 104) rfl) rfl
theorem zm_2_105 : (Jvm.Cond.methodLink "FlexibleBoxes$Flex" (47 : Nat) ({ cls := "FlexibleBoxes$Flex", name := "baseOf", desc := "(LFlexibleBoxes$Box;Z)I" } : Jvm.MethodName)) ∈ zU := zin2 (List.mem_of_getElem? (i := 105) rfl) rfl
theorem zm_2_106 : (Jvm.Cond.methodLink "FlexibleBoxes$Flex" (57 : Nat) ({ cls := "FlexibleBoxes$Box", name := "margins", desc := "()I" } : Jvm.MethodName)) ∈ zU := zin2 (List.mem_of_getElem? (i := 106) rfl) rfl
theorem zm_2_107 : (Jvm.Cond.methodLink "FlexibleBoxes$Layout" (159 : Nat) ({ cls := "FlexibleBoxes$Flex", name := "share", desc := "(II)V" } : Jvm.MethodName)) ∈ zU := zin2 (List.mem_of_getElem? (i := 107) rfl) rfl
theorem zm_2_108 : (Jvm.Cond.instanceMethod ({ cls := "FlexibleBoxes$Flex", name := "share", desc := "(II)V" } : Jvm.MethodName)) ∈ zU := zin2 (List.mem_of_getElem? (i := 108) rfl) rfl
theorem zm_2_109 : (Jvm.Cond.selects "FlexibleBoxes$Flex" ({ cls := "FlexibleBoxes$Flex", name := "share", desc := "(II)V" } : Jvm.MethodName) ({ cls := "FlexibleBoxes$Flex", name := "share", desc := "(II)V" } : Jvm.MethodName)) ∈ zU := zin2 (List.mem_of_getElem? (i := 109) rfl) rfl
theorem zm_2_110 : (Jvm.Cond.code ({ cls := "FlexibleBoxes$Flex", name := "share", desc := "(II)V" } : Jvm.MethodName) prog_3_method_6_code (9 : Nat) (Option.none : Option Jvm.ClassFile.FieldType)) ∈ zU := zin2 (List.mem_of_getElem? (i := 110) rfl) rfl
theorem zm_2_112 : (Jvm.Cond.methodLink "FlexibleBoxes$Flex" (70 : Nat) ({ cls := "FlexibleBoxes$Flex", name := "begin", desc := "()I" } : Jvm.MethodName)) ∈ zU := zin2 (List.mem_of_getElem? (i := 112) rfl) rfl
theorem zm_2_114 : (Jvm.Cond.instanceMethod ({ cls := "FlexibleBoxes$Flex", name := "begin", desc := "()I" } : Jvm.MethodName)) ∈ zU := zin2 (List.mem_of_getElem? (i := 114) rfl) rfl
theorem zm_2_115 : (Jvm.Cond.code ({ cls := "FlexibleBoxes$Flex", name := "begin", desc := "()I" } : Jvm.MethodName) prog_3_method_7_code (3 : Nat) (Option.some Jvm.ClassFile.FieldType.int)) ∈ zU := zin2 (List.mem_of_getElem? (i := 115) rfl) rfl
theorem zm_2_117 : (Jvm.Cond.methodLink "FlexibleBoxes$Flex" (73 : Nat) ({ cls := "FlexibleBoxes$Flex", name := "openFactors", desc := "()J" } : Jvm.MethodName)) ∈ zU := zin2 (List.mem_of_getElem? (i := 117) rfl) rfl
theorem zm_2_119 : (Jvm.Cond.instanceMethod ({ cls := "FlexibleBoxes$Flex", name := "openFactors", desc := "()J" } : Jvm.MethodName)) ∈ zU := zin2 (List.mem_of_getElem? (i := 119) rfl) rfl
theorem zm_2_120 : (Jvm.Cond.code ({ cls := "FlexibleBoxes$Flex", name := "openFactors", desc := "()J" } : Jvm.MethodName) prog_3_method_9_code (4 : Nat) (Option.some Jvm.ClassFile.FieldType.long)) ∈ zU := zin2 (List.mem_of_getElem? (i := 120) rfl) rfl
theorem zm_2_121 : (Jvm.Cond.methodLink "FlexibleBoxes$Flex" (77 : Nat) ({ cls := "FlexibleBoxes$Flex", name := "restOf", desc := "(I)I" } : Jvm.MethodName)) ∈ zU := zin2 (List.mem_of_getElem? (i := 121) rfl) rfl
theorem zm_2_123 : (Jvm.Cond.instanceMethod ({ cls := "FlexibleBoxes$Flex", name := "restOf", desc := "(I)I" } : Jvm.MethodName)) ∈ zU := zin2 (List.mem_of_getElem? (i := 123) rfl) rfl
theorem zm_2_124 : (Jvm.Cond.code ({ cls := "FlexibleBoxes$Flex", name := "restOf", desc := "(I)I" } : Jvm.MethodName) prog_3_method_8_code (4 : Nat) (Option.some Jvm.ClassFile.FieldType.int)) ∈ zU := zin2 (List.mem_of_getElem? (i := 124) rfl) rfl
theorem zm_2_125 : (Jvm.Cond.methodLink "FlexibleBoxes$Flex" (80 : Nat) ({ cls := "java/lang/Math", name := "max", desc := "(II)I" } : Jvm.MethodName)) ∈ zU := zin2 (List.mem_of_getElem? (i := 125) rfl) rfl
theorem zm_2_126 : (Jvm.Cond.methodLink "FlexibleBoxes$Flex" (85 : Nat) ({ cls := "FlexibleBoxes$Flex", name := "propose", desc := "(JJZ)J" } : Jvm.MethodName)) ∈ zU := zin2 (List.mem_of_getElem? (i := 126) rfl) rfl
theorem zm_2_128 : (Jvm.Cond.instanceMethod ({ cls := "FlexibleBoxes$Flex", name := "propose", desc := "(JJZ)J" } : Jvm.MethodName)) ∈ zU := zin2 (List.mem_of_getElem? (i := 128) rfl) rfl
theorem zm_2_129 : (Jvm.Cond.code ({ cls := "FlexibleBoxes$Flex", name := "propose", desc := "(JJZ)J" } : Jvm.MethodName) prog_3_method_10_code (17 : Nat) (Option.some Jvm.ClassFile.FieldType.long)) ∈ zU := zin2 (List.mem_of_getElem? (i := 129) rfl) rfl
theorem zm_2_130 : (Jvm.Cond.methodLink "FlexibleBoxes$Flex" (89 : Nat) ({ cls := "FlexibleBoxes$Flex", name := "settle", desc := "(J)V" } : Jvm.MethodName)) ∈ zU := zin2 (List.mem_of_getElem? (i := 130) rfl) rfl
theorem zm_2_132 : (Jvm.Cond.instanceMethod ({ cls := "FlexibleBoxes$Flex", name := "settle", desc := "(J)V" } : Jvm.MethodName)) ∈ zU := zin2 (List.mem_of_getElem? (i := 132) rfl) rfl
theorem zm_2_133 : (Jvm.Cond.code ({ cls := "FlexibleBoxes$Flex", name := "settle", desc := "(J)V" } : Jvm.MethodName) prog_3_method_11_code (5 : Nat) (Option.none : Option Jvm.ClassFile.FieldType)) ∈ zU := zin2 (List.mem_of_getElem? (i := 133) rfl) rfl
theorem zm_2_134 : (Jvm.Cond.methodLink "FlexibleBoxes$Layout" (163 : Nat) ({ cls := "FlexibleBoxes$Flex", name := "sizeAt", desc := "(I)I" } : Jvm.MethodName)) ∈ zU := zin2 (List.mem_of_getElem? (i := 134) rfl) rfl
theorem zm_2_135 : (Jvm.Cond.instanceMethod ({ cls := "FlexibleBoxes$Flex", name := "sizeAt", desc := "(I)I" } : Jvm.MethodName)) ∈ zU := zin2 (List.mem_of_getElem? (i := 135) rfl) rfl
theorem zm_2_136 : (Jvm.Cond.selects "FlexibleBoxes$Flex" ({ cls := "FlexibleBoxes$Flex", name := "sizeAt", desc := "(I)I" } : Jvm.MethodName) ({ cls := "FlexibleBoxes$Flex", name := "sizeAt", desc := "(I)I" } : Jvm.MethodName)) ∈ zU := zin2 (List.mem_of_getElem? (i := 136) rfl) rfl
theorem zm_2_137 : (Jvm.Cond.code ({ cls := "FlexibleBoxes$Flex", name := "sizeAt", desc := "(I)I" } : Jvm.MethodName) prog_3_method_5_code (2 : Nat) (Option.some Jvm.ClassFile.FieldType.int)) ∈ zU := zin2 (List.mem_of_getElem? (i := 137) rfl) rfl
theorem zm_2_138 : (Jvm.Cond.methodLink "FlexibleBoxes$Layout" (55 : Nat) ({ cls := "FlexibleBoxes$Layout", name := "measureHeight", desc := "(LFlexibleBoxes$Box;)V" } : Jvm.MethodName)) ∈ zU := zin2 (List.mem_of_getElem? (i := 138) rfl) rfl
theorem zm_2_139 : (Jvm.Cond.static ({ cls := "FlexibleBoxes$Layout", name := "measureHeight", desc := "(LFlexibleBoxes$Box;)V" } : Jvm.MethodName)) ∈ zU := zin2 (List.mem_of_getElem? (i := 139) rfl) rfl
theorem zm_2_140 : (Jvm.Cond.code ({ cls := "FlexibleBoxes$Layout", name := "measureHeight", desc := "(LFlexibleBoxes$Box;)V" } : Jvm.MethodName) prog_4_method_10_code (2 : Nat) (Option.none : Option Jvm.ClassFile.FieldType)) ∈ zU := zin2 (List.mem_of_getElem? (i := 140) rfl) rfl
theorem zm_2_141 : (Jvm.Cond.methodLink "FlexibleBoxes$Layout" (166 : Nat) ({ cls := "FlexibleBoxes$Box", name := "textLines", desc := "()I" } : Jvm.MethodName)) ∈ zU := zin2 (List.mem_of_getElem? (i := 141) rfl) rfl
theorem zm_2_142 : (Jvm.Cond.instanceMethod ({ cls := "FlexibleBoxes$Box", name := "textLines", desc := "()I" } : Jvm.MethodName)) ∈ zU := zin2 (List.mem_of_getElem? (i := 142) rfl) rfl
theorem zm_2_143 : (Jvm.Cond.selects "FlexibleBoxes$Box" ({ cls := "FlexibleBoxes$Box", name := "textLines", desc := "()I" } : Jvm.MethodName) ({ cls := "FlexibleBoxes$Box", name := "textLines", desc := "()I" } : Jvm.MethodName)) ∈ zU := zin2 (List.mem_of_getElem? (i := 143) rfl) rfl
theorem zm_2_144 : (Jvm.Cond.code ({ cls := "FlexibleBoxes$Box", name := "textLines", desc := "()I" } : Jvm.MethodName) prog_2_method_18_code (2 : Nat) (Option.some Jvm.ClassFile.FieldType.int)) ∈ zU := zin2 (List.mem_of_getElem? (i := 144) rfl) rfl
theorem zm_2_145 : (Jvm.Cond.methodLink "FlexibleBoxes$Box" (73 : Nat) ({ cls := "FlexibleBoxes$Box", name := "innerWidth", desc := "()I" } : Jvm.MethodName)) ∈ zU := zin2 (List.mem_of_getElem? (i := 145) rfl) rfl
theorem zm_2_146 : (Jvm.Cond.methodLink "FlexibleBoxes$Layout" (169 : Nat) ({ cls := "FlexibleBoxes$Layout", name := "contentHeight", desc := "(LFlexibleBoxes$Box;)I" } : Jvm.MethodName)) ∈ zU := zin2 (List.mem_of_getElem? (i := 146) rfl) rfl
theorem zm_2_147 : (Jvm.Cond.static ({ cls := "FlexibleBoxes$Layout", name := "contentHeight", desc := "(LFlexibleBoxes$Box;)I" } : Jvm.MethodName)) ∈ zU := zin2 (List.mem_of_getElem? (i := 147) rfl) rfl
theorem zm_2_148 : (Jvm.Cond.code ({ cls := "FlexibleBoxes$Layout", name := "contentHeight", desc := "(LFlexibleBoxes$Box;)I" } : Jvm.MethodName) prog_4_method_11_code (5 : Nat) (Option.some Jvm.ClassFile.FieldType.int)) ∈ zU := zin2 (List.mem_of_getElem? (i := 148) rfl) rfl
theorem zm_2_149 : (Jvm.Cond.methodLink "FlexibleBoxes$Layout" (178 : Nat) ({ cls := "FlexibleBoxes$Layout", name := "lineHeight", desc := "(LFlexibleBoxes$Box;LFlexibleBoxes$Box;)I" } : Jvm.MethodName)) ∈ zU := zin2 (List.mem_of_getElem? (i := 149) rfl) rfl
theorem zm_2_150 : (Jvm.Cond.static ({ cls := "FlexibleBoxes$Layout", name := "lineHeight", desc := "(LFlexibleBoxes$Box;LFlexibleBoxes$Box;)I" } : Jvm.MethodName)) ∈ zU := zin2 (List.mem_of_getElem? (i := 150) rfl) rfl
theorem zm_2_151 : (Jvm.Cond.code ({ cls := "FlexibleBoxes$Layout", name := "lineHeight", desc := "(LFlexibleBoxes$Box;LFlexibleBoxes$Box;)I" } : Jvm.MethodName) prog_4_method_12_code (4 : Nat) (Option.some Jvm.ClassFile.FieldType.int)) ∈ zU := zin2 (List.mem_of_getElem? (i := 151) rfl) rfl
theorem zm_2_152 : (Jvm.Cond.methodLink "FlexibleBoxes$Layout" (172 : Nat) ({ cls := "FlexibleBoxes$Box", name := "limitHeight", desc := "(I)I" } : Jvm.MethodName)) ∈ zU := zin2 (List.mem_of_getElem? (i := 152) rfl) rfl
theorem zm_2_153 : (Jvm.Cond.instanceMethod ({ cls := "FlexibleBoxes$Box", name := "limitHeight", desc := "(I)I" } : Jvm.MethodName)) ∈ zU := zin2 (List.mem_of_getElem? (i := 153) rfl) rfl
theorem zm_2_154 : (Jvm.Cond.selects "FlexibleBoxes$Box" ({ cls := "FlexibleBoxes$Box", name := "limitHeight", desc := "(I)I" } : Jvm.MethodName) ({ cls := "FlexibleBoxes$Box", name := "limitHeight", desc := "(I)I" } : Jvm.MethodName)) ∈ zU := zin2 (List.mem_of_getElem? (i := 154) rfl) rfl
theorem zm_2_155 : (Jvm.Cond.code ({ cls := "FlexibleBoxes$Box", name := "limitHeight", desc := "(I)I" } : Jvm.MethodName) prog_2_method_15_code (2 : Nat) (Option.some Jvm.ClassFile.FieldType.int)) ∈ zU := zin2 (List.mem_of_getElem? (i := 155) rfl) rfl
theorem zm_2_156 : (Jvm.Cond.methodLink "FlexibleBoxes$Layout" (68 : Nat) ({ cls := "FlexibleBoxes$Layout", name := "placeColumn", desc := "(LFlexibleBoxes$Box;)V" } : Jvm.MethodName)) ∈ zU := zin2 (List.mem_of_getElem? (i := 156) rfl) rfl
theorem zm_2_158 : (Jvm.Cond.instanceMethod ({ cls := "FlexibleBoxes$Layout", name := "placeColumn", desc := "(LFlexibleBoxes$Box;)V" } : Jvm.MethodName)) ∈ zU := zin2 (List.mem_of_getElem? (i := 158) rfl) rfl
theorem zm_2_159 : (Jvm.Cond.code ({ cls := "FlexibleBoxes$Layout", name := "placeColumn", desc := "(LFlexibleBoxes$Box;)V" } : Jvm.MethodName) prog_4_method_14_code (8 : Nat) (Option.none : Option Jvm.ClassFile.FieldType)) ∈ zU := zin2 (List.mem_of_getElem? (i := 159) rfl) rfl
theorem zm_2_160 : (Jvm.Cond.methodLink "FlexibleBoxes$Layout" (185 : Nat) ({ cls := "FlexibleBoxes$Box", name := "innerHeight", desc := "()I" } : Jvm.MethodName)) ∈ zU := zin2 (List.mem_of_getElem? (i := 160) rfl) rfl
theorem zm_2_161 : (Jvm.Cond.instanceMethod ({ cls := "FlexibleBoxes$Box", name := "innerHeight", desc := "()I" } : Jvm.MethodName)) ∈ zU := zin2 (List.mem_of_getElem? (i := 161) rfl) rfl
theorem zm_2_162 : (Jvm.Cond.selects "FlexibleBoxes$Box" ({ cls := "FlexibleBoxes$Box", name := "innerHeight", desc := "()I" } : Jvm.MethodName) ({ cls := "FlexibleBoxes$Box", name := "innerHeight", desc := "()I" } : Jvm.MethodName)) ∈ zU := zin2 (List.mem_of_getElem? (i := 162) rfl) rfl
theorem zm_2_163 : (Jvm.Cond.code ({ cls := "FlexibleBoxes$Box", name := "innerHeight", desc := "()I" } : Jvm.MethodName) prog_2_method_12_code (1 : Nat) (Option.some Jvm.ClassFile.FieldType.int)) ∈ zU := zin2 (List.mem_of_getElem? (i := 163) rfl) rfl
theorem zm_2_164 : (Jvm.Cond.methodLink "FlexibleBoxes$Layout" (195 : Nat) ({ cls := "FlexibleBoxes$Layout", name := "alignShift", desc := "(II)I" } : Jvm.MethodName)) ∈ zU := zin2 (List.mem_of_getElem? (i := 164) rfl) rfl
theorem zm_2_165 : (Jvm.Cond.static ({ cls := "FlexibleBoxes$Layout", name := "alignShift", desc := "(II)I" } : Jvm.MethodName)) ∈ zU := zin2 (List.mem_of_getElem? (i := 165) rfl) rfl
theorem zm_2_166 : (Jvm.Cond.code ({ cls := "FlexibleBoxes$Layout", name := "alignShift", desc := "(II)I" } : Jvm.MethodName) prog_4_method_18_code (2 : Nat) (Option.some Jvm.ClassFile.FieldType.int)) ∈ zU := zin2 (List.mem_of_getElem? (i := 166) rfl) rfl
theorem zm_2_167 : (Jvm.Cond.methodLink "FlexibleBoxes$Layout" (198 : Nat) ({ cls := "FlexibleBoxes$Layout", name := "justifyShift", desc := "(IIII)I" } : Jvm.MethodName)) ∈ zU := zin2 (List.mem_of_getElem? (i := 167) rfl) rfl
theorem zm_2_168 : (Jvm.Cond.static ({ cls := "FlexibleBoxes$Layout", name := "justifyShift", desc := "(IIII)I" } : Jvm.MethodName)) ∈ zU := zin2 (List.mem_of_getElem? (i := 168) rfl) rfl
theorem zm_2_169 : (Jvm.Cond.code ({ cls := "FlexibleBoxes$Layout", name := "justifyShift", desc := "(IIII)I" } : Jvm.MethodName) prog_4_method_17_code (4 : Nat) (Option.some Jvm.ClassFile.FieldType.int)) ∈ zU := zin2 (List.mem_of_getElem? (i := 169) rfl) rfl
theorem zm_2_170 : (Jvm.Cond.methodLink "FlexibleBoxes$Layout" (71 : Nat) ({ cls := "FlexibleBoxes$Layout", name := "placeRow", desc := "(LFlexibleBoxes$Box;)V" } : Jvm.MethodName)) ∈ zU := zin2 (List.mem_of_getElem? (i := 170) rfl) rfl
theorem zm_2_171 : (Jvm.Cond.static ({ cls := "FlexibleBoxes$Layout", name := "placeRow", desc := "(LFlexibleBoxes$Box;)V" } : Jvm.MethodName)) ∈ zU := zin2 (List.mem_of_getElem? (i := 171) rfl) rfl
theorem zm_2_172 : (Jvm.Cond.code ({ cls := "FlexibleBoxes$Layout", name := "placeRow", desc := "(LFlexibleBoxes$Box;)V" } : Jvm.MethodName) prog_4_method_13_code (6 : Nat) (Option.none : Option Jvm.ClassFile.FieldType)) ∈ zU := zin2 (List.mem_of_getElem? (i := 172) rfl) rfl
theorem zm_2_173 : (Jvm.Cond.methodLink "FlexibleBoxes$Layout" (188 : Nat) ({ cls := "FlexibleBoxes$Layout", name := "placeLine", desc := "(LFlexibleBoxes$Box;LFlexibleBoxes$Box;LFlexibleBoxes$Box;II)V" } : Jvm.MethodName)) ∈ zU := zin2 (List.mem_of_getElem? (i := 173) rfl) rfl
theorem zm_2_174 : (Jvm.Cond.static ({ cls := "FlexibleBoxes$Layout", name := "placeLine", desc := "(LFlexibleBoxes$Box;LFlexibleBoxes$Box;LFlexibleBoxes$Box;II)V" } : Jvm.MethodName)) ∈ zU := zin2 (List.mem_of_getElem? (i := 174) rfl) rfl
theorem zm_2_175 : (Jvm.Cond.code ({ cls := "FlexibleBoxes$Layout", name := "placeLine", desc := "(LFlexibleBoxes$Box;LFlexibleBoxes$Box;LFlexibleBoxes$Box;II)V" } : Jvm.MethodName) prog_4_method_15_code (11 : Nat) (Option.none : Option Jvm.ClassFile.FieldType)) ∈ zU := zin2 (List.mem_of_getElem? (i := 175) rfl) rfl
theorem zm_2_176 : (Jvm.Cond.methodLink "FlexibleBoxes$Layout" (202 : Nat) ({ cls := "FlexibleBoxes$Layout", name := "heightInLine", desc := "(LFlexibleBoxes$Box;I)I" } : Jvm.MethodName)) ∈ zU := zin2 (List.mem_of_getElem? (i := 176) rfl) rfl
theorem zm_2_177 : (Jvm.Cond.static ({ cls := "FlexibleBoxes$Layout", name := "heightInLine", desc := "(LFlexibleBoxes$Box;I)I" } : Jvm.MethodName)) ∈ zU := zin2 (List.mem_of_getElem? (i := 177) rfl) rfl
theorem zm_2_178 : (Jvm.Cond.code ({ cls := "FlexibleBoxes$Layout", name := "heightInLine", desc := "(LFlexibleBoxes$Box;I)I" } : Jvm.MethodName) prog_4_method_16_code (3 : Nat) (Option.some Jvm.ClassFile.FieldType.int)) ∈ zU := zin2 (List.mem_of_getElem? (i := 178) rfl) rfl
theorem zm_2_179 : (Jvm.Cond.methodLink "FlexibleBoxes" (162 : Nat) ({ cls := "FlexibleBoxes$Layout", name := "topmostAt", desc := "(II)I" } : Jvm.MethodName)) ∈ zU := zin2 (List.mem_of_getElem? (i := 179) rfl) rfl
theorem zm_2_180 : (Jvm.Cond.instanceMethod ({ cls := "FlexibleBoxes$Layout", name := "topmostAt", desc := "(II)I" } : Jvm.MethodName)) ∈ zU := zin2 (List.mem_of_getElem? (i := 180) rfl) rfl
theorem zm_2_181 : (Jvm.Cond.selects "FlexibleBoxes$Layout" ({ cls := "FlexibleBoxes$Layout", name := "topmostAt", desc := "(II)I" } : Jvm.MethodName) ({ cls := "FlexibleBoxes$Layout", name := "topmostAt", desc := "(II)I" } : Jvm.MethodName)) ∈ zU := zin2 (List.mem_of_getElem? (i := 181) rfl) rfl
theorem zm_2_182 : (Jvm.Cond.code ({ cls := "FlexibleBoxes$Layout", name := "topmostAt", desc := "(II)I" } : Jvm.MethodName) prog_4_method_21_code (6 : Nat) (Option.some Jvm.ClassFile.FieldType.int)) ∈ zU := zin2 (List.mem_of_getElem? (i := 182) rfl) rfl
theorem zm_2_183 : (Jvm.Cond.methodLink "FlexibleBoxes$Layout" (206 : Nat) ({ cls := "FlexibleBoxes$Box", name := "covers", desc := "(II)Z" } : Jvm.MethodName)) ∈ zU := zin2 (List.mem_of_getElem? (i := 183) rfl) rfl
theorem zm_2_184 : (Jvm.Cond.instanceMethod ({ cls := "FlexibleBoxes$Box", name := "covers", desc := "(II)Z" } : Jvm.MethodName)) ∈ zU := zin2 (List.mem_of_getElem? (i := 184) rfl) rfl
theorem zm_2_185 : (Jvm.Cond.selects "FlexibleBoxes$Box" ({ cls := "FlexibleBoxes$Box", name := "covers", desc := "(II)Z" } : Jvm.MethodName) ({ cls := "FlexibleBoxes$Box", name := "covers", desc := "(II)Z" } : Jvm.MethodName)) ∈ zU := zin2 (List.mem_of_getElem? (i := 185) rfl) rfl
theorem zm_2_186 : (Jvm.Cond.code ({ cls := "FlexibleBoxes$Box", name := "covers", desc := "(II)Z" } : Jvm.MethodName) prog_2_method_19_code (3 : Nat) (Option.some Jvm.ClassFile.FieldType.boolean)) ∈ zU := zin2 (List.mem_of_getElem? (i := 186) rfl) rfl
theorem zm_2_187 : (Jvm.Cond.methodLink "FlexibleBoxes$Layout" (213 : Nat) ({ cls := "FlexibleBoxes$Layout", name := "paintedAfter", desc := "(LFlexibleBoxes$Box;)LFlexibleBoxes$Box;" } : Jvm.MethodName)) ∈ zU := zin2 (List.mem_of_getElem? (i := 187) rfl) rfl
theorem zm_2_188 : (Jvm.Cond.static ({ cls := "FlexibleBoxes$Layout", name := "paintedAfter", desc := "(LFlexibleBoxes$Box;)LFlexibleBoxes$Box;" } : Jvm.MethodName)) ∈ zU := zin2 (List.mem_of_getElem? (i := 188) rfl) rfl
theorem zm_2_189 : (Jvm.Cond.code ({ cls := "FlexibleBoxes$Layout", name := "paintedAfter", desc := "(LFlexibleBoxes$Box;)LFlexibleBoxes$Box;" } : Jvm.MethodName) prog_4_method_22_code (2 : Nat) (Option.some (Jvm.ClassFile.FieldType.object "FlexibleBoxes$Box"))) ∈ zU := zin2 (List.mem_of_getElem? (i := 189) rfl) rfl
theorem zm_2_190 : (Jvm.Cond.methodLink "FlexibleBoxesLaw" (84 : Nat) ({ cls := "FlexibleBoxesLaw", name := "add", desc := "(LFlexibleBoxes;I[J)I" } : Jvm.MethodName)) ∈ zU := zin2 (List.mem_of_getElem? (i := 190) rfl) rfl
theorem zm_2_191 : (Jvm.Cond.static ({ cls := "FlexibleBoxesLaw", name := "add", desc := "(LFlexibleBoxes;I[J)I" } : Jvm.MethodName)) ∈ zU := zin2 (List.mem_of_getElem? (i := 191) rfl) rfl
theorem zm_2_192 : (Jvm.Cond.codeWith ({ cls := "FlexibleBoxesLaw", name := "add", desc := "(LFlexibleBoxes;I[J)I" } : Jvm.MethodName) method_3_code (4 : Nat) (Option.some Jvm.ClassFile.FieldType.int) [((0 : Nat), (9 : Nat), (12 : Nat), (13 : Nat)), ((0 : Nat), (9 : Nat), (15 : Nat), (15 : Nat))]) ∈ zU := zin2 (List.mem_of_getElem? (i := 192) rfl) rfl
theorem zm_2_193 : (Jvm.Cond.classLink "FlexibleBoxesLaw" (13 : Nat) "java/lang/IndexOutOfBoundsException") ∈ zU := zin2 (List.mem_of_getElem? (i := 193) rfl) rfl
theorem zm_2_194 : (Jvm.Cond.classLink "FlexibleBoxesLaw" (15 : Nat) "java/lang/IllegalStateException") ∈ zU := zin2 (List.mem_of_getElem? (i := 194) rfl) rfl
theorem zm_2_195 : (Jvm.Cond.methodLink "FlexibleBoxesLaw" (7 : Nat) ({ cls := "FlexibleBoxes", name := "add", desc := "(I)I" } : Jvm.MethodName)) ∈ zU := zin2 (List.mem_of_getElem? (i := 195) rfl) rfl
theorem zm_2_196 : (Jvm.Cond.instanceMethod ({ cls := "FlexibleBoxes", name := "add", desc := "(I)I" } : Jvm.MethodName)) ∈ zU := zin2 (List.mem_of_getElem? (i := 196) rfl) rfl
theorem zm_2_197 : (Jvm.Cond.selects "FlexibleBoxes" ({ cls := "FlexibleBoxes", name := "add", desc := "(I)I" } : Jvm.MethodName) ({ cls := "FlexibleBoxes", name := "add", desc := "(I)I" } : Jvm.MethodName)) ∈ zU := zin2 (List.mem_of_getElem? (i := 197) rfl) rfl
theorem zm_2_198 : (Jvm.Cond.code ({ cls := "FlexibleBoxes", name := "add", desc := "(I)I" } : Jvm.MethodName) prog_1_method_2_code (3 : Nat) (Option.some Jvm.ClassFile.FieldType.int)) ∈ zU := zin2 (List.mem_of_getElem? (i := 198) rfl) rfl
theorem zm_2_199 : (Jvm.Cond.methodLink "FlexibleBoxes" (31 : Nat) ({ cls := "FlexibleBoxes", name := "existing", desc := "(I)LFlexibleBoxes$Box;" } : Jvm.MethodName)) ∈ zU := zin2 (List.mem_of_getElem? (i := 199) rfl) rfl
theorem zm_2_201 : (Jvm.Cond.instanceMethod ({ cls := "FlexibleBoxes", name := "existing", desc := "(I)LFlexibleBoxes$Box;" } : Jvm.MethodName)) ∈ zU := zin2 (List.mem_of_getElem? (i := 201) rfl) rfl
theorem zm_2_202 : (Jvm.Cond.code ({ cls := "FlexibleBoxes", name := "existing", desc := "(I)LFlexibleBoxes$Box;" } : Jvm.MethodName) prog_1_method_24_code (3 : Nat) (Option.some (Jvm.ClassFile.FieldType.object "FlexibleBoxes$Box"))) ∈ zU := zin2 (List.mem_of_getElem? (i := 202) rfl) rfl
theorem zm_2_203 : (Jvm.Cond.methodLink "FlexibleBoxes" (183 : Nat) ({ cls := "FlexibleBoxes$Tree", name := "at", desc := "(I)LFlexibleBoxes$Box;" } : Jvm.MethodName)) ∈ zU := zin2 (List.mem_of_getElem? (i := 203) rfl) rfl
theorem zm_2_204 : (Jvm.Cond.classLink "FlexibleBoxes" (189 : Nat) "java/lang/IndexOutOfBoundsException") ∈ zU := zin2 (List.mem_of_getElem? (i := 204) rfl) rfl
theorem zm_2_205 : (Jvm.Cond.instantiable "java/lang/IndexOutOfBoundsException" (6 : Nat)) ∈ zU := zin2 (List.mem_of_getElem? (i := 205) rfl) rfl
theorem zm_2_213 : (Jvm.Cond.selects "java/lang/IndexOutOfBoundsException" ({ cls := "java/lang/Throwable", name := "fillInStackTrace", desc := "(I)Ljava/lang/Throwable;" } : Jvm.MethodName) ({ cls := "java/lang/Throwable", name := "fillInStackTrace", desc := "(I)Ljava/lang/Throwable;" } : Jvm.MethodName)) ∈ zU := zin2 (List.mem_of_getElem? (i := 213) rfl) rfl
theorem zm_2_214 : (Jvm.Cond.selects "java/lang/IndexOutOfBoundsException" ({ cls := "java/lang/Throwable", name := "fillInStackTrace", desc := "()Ljava/lang/Throwable;" } : Jvm.MethodName) ({ cls := "java/lang/Throwable", name := "fillInStackTrace", desc := "()Ljava/lang/Throwable;" } : Jvm.MethodName)) ∈ zU := zin2 (List.mem_of_getElem? (i := 214) rfl) rfl
theorem zm_2_225 : (Jvm.Cond.fieldLink "java/lang/Throwable" (198 : Nat) "java/lang/Throwable" "backtrace" "Ljava/lang/Object;") ∈ zU := zin2 (List.mem_of_getElem? (i := 225) rfl) rfl
theorem zm_2_227 : (Jvm.Cond.instanceMethod ({ cls := "java/lang/Throwable", name := "<init>", desc := "()V" } : Jvm.MethodName)) ∈ zU := zin2 (List.mem_of_getElem? (i := 227) rfl) rfl
theorem zm_2_228 : (Jvm.Cond.code ({ cls := "java/lang/Throwable", name := "<init>", desc := "()V" } : Jvm.MethodName) prog_17_method_1_code (1 : Nat) (Option.none : Option Jvm.ClassFile.FieldType)) ∈ zU := zin2 (List.mem_of_getElem? (i := 228) rfl) rfl
theorem zm_2_229 : (Jvm.Cond.methodLink "java/lang/Throwable" (1 : Nat) ({ cls := "java/lang/Object", name := "<init>", desc := "()V" } : Jvm.MethodName)) ∈ zU := zin2 (List.mem_of_getElem? (i := 229) rfl) rfl
theorem zm_2_230 : (Jvm.Cond.fieldLink "java/lang/Throwable" (13 : Nat) "java/lang/Throwable" "UNASSIGNED_STACK" "[Ljava/lang/StackTraceElement;") ∈ zU := zin2 (List.mem_of_getElem? (i := 230) rfl) rfl
theorem zm_2_232 : (Jvm.Cond.fieldLink "java/lang/Throwable" (20 : Nat) "java/lang/Throwable" "SUPPRESSED_SENTINEL" "Ljava/util/List;") ∈ zU := zin2 (List.mem_of_getElem? (i := 232) rfl) rfl
theorem zm_2_234 : (Jvm.Cond.methodLink "java/lang/Throwable" (27 : Nat) ({ cls := "java/lang/Throwable", name := "fillInStackTrace", desc := "()Ljava/lang/Throwable;" } : Jvm.MethodName)) ∈ zU := zin2 (List.mem_of_getElem? (i := 234) rfl) rfl
theorem zm_2_235 : (Jvm.Cond.instanceMethod ({ cls := "java/lang/Throwable", name := "fillInStackTrace", desc := "()Ljava/lang/Throwable;" } : Jvm.MethodName)) ∈ zU := zin2 (List.mem_of_getElem? (i := 235) rfl) rfl
theorem zm_2_237 : (Jvm.Cond.selects "java/lang/IllegalArgumentException" ({ cls := "java/lang/Throwable", name := "fillInStackTrace", desc := "()Ljava/lang/Throwable;" } : Jvm.MethodName) ({ cls := "java/lang/Throwable", name := "fillInStackTrace", desc := "()Ljava/lang/Throwable;" } : Jvm.MethodName)) ∈ zU := zin2 (List.mem_of_getElem? (i := 237) rfl) rfl
theorem zm_2_238 : (Jvm.Cond.selects "java/lang/IllegalStateException" ({ cls := "java/lang/Throwable", name := "fillInStackTrace", desc := "()Ljava/lang/Throwable;" } : Jvm.MethodName) ({ cls := "java/lang/Throwable", name := "fillInStackTrace", desc := "()Ljava/lang/Throwable;" } : Jvm.MethodName)) ∈ zU := zin2 (List.mem_of_getElem? (i := 238) rfl) rfl
theorem zm_3_0 : (Jvm.Cond.methodLink "java/lang/Throwable" (202 : Nat) ({ cls := "java/lang/Throwable", name := "fillInStackTrace", desc := "(I)Ljava/lang/Throwable;" } : Jvm.MethodName)) ∈ zU := zin3 (List.mem_of_getElem? (i := 0) rfl) rfl
theorem zm_3_2 : (Jvm.Cond.instanceMethod ({ cls := "java/lang/Throwable", name := "fillInStackTrace", desc := "(I)Ljava/lang/Throwable;" } : Jvm.MethodName)) ∈ zU := zin3 (List.mem_of_getElem? (i := 2) rfl) rfl
theorem zm_3_3 : (Jvm.Cond.instantiable "java/lang/Throwable" (6 : Nat)) ∈ zU := zin3 (List.mem_of_getElem? (i := 3) rfl) rfl
theorem zm_3_6 : (Jvm.Cond.methodLink "FlexibleBoxes" (193 : Nat) ({ cls := "java/lang/IndexOutOfBoundsException", name := "<init>", desc := "(Ljava/lang/String;)V" } : Jvm.MethodName)) ∈ zU := zin3 (List.mem_of_getElem? (i := 6) rfl) rfl
theorem zm_3_7 : (Jvm.Cond.instanceMethod ({ cls := "java/lang/IndexOutOfBoundsException", name := "<init>", desc := "(Ljava/lang/String;)V" } : Jvm.MethodName)) ∈ zU := zin3 (List.mem_of_getElem? (i := 7) rfl) rfl
theorem zm_3_8 : (Jvm.Cond.code ({ cls := "java/lang/IndexOutOfBoundsException", name := "<init>", desc := "(Ljava/lang/String;)V" } : Jvm.MethodName) prog_12_method_2_code (2 : Nat) (Option.none : Option Jvm.ClassFile.FieldType)) ∈ zU := zin3 (List.mem_of_getElem? (i := 8) rfl) rfl
theorem zm_3_9 : (Jvm.Cond.methodLink "java/lang/IndexOutOfBoundsException" (7 : Nat) ({ cls := "java/lang/RuntimeException", name := "<init>", desc := "(Ljava/lang/String;)V" } : Jvm.MethodName)) ∈ zU := zin3 (List.mem_of_getElem? (i := 9) rfl) rfl
theorem zm_3_10 : (Jvm.Cond.instanceMethod ({ cls := "java/lang/RuntimeException", name := "<init>", desc := "(Ljava/lang/String;)V" } : Jvm.MethodName)) ∈ zU := zin3 (List.mem_of_getElem? (i := 10) rfl) rfl
theorem zm_3_11 : (Jvm.Cond.code ({ cls := "java/lang/RuntimeException", name := "<init>", desc := "(Ljava/lang/String;)V" } : Jvm.MethodName) prog_14_method_2_code (2 : Nat) (Option.none : Option Jvm.ClassFile.FieldType)) ∈ zU := zin3 (List.mem_of_getElem? (i := 11) rfl) rfl
theorem zm_3_12 : (Jvm.Cond.methodLink "java/lang/RuntimeException" (7 : Nat) ({ cls := "java/lang/Exception", name := "<init>", desc := "(Ljava/lang/String;)V" } : Jvm.MethodName)) ∈ zU := zin3 (List.mem_of_getElem? (i := 12) rfl) rfl
theorem zm_3_13 : (Jvm.Cond.instanceMethod ({ cls := "java/lang/Exception", name := "<init>", desc := "(Ljava/lang/String;)V" } : Jvm.MethodName)) ∈ zU := zin3 (List.mem_of_getElem? (i := 13) rfl) rfl
theorem zm_3_14 : (Jvm.Cond.code ({ cls := "java/lang/Exception", name := "<init>", desc := "(Ljava/lang/String;)V" } : Jvm.MethodName) prog_9_method_2_code (2 : Nat) (Option.none : Option Jvm.ClassFile.FieldType)) ∈ zU := zin3 (List.mem_of_getElem? (i := 14) rfl) rfl
theorem zm_3_15 : (Jvm.Cond.methodLink "java/lang/Exception" (7 : Nat) ({ cls := "java/lang/Throwable", name := "<init>", desc := "(Ljava/lang/String;)V" } : Jvm.MethodName)) ∈ zU := zin3 (List.mem_of_getElem? (i := 15) rfl) rfl
theorem zm_3_16 : (Jvm.Cond.instanceMethod ({ cls := "java/lang/Throwable", name := "<init>", desc := "(Ljava/lang/String;)V" } : Jvm.MethodName)) ∈ zU := zin3 (List.mem_of_getElem? (i := 16) rfl) rfl
theorem zm_3_17 : (Jvm.Cond.code ({ cls := "java/lang/Throwable", name := "<init>", desc := "(Ljava/lang/String;)V" } : Jvm.MethodName) prog_17_method_2_code (2 : Nat) (Option.none : Option Jvm.ClassFile.FieldType)) ∈ zU := zin3 (List.mem_of_getElem? (i := 17) rfl) rfl
theorem zm_3_18 : (Jvm.Cond.fieldLink "java/lang/Throwable" (198 : Nat) "java/lang/Throwable" "backtrace" "Ljava/lang/Object;") ∈ zU := zin3 (List.mem_of_getElem? (i := 18) rfl) rfl
theorem zm_3_19 : (Jvm.Cond.fieldLink "java/lang/Throwable" (31 : Nat) "java/lang/Throwable" "detailMessage" "Ljava/lang/String;") ∈ zU := zin3 (List.mem_of_getElem? (i := 19) rfl) rfl
theorem zm_3_20 : (Jvm.Cond.fieldLink "java/lang/Throwable" (7 : Nat) "java/lang/Throwable" "cause" "Ljava/lang/Throwable;") ∈ zU := zin3 (List.mem_of_getElem? (i := 20) rfl) rfl
theorem zm_3_21 : (Jvm.Cond.fieldLink "java/lang/Throwable" (17 : Nat) "java/lang/Throwable" "stackTrace" "[Ljava/lang/StackTraceElement;") ∈ zU := zin3 (List.mem_of_getElem? (i := 21) rfl) rfl
theorem zm_3_22 : (Jvm.Cond.fieldLink "java/lang/Throwable" (24 : Nat) "java/lang/Throwable" "suppressedExceptions" "Ljava/util/List;") ∈ zU := zin3 (List.mem_of_getElem? (i := 22) rfl) rfl
theorem zm_3_31 : (Jvm.Cond.arrayClass Jvm.ClassFile.FieldType.byte) ∈ zU := zin3 (List.mem_of_getElem? (i := 31) rfl) rfl
theorem zm_3_32 : (Jvm.Cond.methodLink "FlexibleBoxes" (35 : Nat) ({ cls := "FlexibleBoxes$Tree", name := "isFull", desc := "()Z" } : Jvm.MethodName)) ∈ zU := zin3 (List.mem_of_getElem? (i := 32) rfl) rfl
theorem zm_3_33 : (Jvm.Cond.instanceMethod ({ cls := "FlexibleBoxes$Tree", name := "isFull", desc := "()Z" } : Jvm.MethodName)) ∈ zU := zin3 (List.mem_of_getElem? (i := 33) rfl) rfl
theorem zm_3_34 : (Jvm.Cond.selects "FlexibleBoxes$Tree" ({ cls := "FlexibleBoxes$Tree", name := "isFull", desc := "()Z" } : Jvm.MethodName) ({ cls := "FlexibleBoxes$Tree", name := "isFull", desc := "()Z" } : Jvm.MethodName)) ∈ zU := zin3 (List.mem_of_getElem? (i := 34) rfl) rfl
theorem zm_3_35 : (Jvm.Cond.code ({ cls := "FlexibleBoxes$Tree", name := "isFull", desc := "()Z" } : Jvm.MethodName) prog_6_method_4_code (1 : Nat) (Option.some Jvm.ClassFile.FieldType.boolean)) ∈ zU := zin3 (List.mem_of_getElem? (i := 35) rfl) rfl
theorem zm_3_36 : (Jvm.Cond.classLink "FlexibleBoxes" (39 : Nat) "java/lang/IllegalStateException") ∈ zU := zin3 (List.mem_of_getElem? (i := 36) rfl) rfl
theorem zm_3_37 : (Jvm.Cond.instantiable "java/lang/IllegalStateException" (6 : Nat)) ∈ zU := zin3 (List.mem_of_getElem? (i := 37) rfl) rfl
theorem zm_3_39 : (Jvm.Cond.selects "java/lang/IllegalStateException" ({ cls := "java/lang/Throwable", name := "fillInStackTrace", desc := "(I)Ljava/lang/Throwable;" } : Jvm.MethodName) ({ cls := "java/lang/Throwable", name := "fillInStackTrace", desc := "(I)Ljava/lang/Throwable;" } : Jvm.MethodName)) ∈ zU := zin3 (List.mem_of_getElem? (i := 39) rfl) rfl
theorem zm_3_46 : (Jvm.Cond.methodLink "FlexibleBoxes" (43 : Nat) ({ cls := "java/lang/IllegalStateException", name := "<init>", desc := "(Ljava/lang/String;)V" } : Jvm.MethodName)) ∈ zU := zin3 (List.mem_of_getElem? (i := 46) rfl) rfl
theorem zm_3_47 : (Jvm.Cond.instanceMethod ({ cls := "java/lang/IllegalStateException", name := "<init>", desc := "(Ljava/lang/String;)V" } : Jvm.MethodName)) ∈ zU := zin3 (List.mem_of_getElem? (i := 47) rfl) rfl
theorem zm_3_48 : (Jvm.Cond.code ({ cls := "java/lang/IllegalStateException", name := "<init>", desc := "(Ljava/lang/String;)V" } : Jvm.MethodName) prog_11_method_2_code (2 : Nat) (Option.none : Option Jvm.ClassFile.FieldType)) ∈ zU := zin3 (List.mem_of_getElem? (i := 48) rfl) rfl
theorem zm_3_49 : (Jvm.Cond.methodLink "java/lang/IllegalStateException" (7 : Nat) ({ cls := "java/lang/RuntimeException", name := "<init>", desc := "(Ljava/lang/String;)V" } : Jvm.MethodName)) ∈ zU := zin3 (List.mem_of_getElem? (i := 49) rfl) rfl
theorem zm_3_52 : (Jvm.Cond.methodLink "FlexibleBoxes" (50 : Nat) ({ cls := "FlexibleBoxes$Tree", name := "append", desc := "(LFlexibleBoxes$Box;)I" } : Jvm.MethodName)) ∈ zU := zin3 (List.mem_of_getElem? (i := 52) rfl) rfl
theorem zm_3_53 : (Jvm.Cond.instanceMethod ({ cls := "FlexibleBoxes$Tree", name := "append", desc := "(LFlexibleBoxes$Box;)I" } : Jvm.MethodName)) ∈ zU := zin3 (List.mem_of_getElem? (i := 53) rfl) rfl
theorem zm_3_54 : (Jvm.Cond.selects "FlexibleBoxes$Tree" ({ cls := "FlexibleBoxes$Tree", name := "append", desc := "(LFlexibleBoxes$Box;)I" } : Jvm.MethodName) ({ cls := "FlexibleBoxes$Tree", name := "append", desc := "(LFlexibleBoxes$Box;)I" } : Jvm.MethodName)) ∈ zU := zin3 (List.mem_of_getElem? (i := 54) rfl) rfl
theorem zm_3_55 : (Jvm.Cond.code ({ cls := "FlexibleBoxes$Tree", name := "append", desc := "(LFlexibleBoxes$Box;)I" } : Jvm.MethodName) prog_6_method_5_code (3 : Nat) (Option.some Jvm.ClassFile.FieldType.int)) ∈ zU := zin3 (List.mem_of_getElem? (i := 55) rfl) rfl
theorem zm_3_56 : (Jvm.Cond.methodLink "FlexibleBoxesLaw" (94 : Nat) ({ cls := "FlexibleBoxesLaw", name := "remove", desc := "(LFlexibleBoxes;I[J)I" } : Jvm.MethodName)) ∈ zU := zin3 (List.mem_of_getElem? (i := 56) rfl) rfl
theorem zm_3_57 : (Jvm.Cond.static ({ cls := "FlexibleBoxesLaw", name := "remove", desc := "(LFlexibleBoxes;I[J)I" } : Jvm.MethodName)) ∈ zU := zin3 (List.mem_of_getElem? (i := 57) rfl) rfl
theorem zm_3_58 : (Jvm.Cond.codeWith ({ cls := "FlexibleBoxesLaw", name := "remove", desc := "(LFlexibleBoxes;I[J)I" } : Jvm.MethodName) method_4_code (4 : Nat) (Option.some Jvm.ClassFile.FieldType.int) [((0 : Nat), (9 : Nat), (12 : Nat), (13 : Nat)), ((0 : Nat), (9 : Nat), (15 : Nat), (20 : Nat))]) ∈ zU := zin3 (List.mem_of_getElem? (i := 58) rfl) rfl
theorem zm_3_59 : (Jvm.Cond.classLink "FlexibleBoxesLaw" (20 : Nat) "java/lang/IllegalArgumentException") ∈ zU := zin3 (List.mem_of_getElem? (i := 59) rfl) rfl
theorem zm_3_60 : (Jvm.Cond.methodLink "FlexibleBoxesLaw" (17 : Nat) ({ cls := "FlexibleBoxes", name := "remove", desc := "(I)I" } : Jvm.MethodName)) ∈ zU := zin3 (List.mem_of_getElem? (i := 60) rfl) rfl
theorem zm_3_61 : (Jvm.Cond.instanceMethod ({ cls := "FlexibleBoxes", name := "remove", desc := "(I)I" } : Jvm.MethodName)) ∈ zU := zin3 (List.mem_of_getElem? (i := 61) rfl) rfl
theorem zm_3_62 : (Jvm.Cond.selects "FlexibleBoxes" ({ cls := "FlexibleBoxes", name := "remove", desc := "(I)I" } : Jvm.MethodName) ({ cls := "FlexibleBoxes", name := "remove", desc := "(I)I" } : Jvm.MethodName)) ∈ zU := zin3 (List.mem_of_getElem? (i := 62) rfl) rfl
theorem zm_3_63 : (Jvm.Cond.code ({ cls := "FlexibleBoxes", name := "remove", desc := "(I)I" } : Jvm.MethodName) prog_1_method_3_code (3 : Nat) (Option.some Jvm.ClassFile.FieldType.int)) ∈ zU := zin3 (List.mem_of_getElem? (i := 63) rfl) rfl
theorem zm_3_64 : (Jvm.Cond.methodLink "FlexibleBoxes" (54 : Nat) ({ cls := "FlexibleBoxes$Box", name := "isRoot", desc := "()Z" } : Jvm.MethodName)) ∈ zU := zin3 (List.mem_of_getElem? (i := 64) rfl) rfl
theorem zm_3_65 : (Jvm.Cond.classLink "FlexibleBoxes" (59 : Nat) "java/lang/IllegalArgumentException") ∈ zU := zin3 (List.mem_of_getElem? (i := 65) rfl) rfl
theorem zm_3_66 : (Jvm.Cond.instantiable "java/lang/IllegalArgumentException" (6 : Nat)) ∈ zU := zin3 (List.mem_of_getElem? (i := 66) rfl) rfl
theorem zm_3_68 : (Jvm.Cond.selects "java/lang/IllegalArgumentException" ({ cls := "java/lang/Throwable", name := "fillInStackTrace", desc := "(I)Ljava/lang/Throwable;" } : Jvm.MethodName) ({ cls := "java/lang/Throwable", name := "fillInStackTrace", desc := "(I)Ljava/lang/Throwable;" } : Jvm.MethodName)) ∈ zU := zin3 (List.mem_of_getElem? (i := 68) rfl) rfl
theorem zm_3_75 : (Jvm.Cond.methodLink "FlexibleBoxes" (63 : Nat) ({ cls := "java/lang/IllegalArgumentException", name := "<init>", desc := "(Ljava/lang/String;)V" } : Jvm.MethodName)) ∈ zU := zin3 (List.mem_of_getElem? (i := 75) rfl) rfl
theorem zm_3_76 : (Jvm.Cond.instanceMethod ({ cls := "java/lang/IllegalArgumentException", name := "<init>", desc := "(Ljava/lang/String;)V" } : Jvm.MethodName)) ∈ zU := zin3 (List.mem_of_getElem? (i := 76) rfl) rfl
theorem zm_3_77 : (Jvm.Cond.code ({ cls := "java/lang/IllegalArgumentException", name := "<init>", desc := "(Ljava/lang/String;)V" } : Jvm.MethodName) prog_10_method_2_code (2 : Nat) (Option.none : Option Jvm.ClassFile.FieldType)) ∈ zU := zin3 (List.mem_of_getElem? (i := 77) rfl) rfl
theorem zm_3_78 : (Jvm.Cond.methodLink "java/lang/IllegalArgumentException" (7 : Nat) ({ cls := "java/lang/RuntimeException", name := "<init>", desc := "(Ljava/lang/String;)V" } : Jvm.MethodName)) ∈ zU := zin3 (List.mem_of_getElem? (i := 78) rfl) rfl
theorem zm_3_81 : (Jvm.Cond.methodLink "FlexibleBoxes" (64 : Nat) ({ cls := "FlexibleBoxes$Tree", name := "cut", desc := "(LFlexibleBoxes$Box;)I" } : Jvm.MethodName)) ∈ zU := zin3 (List.mem_of_getElem? (i := 81) rfl) rfl
theorem zm_3_82 : (Jvm.Cond.instanceMethod ({ cls := "FlexibleBoxes$Tree", name := "cut", desc := "(LFlexibleBoxes$Box;)I" } : Jvm.MethodName)) ∈ zU := zin3 (List.mem_of_getElem? (i := 82) rfl) rfl
theorem zm_3_83 : (Jvm.Cond.selects "FlexibleBoxes$Tree" ({ cls := "FlexibleBoxes$Tree", name := "cut", desc := "(LFlexibleBoxes$Box;)I" } : Jvm.MethodName) ({ cls := "FlexibleBoxes$Tree", name := "cut", desc := "(LFlexibleBoxes$Box;)I" } : Jvm.MethodName)) ∈ zU := zin3 (List.mem_of_getElem? (i := 83) rfl) rfl
theorem zm_3_84 : (Jvm.Cond.code ({ cls := "FlexibleBoxes$Tree", name := "cut", desc := "(LFlexibleBoxes$Box;)I" } : Jvm.MethodName) prog_6_method_6_code (5 : Nat) (Option.some Jvm.ClassFile.FieldType.int)) ∈ zU := zin3 (List.mem_of_getElem? (i := 84) rfl) rfl
theorem zm_3_85 : (Jvm.Cond.methodLink "FlexibleBoxesLaw" (101 : Nat) ({ cls := "FlexibleBoxesLaw", name := "parent", desc := "(LFlexibleBoxes;I[J)I" } : Jvm.MethodName)) ∈ zU := zin3 (List.mem_of_getElem? (i := 85) rfl) rfl
theorem zm_3_86 : (Jvm.Cond.static ({ cls := "FlexibleBoxesLaw", name := "parent", desc := "(LFlexibleBoxes;I[J)I" } : Jvm.MethodName)) ∈ zU := zin3 (List.mem_of_getElem? (i := 86) rfl) rfl
theorem zm_3_87 : (Jvm.Cond.codeWith ({ cls := "FlexibleBoxesLaw", name := "parent", desc := "(LFlexibleBoxes;I[J)I" } : Jvm.MethodName) method_5_code (4 : Nat) (Option.some Jvm.ClassFile.FieldType.int) [((0 : Nat), (9 : Nat), (12 : Nat), (13 : Nat))]) ∈ zU := zin3 (List.mem_of_getElem? (i := 87) rfl) rfl
theorem zm_3_88 : (Jvm.Cond.methodLink "FlexibleBoxesLaw" (22 : Nat) ({ cls := "FlexibleBoxes", name := "parent", desc := "(I)I" } : Jvm.MethodName)) ∈ zU := zin3 (List.mem_of_getElem? (i := 88) rfl) rfl
theorem zm_3_89 : (Jvm.Cond.instanceMethod ({ cls := "FlexibleBoxes", name := "parent", desc := "(I)I" } : Jvm.MethodName)) ∈ zU := zin3 (List.mem_of_getElem? (i := 89) rfl) rfl
theorem zm_3_90 : (Jvm.Cond.selects "FlexibleBoxes" ({ cls := "FlexibleBoxes", name := "parent", desc := "(I)I" } : Jvm.MethodName) ({ cls := "FlexibleBoxes", name := "parent", desc := "(I)I" } : Jvm.MethodName)) ∈ zU := zin3 (List.mem_of_getElem? (i := 90) rfl) rfl
theorem zm_3_91 : (Jvm.Cond.code ({ cls := "FlexibleBoxes", name := "parent", desc := "(I)I" } : Jvm.MethodName) prog_1_method_5_code (2 : Nat) (Option.some Jvm.ClassFile.FieldType.int)) ∈ zU := zin3 (List.mem_of_getElem? (i := 91) rfl) rfl
theorem zm_3_92 : (Jvm.Cond.methodLink "FlexibleBoxes" (71 : Nat) ({ cls := "FlexibleBoxes$Box", name := "parentNumber", desc := "()I" } : Jvm.MethodName)) ∈ zU := zin3 (List.mem_of_getElem? (i := 92) rfl) rfl
theorem zm_3_93 : (Jvm.Cond.instanceMethod ({ cls := "FlexibleBoxes$Box", name := "parentNumber", desc := "()I" } : Jvm.MethodName)) ∈ zU := zin3 (List.mem_of_getElem? (i := 93) rfl) rfl
theorem zm_3_94 : (Jvm.Cond.selects "FlexibleBoxes$Box" ({ cls := "FlexibleBoxes$Box", name := "parentNumber", desc := "()I" } : Jvm.MethodName) ({ cls := "FlexibleBoxes$Box", name := "parentNumber", desc := "()I" } : Jvm.MethodName)) ∈ zU := zin3 (List.mem_of_getElem? (i := 94) rfl) rfl
theorem zm_3_95 : (Jvm.Cond.code ({ cls := "FlexibleBoxes$Box", name := "parentNumber", desc := "()I" } : Jvm.MethodName) prog_2_method_6_code (1 : Nat) (Option.some Jvm.ClassFile.FieldType.int)) ∈ zU := zin3 (List.mem_of_getElem? (i := 95) rfl) rfl
theorem zm_3_96 : (Jvm.Cond.methodLink "FlexibleBoxesLaw" (104 : Nat) ({ cls := "FlexibleBoxesLaw", name := "child", desc := "(LFlexibleBoxes;II[J)I" } : Jvm.MethodName)) ∈ zU := zin3 (List.mem_of_getElem? (i := 96) rfl) rfl
theorem zm_3_97 : (Jvm.Cond.static ({ cls := "FlexibleBoxesLaw", name := "child", desc := "(LFlexibleBoxes;II[J)I" } : Jvm.MethodName)) ∈ zU := zin3 (List.mem_of_getElem? (i := 97) rfl) rfl
theorem zm_3_98 : (Jvm.Cond.codeWith ({ cls := "FlexibleBoxesLaw", name := "child", desc := "(LFlexibleBoxes;II[J)I" } : Jvm.MethodName) method_6_code (5 : Nat) (Option.some Jvm.ClassFile.FieldType.int) [((0 : Nat), (10 : Nat), (13 : Nat), (13 : Nat))]) ∈ zU := zin3 (List.mem_of_getElem? (i := 98) rfl) rfl
theorem zm_3_99 : (Jvm.Cond.methodLink "FlexibleBoxesLaw" (25 : Nat) ({ cls := "FlexibleBoxes", name := "child", desc := "(II)I" } : Jvm.MethodName)) ∈ zU := zin3 (List.mem_of_getElem? (i := 99) rfl) rfl
theorem zm_3_100 : (Jvm.Cond.instanceMethod ({ cls := "FlexibleBoxes", name := "child", desc := "(II)I" } : Jvm.MethodName)) ∈ zU := zin3 (List.mem_of_getElem? (i := 100) rfl) rfl
theorem zm_3_101 : (Jvm.Cond.selects "FlexibleBoxes" ({ cls := "FlexibleBoxes", name := "child", desc := "(II)I" } : Jvm.MethodName) ({ cls := "FlexibleBoxes", name := "child", desc := "(II)I" } : Jvm.MethodName)) ∈ zU := zin3 (List.mem_of_getElem? (i := 101) rfl) rfl
theorem zm_3_102 : (Jvm.Cond.code ({ cls := "FlexibleBoxes", name := "child", desc := "(II)I" } : Jvm.MethodName) prog_1_method_6_code (6 : Nat) (Option.some Jvm.ClassFile.FieldType.int)) ∈ zU := zin3 (List.mem_of_getElem? (i := 102) rfl) rfl
theorem zm_3_103 : (Jvm.Cond.methodLink "FlexibleBoxesLaw" (108 : Nat) ({ cls := "FlexibleBoxesLaw", name := "set", desc := "(LFlexibleBoxes;III[J)I" } : Jvm.MethodName)) ∈ zU := zin3 (List.mem_of_getElem? (i := 103) rfl) rfl
theorem zm_3_104 : (Jvm.Cond.static ({ cls := "FlexibleBoxesLaw", name := "set", desc := "(LFlexibleBoxes;III[J)I" } : Jvm.MethodName)) ∈ zU := zin3 (List.mem_of_getElem? (i := 104) rfl) rfl
theorem zm_3_105 : (Jvm.Cond.codeWith ({ cls := "FlexibleBoxesLaw", name := "set", desc := "(LFlexibleBoxes;III[J)I" } : Jvm.MethodName) method_7_code (6 : Nat) (Option.some Jvm.ClassFile.FieldType.int) [((0 : Nat), (12 : Nat), (15 : Nat), (13 : Nat)), ((0 : Nat), (12 : Nat), (19 : Nat), (20 : Nat))]) ∈ zU := zin3 (List.mem_of_getElem? (i := 105) rfl) rfl
theorem zm_3_106 : (Jvm.Cond.methodLink "FlexibleBoxesLaw" (29 : Nat) ({ cls := "FlexibleBoxes", name := "set", desc := "(III)I" } : Jvm.MethodName)) ∈ zU := zin3 (List.mem_of_getElem? (i := 106) rfl) rfl
theorem zm_3_107 : (Jvm.Cond.instanceMethod ({ cls := "FlexibleBoxes", name := "set", desc := "(III)I" } : Jvm.MethodName)) ∈ zU := zin3 (List.mem_of_getElem? (i := 107) rfl) rfl
theorem zm_3_108 : (Jvm.Cond.selects "FlexibleBoxes" ({ cls := "FlexibleBoxes", name := "set", desc := "(III)I" } : Jvm.MethodName) ({ cls := "FlexibleBoxes", name := "set", desc := "(III)I" } : Jvm.MethodName)) ∈ zU := zin3 (List.mem_of_getElem? (i := 108) rfl) rfl
theorem zm_3_109 : (Jvm.Cond.code ({ cls := "FlexibleBoxes", name := "set", desc := "(III)I" } : Jvm.MethodName) prog_1_method_7_code (5 : Nat) (Option.some Jvm.ClassFile.FieldType.int)) ∈ zU := zin3 (List.mem_of_getElem? (i := 109) rfl) rfl
theorem zm_3_110 : (Jvm.Cond.methodLink "FlexibleBoxes" (91 : Nat) ({ cls := "FlexibleBoxes", name := "isProperty", desc := "(I)Z" } : Jvm.MethodName)) ∈ zU := zin3 (List.mem_of_getElem? (i := 110) rfl) rfl
theorem zm_3_111 : (Jvm.Cond.static ({ cls := "FlexibleBoxes", name := "isProperty", desc := "(I)Z" } : Jvm.MethodName)) ∈ zU := zin3 (List.mem_of_getElem? (i := 111) rfl) rfl
theorem zm_3_112 : (Jvm.Cond.code ({ cls := "FlexibleBoxes", name := "isProperty", desc := "(I)Z" } : Jvm.MethodName) prog_1_method_26_code (1 : Nat) (Option.some Jvm.ClassFile.FieldType.boolean)) ∈ zU := zin3 (List.mem_of_getElem? (i := 112) rfl) rfl
theorem zm_3_114 : (Jvm.Cond.fieldLink "FlexibleBoxes" (97 : Nat) "FlexibleBoxes" "LEAST" "[I") ∈ zU := zin3 (List.mem_of_getElem? (i := 114) rfl) rfl
theorem zm_3_116 : (Jvm.Cond.fieldLink "FlexibleBoxes" (101 : Nat) "FlexibleBoxes" "GREATEST" "[I") ∈ zU := zin3 (List.mem_of_getElem? (i := 116) rfl) rfl
theorem zm_3_119 : (Jvm.Cond.methodLink "FlexibleBoxes" (106 : Nat) ({ cls := "FlexibleBoxes$Box", name := "change", desc := "(II)I" } : Jvm.MethodName)) ∈ zU := zin3 (List.mem_of_getElem? (i := 119) rfl) rfl
theorem zm_3_120 : (Jvm.Cond.instanceMethod ({ cls := "FlexibleBoxes$Box", name := "change", desc := "(II)I" } : Jvm.MethodName)) ∈ zU := zin3 (List.mem_of_getElem? (i := 120) rfl) rfl
theorem zm_3_121 : (Jvm.Cond.selects "FlexibleBoxes$Box" ({ cls := "FlexibleBoxes$Box", name := "change", desc := "(II)I" } : Jvm.MethodName) ({ cls := "FlexibleBoxes$Box", name := "change", desc := "(II)I" } : Jvm.MethodName)) ∈ zU := zin3 (List.mem_of_getElem? (i := 121) rfl) rfl
theorem zm_3_122 : (Jvm.Cond.code ({ cls := "FlexibleBoxes$Box", name := "change", desc := "(II)I" } : Jvm.MethodName) prog_2_method_4_code (4 : Nat) (Option.some Jvm.ClassFile.FieldType.int)) ∈ zU := zin3 (List.mem_of_getElem? (i := 122) rfl) rfl
theorem zm_3_124 : (Jvm.Cond.methodLink "FlexibleBoxesLaw" (112 : Nat) ({ cls := "FlexibleBoxesLaw", name := "get", desc := "(LFlexibleBoxes;II[J)I" } : Jvm.MethodName)) ∈ zU := zin3 (List.mem_of_getElem? (i := 124) rfl) rfl
theorem zm_3_125 : (Jvm.Cond.static ({ cls := "FlexibleBoxesLaw", name := "get", desc := "(LFlexibleBoxes;II[J)I" } : Jvm.MethodName)) ∈ zU := zin3 (List.mem_of_getElem? (i := 125) rfl) rfl
theorem zm_3_126 : (Jvm.Cond.codeWith ({ cls := "FlexibleBoxesLaw", name := "get", desc := "(LFlexibleBoxes;II[J)I" } : Jvm.MethodName) method_8_code (5 : Nat) (Option.some Jvm.ClassFile.FieldType.int) [((0 : Nat), (10 : Nat), (13 : Nat), (13 : Nat)), ((0 : Nat), (10 : Nat), (17 : Nat), (20 : Nat))]) ∈ zU := zin3 (List.mem_of_getElem? (i := 126) rfl) rfl
theorem zm_3_127 : (Jvm.Cond.methodLink "FlexibleBoxesLaw" (33 : Nat) ({ cls := "FlexibleBoxes", name := "get", desc := "(II)I" } : Jvm.MethodName)) ∈ zU := zin3 (List.mem_of_getElem? (i := 127) rfl) rfl
theorem zm_3_128 : (Jvm.Cond.instanceMethod ({ cls := "FlexibleBoxes", name := "get", desc := "(II)I" } : Jvm.MethodName)) ∈ zU := zin3 (List.mem_of_getElem? (i := 128) rfl) rfl
theorem zm_3_129 : (Jvm.Cond.selects "FlexibleBoxes" ({ cls := "FlexibleBoxes", name := "get", desc := "(II)I" } : Jvm.MethodName) ({ cls := "FlexibleBoxes", name := "get", desc := "(II)I" } : Jvm.MethodName)) ∈ zU := zin3 (List.mem_of_getElem? (i := 129) rfl) rfl
theorem zm_3_130 : (Jvm.Cond.code ({ cls := "FlexibleBoxes", name := "get", desc := "(II)I" } : Jvm.MethodName) prog_1_method_8_code (4 : Nat) (Option.some Jvm.ClassFile.FieldType.int)) ∈ zU := zin3 (List.mem_of_getElem? (i := 130) rfl) rfl
theorem zm_3_131 : (Jvm.Cond.methodLink "FlexibleBoxes" (110 : Nat) ({ cls := "FlexibleBoxes$Box", name := "of", desc := "(I)I" } : Jvm.MethodName)) ∈ zU := zin3 (List.mem_of_getElem? (i := 131) rfl) rfl
theorem zm_3_132 : (Jvm.Cond.methodLink "FlexibleBoxesLaw" (115 : Nat) ({ cls := "FlexibleBoxesLaw", name := "copyStyle", desc := "(LFlexibleBoxes;II[J)I" } : Jvm.MethodName)) ∈ zU := zin3 (List.mem_of_getElem? (i := 132) rfl) rfl
theorem zm_3_133 : (Jvm.Cond.static ({ cls := "FlexibleBoxesLaw", name := "copyStyle", desc := "(LFlexibleBoxes;II[J)I" } : Jvm.MethodName)) ∈ zU := zin3 (List.mem_of_getElem? (i := 133) rfl) rfl
theorem zm_3_134 : (Jvm.Cond.codeWith ({ cls := "FlexibleBoxesLaw", name := "copyStyle", desc := "(LFlexibleBoxes;II[J)I" } : Jvm.MethodName) method_9_code (5 : Nat) (Option.some Jvm.ClassFile.FieldType.int) [((0 : Nat), (10 : Nat), (13 : Nat), (13 : Nat))]) ∈ zU := zin3 (List.mem_of_getElem? (i := 134) rfl) rfl
theorem zm_3_135 : (Jvm.Cond.methodLink "FlexibleBoxesLaw" (36 : Nat) ({ cls := "FlexibleBoxes", name := "copyStyle", desc := "(II)I" } : Jvm.MethodName)) ∈ zU := zin3 (List.mem_of_getElem? (i := 135) rfl) rfl
theorem zm_3_136 : (Jvm.Cond.instanceMethod ({ cls := "FlexibleBoxes", name := "copyStyle", desc := "(II)I" } : Jvm.MethodName)) ∈ zU := zin3 (List.mem_of_getElem? (i := 136) rfl) rfl
theorem zm_3_137 : (Jvm.Cond.selects "FlexibleBoxes" ({ cls := "FlexibleBoxes", name := "copyStyle", desc := "(II)I" } : Jvm.MethodName) ({ cls := "FlexibleBoxes", name := "copyStyle", desc := "(II)I" } : Jvm.MethodName)) ∈ zU := zin3 (List.mem_of_getElem? (i := 137) rfl) rfl
theorem zm_3_138 : (Jvm.Cond.code ({ cls := "FlexibleBoxes", name := "copyStyle", desc := "(II)I" } : Jvm.MethodName) prog_1_method_9_code (8 : Nat) (Option.some Jvm.ClassFile.FieldType.int)) ∈ zU := zin3 (List.mem_of_getElem? (i := 138) rfl) rfl
theorem zm_3_139 : (Jvm.Cond.methodLink "FlexibleBoxesLaw" (118 : Nat) ({ cls := "FlexibleBoxesLaw", name := "viewport", desc := "(LFlexibleBoxes;II)I" } : Jvm.MethodName)) ∈ zU := zin3 (List.mem_of_getElem? (i := 139) rfl) rfl
theorem zm_3_140 : (Jvm.Cond.static ({ cls := "FlexibleBoxesLaw", name := "viewport", desc := "(LFlexibleBoxes;II)I" } : Jvm.MethodName)) ∈ zU := zin3 (List.mem_of_getElem? (i := 140) rfl) rfl
theorem zm_3_141 : (Jvm.Cond.codeWith ({ cls := "FlexibleBoxesLaw", name := "viewport", desc := "(LFlexibleBoxes;II)I" } : Jvm.MethodName) method_10_code (4 : Nat) (Option.some Jvm.ClassFile.FieldType.int) [((0 : Nat), (6 : Nat), (9 : Nat), (20 : Nat))]) ∈ zU := zin3 (List.mem_of_getElem? (i := 141) rfl) rfl
theorem zm_3_142 : (Jvm.Cond.methodLink "FlexibleBoxesLaw" (39 : Nat) ({ cls := "FlexibleBoxes", name := "viewport", desc := "(II)V" } : Jvm.MethodName)) ∈ zU := zin3 (List.mem_of_getElem? (i := 142) rfl) rfl
theorem zm_3_143 : (Jvm.Cond.instanceMethod ({ cls := "FlexibleBoxes", name := "viewport", desc := "(II)V" } : Jvm.MethodName)) ∈ zU := zin3 (List.mem_of_getElem? (i := 143) rfl) rfl
theorem zm_3_144 : (Jvm.Cond.selects "FlexibleBoxes" ({ cls := "FlexibleBoxes", name := "viewport", desc := "(II)V" } : Jvm.MethodName) ({ cls := "FlexibleBoxes", name := "viewport", desc := "(II)V" } : Jvm.MethodName)) ∈ zU := zin3 (List.mem_of_getElem? (i := 144) rfl) rfl
theorem zm_3_145 : (Jvm.Cond.code ({ cls := "FlexibleBoxes", name := "viewport", desc := "(II)V" } : Jvm.MethodName) prog_1_method_10_code (3 : Nat) (Option.none : Option Jvm.ClassFile.FieldType)) ∈ zU := zin3 (List.mem_of_getElem? (i := 145) rfl) rfl
theorem zm_3_146 : (Jvm.Cond.methodLink "FlexibleBoxes" (114 : Nat) ({ cls := "FlexibleBoxes", name := "isViewportLength", desc := "(I)Z" } : Jvm.MethodName)) ∈ zU := zin3 (List.mem_of_getElem? (i := 146) rfl) rfl
theorem zm_3_147 : (Jvm.Cond.static ({ cls := "FlexibleBoxes", name := "isViewportLength", desc := "(I)Z" } : Jvm.MethodName)) ∈ zU := zin3 (List.mem_of_getElem? (i := 147) rfl) rfl
theorem zm_3_148 : (Jvm.Cond.code ({ cls := "FlexibleBoxes", name := "isViewportLength", desc := "(I)Z" } : Jvm.MethodName) prog_1_method_27_code (1 : Nat) (Option.some Jvm.ClassFile.FieldType.boolean)) ∈ zU := zin3 (List.mem_of_getElem? (i := 148) rfl) rfl
theorem zm_3_150 : (Jvm.Cond.methodLink "FlexibleBoxesLaw" (122 : Nat) ({ cls := "FlexibleBoxesLaw", name := "x", desc := "(LFlexibleBoxes;I[J)I" } : Jvm.MethodName)) ∈ zU := zin3 (List.mem_of_getElem? (i := 150) rfl) rfl
theorem zm_3_151 : (Jvm.Cond.static ({ cls := "FlexibleBoxesLaw", name := "x", desc := "(LFlexibleBoxes;I[J)I" } : Jvm.MethodName)) ∈ zU := zin3 (List.mem_of_getElem? (i := 151) rfl) rfl
theorem zm_3_152 : (Jvm.Cond.codeWith ({ cls := "FlexibleBoxesLaw", name := "x", desc := "(LFlexibleBoxes;I[J)I" } : Jvm.MethodName) method_11_code (4 : Nat) (Option.some Jvm.ClassFile.FieldType.int) [((0 : Nat), (9 : Nat), (12 : Nat), (13 : Nat)), ((0 : Nat), (9 : Nat), (15 : Nat), (15 : Nat))]) ∈ zU := zin3 (List.mem_of_getElem? (i := 152) rfl) rfl
theorem zm_3_153 : (Jvm.Cond.methodLink "FlexibleBoxesLaw" (43 : Nat) ({ cls := "FlexibleBoxes", name := "x", desc := "(I)I" } : Jvm.MethodName)) ∈ zU := zin3 (List.mem_of_getElem? (i := 153) rfl) rfl
theorem zm_3_154 : (Jvm.Cond.instanceMethod ({ cls := "FlexibleBoxes", name := "x", desc := "(I)I" } : Jvm.MethodName)) ∈ zU := zin3 (List.mem_of_getElem? (i := 154) rfl) rfl
theorem zm_3_155 : (Jvm.Cond.selects "FlexibleBoxes" ({ cls := "FlexibleBoxes", name := "x", desc := "(I)I" } : Jvm.MethodName) ({ cls := "FlexibleBoxes", name := "x", desc := "(I)I" } : Jvm.MethodName)) ∈ zU := zin3 (List.mem_of_getElem? (i := 155) rfl) rfl
theorem zm_3_156 : (Jvm.Cond.code ({ cls := "FlexibleBoxes", name := "x", desc := "(I)I" } : Jvm.MethodName) prog_1_method_11_code (2 : Nat) (Option.some Jvm.ClassFile.FieldType.int)) ∈ zU := zin3 (List.mem_of_getElem? (i := 156) rfl) rfl
theorem zm_3_157 : (Jvm.Cond.methodLink "FlexibleBoxes" (125 : Nat) ({ cls := "FlexibleBoxes", name := "laidOut", desc := "(LFlexibleBoxes$Box;)LFlexibleBoxes$Box;" } : Jvm.MethodName)) ∈ zU := zin3 (List.mem_of_getElem? (i := 157) rfl) rfl
theorem zm_3_159 : (Jvm.Cond.instanceMethod ({ cls := "FlexibleBoxes", name := "laidOut", desc := "(LFlexibleBoxes$Box;)LFlexibleBoxes$Box;" } : Jvm.MethodName)) ∈ zU := zin3 (List.mem_of_getElem? (i := 159) rfl) rfl
theorem zm_3_160 : (Jvm.Cond.code ({ cls := "FlexibleBoxes", name := "laidOut", desc := "(LFlexibleBoxes$Box;)LFlexibleBoxes$Box;" } : Jvm.MethodName) prog_1_method_25_code (2 : Nat) (Option.some (Jvm.ClassFile.FieldType.object "FlexibleBoxes$Box"))) ∈ zU := zin3 (List.mem_of_getElem? (i := 160) rfl) rfl
theorem zm_3_162 : (Jvm.Cond.methodLink "FlexibleBoxesLaw" (125 : Nat) ({ cls := "FlexibleBoxesLaw", name := "y", desc := "(LFlexibleBoxes;I[J)I" } : Jvm.MethodName)) ∈ zU := zin3 (List.mem_of_getElem? (i := 162) rfl) rfl
theorem zm_3_163 : (Jvm.Cond.static ({ cls := "FlexibleBoxesLaw", name := "y", desc := "(LFlexibleBoxes;I[J)I" } : Jvm.MethodName)) ∈ zU := zin3 (List.mem_of_getElem? (i := 163) rfl) rfl
theorem zm_3_164 : (Jvm.Cond.codeWith ({ cls := "FlexibleBoxesLaw", name := "y", desc := "(LFlexibleBoxes;I[J)I" } : Jvm.MethodName) method_12_code (4 : Nat) (Option.some Jvm.ClassFile.FieldType.int) [((0 : Nat), (9 : Nat), (12 : Nat), (13 : Nat)), ((0 : Nat), (9 : Nat), (15 : Nat), (15 : Nat))]) ∈ zU := zin3 (List.mem_of_getElem? (i := 164) rfl) rfl
theorem zm_3_165 : (Jvm.Cond.methodLink "FlexibleBoxesLaw" (46 : Nat) ({ cls := "FlexibleBoxes", name := "y", desc := "(I)I" } : Jvm.MethodName)) ∈ zU := zin3 (List.mem_of_getElem? (i := 165) rfl) rfl
theorem zm_3_166 : (Jvm.Cond.instanceMethod ({ cls := "FlexibleBoxes", name := "y", desc := "(I)I" } : Jvm.MethodName)) ∈ zU := zin3 (List.mem_of_getElem? (i := 166) rfl) rfl
theorem zm_3_167 : (Jvm.Cond.selects "FlexibleBoxes" ({ cls := "FlexibleBoxes", name := "y", desc := "(I)I" } : Jvm.MethodName) ({ cls := "FlexibleBoxes", name := "y", desc := "(I)I" } : Jvm.MethodName)) ∈ zU := zin3 (List.mem_of_getElem? (i := 167) rfl) rfl
theorem zm_3_168 : (Jvm.Cond.code ({ cls := "FlexibleBoxes", name := "y", desc := "(I)I" } : Jvm.MethodName) prog_1_method_12_code (2 : Nat) (Option.some Jvm.ClassFile.FieldType.int)) ∈ zU := zin3 (List.mem_of_getElem? (i := 168) rfl) rfl
theorem zm_3_169 : (Jvm.Cond.methodLink "FlexibleBoxesLaw" (128 : Nat) ({ cls := "FlexibleBoxesLaw", name := "width", desc := "(LFlexibleBoxes;I[J)I" } : Jvm.MethodName)) ∈ zU := zin3 (List.mem_of_getElem? (i := 169) rfl) rfl
theorem zm_3_170 : (Jvm.Cond.static ({ cls := "FlexibleBoxesLaw", name := "width", desc := "(LFlexibleBoxes;I[J)I" } : Jvm.MethodName)) ∈ zU := zin3 (List.mem_of_getElem? (i := 170) rfl) rfl
theorem zm_3_171 : (Jvm.Cond.codeWith ({ cls := "FlexibleBoxesLaw", name := "width", desc := "(LFlexibleBoxes;I[J)I" } : Jvm.MethodName) method_13_code (4 : Nat) (Option.some Jvm.ClassFile.FieldType.int) [((0 : Nat), (9 : Nat), (12 : Nat), (13 : Nat)), ((0 : Nat), (9 : Nat), (15 : Nat), (15 : Nat))]) ∈ zU := zin3 (List.mem_of_getElem? (i := 171) rfl) rfl
theorem zm_3_172 : (Jvm.Cond.methodLink "FlexibleBoxesLaw" (49 : Nat) ({ cls := "FlexibleBoxes", name := "width", desc := "(I)I" } : Jvm.MethodName)) ∈ zU := zin3 (List.mem_of_getElem? (i := 172) rfl) rfl
theorem zm_3_173 : (Jvm.Cond.instanceMethod ({ cls := "FlexibleBoxes", name := "width", desc := "(I)I" } : Jvm.MethodName)) ∈ zU := zin3 (List.mem_of_getElem? (i := 173) rfl) rfl
theorem zm_3_174 : (Jvm.Cond.selects "FlexibleBoxes" ({ cls := "FlexibleBoxes", name := "width", desc := "(I)I" } : Jvm.MethodName) ({ cls := "FlexibleBoxes", name := "width", desc := "(I)I" } : Jvm.MethodName)) ∈ zU := zin3 (List.mem_of_getElem? (i := 174) rfl) rfl
theorem zm_3_175 : (Jvm.Cond.code ({ cls := "FlexibleBoxes", name := "width", desc := "(I)I" } : Jvm.MethodName) prog_1_method_13_code (2 : Nat) (Option.some Jvm.ClassFile.FieldType.int)) ∈ zU := zin3 (List.mem_of_getElem? (i := 175) rfl) rfl
theorem zm_3_176 : (Jvm.Cond.methodLink "FlexibleBoxesLaw" (131 : Nat) ({ cls := "FlexibleBoxesLaw", name := "height", desc := "(LFlexibleBoxes;I[J)I" } : Jvm.MethodName)) ∈ zU := zin3 (List.mem_of_getElem? (i := 176) rfl) rfl
theorem zm_3_177 : (Jvm.Cond.static ({ cls := "FlexibleBoxesLaw", name := "height", desc := "(LFlexibleBoxes;I[J)I" } : Jvm.MethodName)) ∈ zU := zin3 (List.mem_of_getElem? (i := 177) rfl) rfl
theorem zm_3_178 : (Jvm.Cond.codeWith ({ cls := "FlexibleBoxesLaw", name := "height", desc := "(LFlexibleBoxes;I[J)I" } : Jvm.MethodName) method_14_code (4 : Nat) (Option.some Jvm.ClassFile.FieldType.int) [((0 : Nat), (9 : Nat), (12 : Nat), (13 : Nat)), ((0 : Nat), (9 : Nat), (15 : Nat), (15 : Nat))]) ∈ zU := zin3 (List.mem_of_getElem? (i := 178) rfl) rfl
theorem zm_3_179 : (Jvm.Cond.methodLink "FlexibleBoxesLaw" (52 : Nat) ({ cls := "FlexibleBoxes", name := "height", desc := "(I)I" } : Jvm.MethodName)) ∈ zU := zin3 (List.mem_of_getElem? (i := 179) rfl) rfl
theorem zm_3_180 : (Jvm.Cond.instanceMethod ({ cls := "FlexibleBoxes", name := "height", desc := "(I)I" } : Jvm.MethodName)) ∈ zU := zin3 (List.mem_of_getElem? (i := 180) rfl) rfl
theorem zm_3_181 : (Jvm.Cond.selects "FlexibleBoxes" ({ cls := "FlexibleBoxes", name := "height", desc := "(I)I" } : Jvm.MethodName) ({ cls := "FlexibleBoxes", name := "height", desc := "(I)I" } : Jvm.MethodName)) ∈ zU := zin3 (List.mem_of_getElem? (i := 181) rfl) rfl
theorem zm_3_182 : (Jvm.Cond.code ({ cls := "FlexibleBoxes", name := "height", desc := "(I)I" } : Jvm.MethodName) prog_1_method_14_code (2 : Nat) (Option.some Jvm.ClassFile.FieldType.int)) ∈ zU := zin3 (List.mem_of_getElem? (i := 182) rfl) rfl
theorem zm_3_183 : (Jvm.Cond.methodLink "FlexibleBoxesLaw" (134 : Nat) ({ cls := "FlexibleBoxesLaw", name := "naturalWidth", desc := "(LFlexibleBoxes;I[J)I" } : Jvm.MethodName)) ∈ zU := zin3 (List.mem_of_getElem? (i := 183) rfl) rfl
theorem zm_3_184 : (Jvm.Cond.static ({ cls := "FlexibleBoxesLaw", name := "naturalWidth", desc := "(LFlexibleBoxes;I[J)I" } : Jvm.MethodName)) ∈ zU := zin3 (List.mem_of_getElem? (i := 184) rfl) rfl
theorem zm_3_185 : (Jvm.Cond.codeWith ({ cls := "FlexibleBoxesLaw", name := "naturalWidth", desc := "(LFlexibleBoxes;I[J)I" } : Jvm.MethodName) method_15_code (4 : Nat) (Option.some Jvm.ClassFile.FieldType.int) [((0 : Nat), (9 : Nat), (12 : Nat), (13 : Nat)), ((0 : Nat), (9 : Nat), (15 : Nat), (15 : Nat))]) ∈ zU := zin3 (List.mem_of_getElem? (i := 185) rfl) rfl
theorem zm_3_186 : (Jvm.Cond.methodLink "FlexibleBoxesLaw" (55 : Nat) ({ cls := "FlexibleBoxes", name := "naturalWidth", desc := "(I)I" } : Jvm.MethodName)) ∈ zU := zin3 (List.mem_of_getElem? (i := 186) rfl) rfl
theorem zm_3_187 : (Jvm.Cond.instanceMethod ({ cls := "FlexibleBoxes", name := "naturalWidth", desc := "(I)I" } : Jvm.MethodName)) ∈ zU := zin3 (List.mem_of_getElem? (i := 187) rfl) rfl
theorem zm_3_188 : (Jvm.Cond.selects "FlexibleBoxes" ({ cls := "FlexibleBoxes", name := "naturalWidth", desc := "(I)I" } : Jvm.MethodName) ({ cls := "FlexibleBoxes", name := "naturalWidth", desc := "(I)I" } : Jvm.MethodName)) ∈ zU := zin3 (List.mem_of_getElem? (i := 188) rfl) rfl
theorem zm_3_189 : (Jvm.Cond.code ({ cls := "FlexibleBoxes", name := "naturalWidth", desc := "(I)I" } : Jvm.MethodName) prog_1_method_15_code (2 : Nat) (Option.some Jvm.ClassFile.FieldType.int)) ∈ zU := zin3 (List.mem_of_getElem? (i := 189) rfl) rfl
theorem zm_3_190 : (Jvm.Cond.methodLink "FlexibleBoxesLaw" (137 : Nat) ({ cls := "FlexibleBoxesLaw", name := "naturalHeight", desc := "(LFlexibleBoxes;I[J)I" } : Jvm.MethodName)) ∈ zU := zin3 (List.mem_of_getElem? (i := 190) rfl) rfl
theorem zm_3_191 : (Jvm.Cond.static ({ cls := "FlexibleBoxesLaw", name := "naturalHeight", desc := "(LFlexibleBoxes;I[J)I" } : Jvm.MethodName)) ∈ zU := zin3 (List.mem_of_getElem? (i := 191) rfl) rfl
theorem zm_3_192 : (Jvm.Cond.codeWith ({ cls := "FlexibleBoxesLaw", name := "naturalHeight", desc := "(LFlexibleBoxes;I[J)I" } : Jvm.MethodName) method_16_code (4 : Nat) (Option.some Jvm.ClassFile.FieldType.int) [((0 : Nat), (9 : Nat), (12 : Nat), (13 : Nat)), ((0 : Nat), (9 : Nat), (15 : Nat), (15 : Nat))]) ∈ zU := zin3 (List.mem_of_getElem? (i := 192) rfl) rfl
theorem zm_3_193 : (Jvm.Cond.methodLink "FlexibleBoxesLaw" (58 : Nat) ({ cls := "FlexibleBoxes", name := "naturalHeight", desc := "(I)I" } : Jvm.MethodName)) ∈ zU := zin3 (List.mem_of_getElem? (i := 193) rfl) rfl
theorem zm_3_194 : (Jvm.Cond.instanceMethod ({ cls := "FlexibleBoxes", name := "naturalHeight", desc := "(I)I" } : Jvm.MethodName)) ∈ zU := zin3 (List.mem_of_getElem? (i := 194) rfl) rfl
theorem zm_3_195 : (Jvm.Cond.selects "FlexibleBoxes" ({ cls := "FlexibleBoxes", name := "naturalHeight", desc := "(I)I" } : Jvm.MethodName) ({ cls := "FlexibleBoxes", name := "naturalHeight", desc := "(I)I" } : Jvm.MethodName)) ∈ zU := zin3 (List.mem_of_getElem? (i := 195) rfl) rfl
theorem zm_3_196 : (Jvm.Cond.code ({ cls := "FlexibleBoxes", name := "naturalHeight", desc := "(I)I" } : Jvm.MethodName) prog_1_method_16_code (2 : Nat) (Option.some Jvm.ClassFile.FieldType.int)) ∈ zU := zin3 (List.mem_of_getElem? (i := 196) rfl) rfl
theorem zm_3_197 : (Jvm.Cond.methodLink "FlexibleBoxesLaw" (140 : Nat) ({ cls := "FlexibleBoxesLaw", name := "lines", desc := "(LFlexibleBoxes;I[J)I" } : Jvm.MethodName)) ∈ zU := zin3 (List.mem_of_getElem? (i := 197) rfl) rfl
theorem zm_3_198 : (Jvm.Cond.static ({ cls := "FlexibleBoxesLaw", name := "lines", desc := "(LFlexibleBoxes;I[J)I" } : Jvm.MethodName)) ∈ zU := zin3 (List.mem_of_getElem? (i := 198) rfl) rfl
theorem zm_3_199 : (Jvm.Cond.codeWith ({ cls := "FlexibleBoxesLaw", name := "lines", desc := "(LFlexibleBoxes;I[J)I" } : Jvm.MethodName) method_17_code (4 : Nat) (Option.some Jvm.ClassFile.FieldType.int) [((0 : Nat), (9 : Nat), (12 : Nat), (13 : Nat)), ((0 : Nat), (9 : Nat), (15 : Nat), (15 : Nat))]) ∈ zU := zin3 (List.mem_of_getElem? (i := 199) rfl) rfl
theorem zm_3_200 : (Jvm.Cond.methodLink "FlexibleBoxesLaw" (61 : Nat) ({ cls := "FlexibleBoxes", name := "lines", desc := "(I)I" } : Jvm.MethodName)) ∈ zU := zin3 (List.mem_of_getElem? (i := 200) rfl) rfl
theorem zm_3_201 : (Jvm.Cond.instanceMethod ({ cls := "FlexibleBoxes", name := "lines", desc := "(I)I" } : Jvm.MethodName)) ∈ zU := zin3 (List.mem_of_getElem? (i := 201) rfl) rfl
theorem zm_3_202 : (Jvm.Cond.selects "FlexibleBoxes" ({ cls := "FlexibleBoxes", name := "lines", desc := "(I)I" } : Jvm.MethodName) ({ cls := "FlexibleBoxes", name := "lines", desc := "(I)I" } : Jvm.MethodName)) ∈ zU := zin3 (List.mem_of_getElem? (i := 202) rfl) rfl
theorem zm_3_203 : (Jvm.Cond.code ({ cls := "FlexibleBoxes", name := "lines", desc := "(I)I" } : Jvm.MethodName) prog_1_method_17_code (2 : Nat) (Option.some Jvm.ClassFile.FieldType.int)) ∈ zU := zin3 (List.mem_of_getElem? (i := 203) rfl) rfl
theorem zm_3_204 : (Jvm.Cond.methodLink "FlexibleBoxesLaw" (143 : Nat) ({ cls := "FlexibleBoxesLaw", name := "lineOf", desc := "(LFlexibleBoxes;I[J)I" } : Jvm.MethodName)) ∈ zU := zin3 (List.mem_of_getElem? (i := 204) rfl) rfl
theorem zm_3_205 : (Jvm.Cond.static ({ cls := "FlexibleBoxesLaw", name := "lineOf", desc := "(LFlexibleBoxes;I[J)I" } : Jvm.MethodName)) ∈ zU := zin3 (List.mem_of_getElem? (i := 205) rfl) rfl
theorem zm_3_206 : (Jvm.Cond.codeWith ({ cls := "FlexibleBoxesLaw", name := "lineOf", desc := "(LFlexibleBoxes;I[J)I" } : Jvm.MethodName) method_18_code (4 : Nat) (Option.some Jvm.ClassFile.FieldType.int) [((0 : Nat), (9 : Nat), (12 : Nat), (13 : Nat)), ((0 : Nat), (9 : Nat), (15 : Nat), (15 : Nat))]) ∈ zU := zin3 (List.mem_of_getElem? (i := 206) rfl) rfl
theorem zm_3_207 : (Jvm.Cond.methodLink "FlexibleBoxesLaw" (64 : Nat) ({ cls := "FlexibleBoxes", name := "lineOf", desc := "(I)I" } : Jvm.MethodName)) ∈ zU := zin3 (List.mem_of_getElem? (i := 207) rfl) rfl
theorem zm_3_208 : (Jvm.Cond.instanceMethod ({ cls := "FlexibleBoxes", name := "lineOf", desc := "(I)I" } : Jvm.MethodName)) ∈ zU := zin3 (List.mem_of_getElem? (i := 208) rfl) rfl
theorem zm_3_209 : (Jvm.Cond.selects "FlexibleBoxes" ({ cls := "FlexibleBoxes", name := "lineOf", desc := "(I)I" } : Jvm.MethodName) ({ cls := "FlexibleBoxes", name := "lineOf", desc := "(I)I" } : Jvm.MethodName)) ∈ zU := zin3 (List.mem_of_getElem? (i := 209) rfl) rfl
theorem zm_3_210 : (Jvm.Cond.code ({ cls := "FlexibleBoxes", name := "lineOf", desc := "(I)I" } : Jvm.MethodName) prog_1_method_18_code (2 : Nat) (Option.some Jvm.ClassFile.FieldType.int)) ∈ zU := zin3 (List.mem_of_getElem? (i := 210) rfl) rfl
theorem zm_3_211 : (Jvm.Cond.methodLink "FlexibleBoxesLaw" (146 : Nat) ({ cls := "FlexibleBoxesLaw", name := "overflow", desc := "(LFlexibleBoxes;I[J)I" } : Jvm.MethodName)) ∈ zU := zin3 (List.mem_of_getElem? (i := 211) rfl) rfl
theorem zm_3_212 : (Jvm.Cond.static ({ cls := "FlexibleBoxesLaw", name := "overflow", desc := "(LFlexibleBoxes;I[J)I" } : Jvm.MethodName)) ∈ zU := zin3 (List.mem_of_getElem? (i := 212) rfl) rfl
theorem zm_3_213 : (Jvm.Cond.codeWith ({ cls := "FlexibleBoxesLaw", name := "overflow", desc := "(LFlexibleBoxes;I[J)I" } : Jvm.MethodName) method_19_code (4 : Nat) (Option.some Jvm.ClassFile.FieldType.int) [((0 : Nat), (9 : Nat), (12 : Nat), (13 : Nat)), ((0 : Nat), (9 : Nat), (15 : Nat), (15 : Nat))]) ∈ zU := zin3 (List.mem_of_getElem? (i := 213) rfl) rfl
theorem zm_3_214 : (Jvm.Cond.methodLink "FlexibleBoxesLaw" (67 : Nat) ({ cls := "FlexibleBoxes", name := "overflow", desc := "(I)I" } : Jvm.MethodName)) ∈ zU := zin3 (List.mem_of_getElem? (i := 214) rfl) rfl
theorem zm_3_215 : (Jvm.Cond.instanceMethod ({ cls := "FlexibleBoxes", name := "overflow", desc := "(I)I" } : Jvm.MethodName)) ∈ zU := zin3 (List.mem_of_getElem? (i := 215) rfl) rfl
theorem zm_3_216 : (Jvm.Cond.selects "FlexibleBoxes" ({ cls := "FlexibleBoxes", name := "overflow", desc := "(I)I" } : Jvm.MethodName) ({ cls := "FlexibleBoxes", name := "overflow", desc := "(I)I" } : Jvm.MethodName)) ∈ zU := zin3 (List.mem_of_getElem? (i := 216) rfl) rfl
theorem zm_3_217 : (Jvm.Cond.code ({ cls := "FlexibleBoxes", name := "overflow", desc := "(I)I" } : Jvm.MethodName) prog_1_method_19_code (3 : Nat) (Option.some Jvm.ClassFile.FieldType.int)) ∈ zU := zin3 (List.mem_of_getElem? (i := 217) rfl) rfl
theorem zm_3_218 : (Jvm.Cond.methodLink "FlexibleBoxes" (156 : Nat) ({ cls := "FlexibleBoxes$Layout", name := "kidsOverflow", desc := "(LFlexibleBoxes$Box;)I" } : Jvm.MethodName)) ∈ zU := zin3 (List.mem_of_getElem? (i := 218) rfl) rfl
theorem zm_3_219 : (Jvm.Cond.static ({ cls := "FlexibleBoxes$Layout", name := "kidsOverflow", desc := "(LFlexibleBoxes$Box;)I" } : Jvm.MethodName)) ∈ zU := zin3 (List.mem_of_getElem? (i := 219) rfl) rfl
theorem zm_3_220 : (Jvm.Cond.code ({ cls := "FlexibleBoxes$Layout", name := "kidsOverflow", desc := "(LFlexibleBoxes$Box;)I" } : Jvm.MethodName) prog_4_method_19_code (4 : Nat) (Option.some Jvm.ClassFile.FieldType.int)) ∈ zU := zin3 (List.mem_of_getElem? (i := 220) rfl) rfl
theorem zm_3_221 : (Jvm.Cond.methodLink "FlexibleBoxes" (159 : Nat) ({ cls := "FlexibleBoxes$Layout", name := "textOverflow", desc := "(LFlexibleBoxes$Box;)I" } : Jvm.MethodName)) ∈ zU := zin3 (List.mem_of_getElem? (i := 221) rfl) rfl
theorem zm_3_222 : (Jvm.Cond.static ({ cls := "FlexibleBoxes$Layout", name := "textOverflow", desc := "(LFlexibleBoxes$Box;)I" } : Jvm.MethodName)) ∈ zU := zin3 (List.mem_of_getElem? (i := 222) rfl) rfl
theorem zm_3_223 : (Jvm.Cond.code ({ cls := "FlexibleBoxes$Layout", name := "textOverflow", desc := "(LFlexibleBoxes$Box;)I" } : Jvm.MethodName) prog_4_method_20_code (3 : Nat) (Option.some Jvm.ClassFile.FieldType.int)) ∈ zU := zin3 (List.mem_of_getElem? (i := 223) rfl) rfl
theorem zm_3_224 : (Jvm.Cond.methodLink "FlexibleBoxesLaw" (153 : Nat) ({ cls := "FlexibleBoxesLaw", name := "widthFor", desc := "(LFlexibleBoxes;II[J)I" } : Jvm.MethodName)) ∈ zU := zin3 (List.mem_of_getElem? (i := 224) rfl) rfl
theorem zm_3_225 : (Jvm.Cond.static ({ cls := "FlexibleBoxesLaw", name := "widthFor", desc := "(LFlexibleBoxes;II[J)I" } : Jvm.MethodName)) ∈ zU := zin3 (List.mem_of_getElem? (i := 225) rfl) rfl
theorem zm_3_226 : (Jvm.Cond.codeWith ({ cls := "FlexibleBoxesLaw", name := "widthFor", desc := "(LFlexibleBoxes;II[J)I" } : Jvm.MethodName) method_20_code (5 : Nat) (Option.some Jvm.ClassFile.FieldType.int) [((0 : Nat), (10 : Nat), (13 : Nat), (13 : Nat)), ((0 : Nat), (10 : Nat), (17 : Nat), (20 : Nat)), ((0 : Nat), (10 : Nat), (21 : Nat), (15 : Nat))]) ∈ zU := zin3 (List.mem_of_getElem? (i := 226) rfl) rfl
theorem zm_3_227 : (Jvm.Cond.methodLink "FlexibleBoxesLaw" (70 : Nat) ({ cls := "FlexibleBoxes", name := "widthFor", desc := "(II)I" } : Jvm.MethodName)) ∈ zU := zin3 (List.mem_of_getElem? (i := 227) rfl) rfl
theorem zm_3_228 : (Jvm.Cond.instanceMethod ({ cls := "FlexibleBoxes", name := "widthFor", desc := "(II)I" } : Jvm.MethodName)) ∈ zU := zin3 (List.mem_of_getElem? (i := 228) rfl) rfl
theorem zm_3_229 : (Jvm.Cond.selects "FlexibleBoxes" ({ cls := "FlexibleBoxes", name := "widthFor", desc := "(II)I" } : Jvm.MethodName) ({ cls := "FlexibleBoxes", name := "widthFor", desc := "(II)I" } : Jvm.MethodName)) ∈ zU := zin3 (List.mem_of_getElem? (i := 229) rfl) rfl
theorem zm_3_230 : (Jvm.Cond.code ({ cls := "FlexibleBoxes", name := "widthFor", desc := "(II)I" } : Jvm.MethodName) prog_1_method_21_code (4 : Nat) (Option.some Jvm.ClassFile.FieldType.int)) ∈ zU := zin3 (List.mem_of_getElem? (i := 230) rfl) rfl
theorem zm_3_232 : (Jvm.Cond.methodLink "FlexibleBoxes" (167 : Nat) ({ cls := "FlexibleBoxes$Layout", name := "narrowestFor", desc := "(LFlexibleBoxes$Box;I)I" } : Jvm.MethodName)) ∈ zU := zin3 (List.mem_of_getElem? (i := 232) rfl) rfl
theorem zm_3_233 : (Jvm.Cond.instanceMethod ({ cls := "FlexibleBoxes$Layout", name := "narrowestFor", desc := "(LFlexibleBoxes$Box;I)I" } : Jvm.MethodName)) ∈ zU := zin3 (List.mem_of_getElem? (i := 233) rfl) rfl
theorem zm_3_234 : (Jvm.Cond.selects "FlexibleBoxes$Layout" ({ cls := "FlexibleBoxes$Layout", name := "narrowestFor", desc := "(LFlexibleBoxes$Box;I)I" } : Jvm.MethodName) ({ cls := "FlexibleBoxes$Layout", name := "narrowestFor", desc := "(LFlexibleBoxes$Box;I)I" } : Jvm.MethodName)) ∈ zU := zin3 (List.mem_of_getElem? (i := 234) rfl) rfl
theorem zm_3_235 : (Jvm.Cond.code ({ cls := "FlexibleBoxes$Layout", name := "narrowestFor", desc := "(LFlexibleBoxes$Box;I)I" } : Jvm.MethodName) prog_4_method_23_code (4 : Nat) (Option.some Jvm.ClassFile.FieldType.int)) ∈ zU := zin3 (List.mem_of_getElem? (i := 235) rfl) rfl
theorem zm_3_236 : (Jvm.Cond.methodLink "FlexibleBoxes$Layout" (219 : Nat) ({ cls := "FlexibleBoxes$Layout", name := "linesVary", desc := "(LFlexibleBoxes$Box;)Z" } : Jvm.MethodName)) ∈ zU := zin3 (List.mem_of_getElem? (i := 236) rfl) rfl
theorem zm_3_237 : (Jvm.Cond.static ({ cls := "FlexibleBoxes$Layout", name := "linesVary", desc := "(LFlexibleBoxes$Box;)Z" } : Jvm.MethodName)) ∈ zU := zin3 (List.mem_of_getElem? (i := 237) rfl) rfl
theorem zm_3_238 : (Jvm.Cond.code ({ cls := "FlexibleBoxes$Layout", name := "linesVary", desc := "(LFlexibleBoxes$Box;)Z" } : Jvm.MethodName) prog_4_method_24_code (1 : Nat) (Option.some Jvm.ClassFile.FieldType.boolean)) ∈ zU := zin3 (List.mem_of_getElem? (i := 238) rfl) rfl
theorem zm_3_239 : (Jvm.Cond.methodLink "FlexibleBoxes$Layout" (226 : Nat) ({ cls := "FlexibleBoxes$Layout", name := "linesAt", desc := "(LFlexibleBoxes$Box;I)I" } : Jvm.MethodName)) ∈ zU := zin3 (List.mem_of_getElem? (i := 239) rfl) rfl
theorem zm_4_1 : (Jvm.Cond.instanceMethod ({ cls := "FlexibleBoxes$Layout", name := "linesAt", desc := "(LFlexibleBoxes$Box;I)I" } : Jvm.MethodName)) ∈ zU := zin4 (List.mem_of_getElem? (i := 1) rfl) rfl
theorem zm_4_2 : (Jvm.Cond.code ({ cls := "FlexibleBoxes$Layout", name := "linesAt", desc := "(LFlexibleBoxes$Box;I)I" } : Jvm.MethodName) prog_4_method_25_code (4 : Nat) (Option.some Jvm.ClassFile.FieldType.int)) ∈ zU := zin4 (List.mem_of_getElem? (i := 2) rfl) rfl
theorem zm_4_3 : (Jvm.Cond.methodLink "FlexibleBoxesLaw" (156 : Nat) ({ cls := "FlexibleBoxesLaw", name := "save", desc := "(LFlexibleBoxes;I)I" } : Jvm.MethodName)) ∈ zU := zin4 (List.mem_of_getElem? (i := 3) rfl) rfl
theorem zm_4_4 : (Jvm.Cond.static ({ cls := "FlexibleBoxesLaw", name := "save", desc := "(LFlexibleBoxes;I)I" } : Jvm.MethodName)) ∈ zU := zin4 (List.mem_of_getElem? (i := 4) rfl) rfl
theorem zm_4_5 : (Jvm.Cond.codeWith ({ cls := "FlexibleBoxesLaw", name := "save", desc := "(LFlexibleBoxes;I)I" } : Jvm.MethodName) method_21_code (3 : Nat) (Option.some Jvm.ClassFile.FieldType.int) [((0 : Nat), (5 : Nat), (8 : Nat), (20 : Nat))]) ∈ zU := zin4 (List.mem_of_getElem? (i := 5) rfl) rfl
theorem zm_4_6 : (Jvm.Cond.methodLink "FlexibleBoxesLaw" (73 : Nat) ({ cls := "FlexibleBoxes", name := "save", desc := "(I)V" } : Jvm.MethodName)) ∈ zU := zin4 (List.mem_of_getElem? (i := 6) rfl) rfl
theorem zm_4_7 : (Jvm.Cond.instanceMethod ({ cls := "FlexibleBoxes", name := "save", desc := "(I)V" } : Jvm.MethodName)) ∈ zU := zin4 (List.mem_of_getElem? (i := 7) rfl) rfl
theorem zm_4_8 : (Jvm.Cond.selects "FlexibleBoxes" ({ cls := "FlexibleBoxes", name := "save", desc := "(I)V" } : Jvm.MethodName) ({ cls := "FlexibleBoxes", name := "save", desc := "(I)V" } : Jvm.MethodName)) ∈ zU := zin4 (List.mem_of_getElem? (i := 8) rfl) rfl
theorem zm_4_9 : (Jvm.Cond.code ({ cls := "FlexibleBoxes", name := "save", desc := "(I)V" } : Jvm.MethodName) prog_1_method_22_code (3 : Nat) (Option.none : Option Jvm.ClassFile.FieldType)) ∈ zU := zin4 (List.mem_of_getElem? (i := 9) rfl) rfl
theorem zm_4_11 : (Jvm.Cond.instantiable "FlexibleBoxes$Snapshot" (6 : Nat)) ∈ zU := zin4 (List.mem_of_getElem? (i := 11) rfl) rfl
theorem zm_4_13 : (Jvm.Cond.instanceMethod ({ cls := "FlexibleBoxes$Snapshot", name := "<init>", desc := "()V" } : Jvm.MethodName)) ∈ zU := zin4 (List.mem_of_getElem? (i := 13) rfl) rfl
theorem zm_4_14 : (Jvm.Cond.code ({ cls := "FlexibleBoxes$Snapshot", name := "<init>", desc := "()V" } : Jvm.MethodName) prog_5_method_1_code (1 : Nat) (Option.none : Option Jvm.ClassFile.FieldType)) ∈ zU := zin4 (List.mem_of_getElem? (i := 14) rfl) rfl
theorem zm_4_15 : (Jvm.Cond.methodLink "FlexibleBoxes$Snapshot" (3 : Nat) ({ cls := "java/lang/Object", name := "<init>", desc := "()V" } : Jvm.MethodName)) ∈ zU := zin4 (List.mem_of_getElem? (i := 15) rfl) rfl
theorem zm_4_16 : (Jvm.Cond.classLink "FlexibleBoxes$Snapshot" (19 : Nat) "[[I") ∈ zU := zin4 (List.mem_of_getElem? (i := 16) rfl) rfl
theorem zm_4_18 : (Jvm.Cond.fieldLink "FlexibleBoxes$Snapshot" (9 : Nat) "FlexibleBoxes$Snapshot" "exists" "[Z") ∈ zU := zin4 (List.mem_of_getElem? (i := 18) rfl) rfl
theorem zm_4_19 : (Jvm.Cond.fieldLink "FlexibleBoxes$Tree" (73 : Nat) "FlexibleBoxes$Snapshot" "exists" "[Z") ∈ zU := zin4 (List.mem_of_getElem? (i := 19) rfl) rfl
theorem zm_4_20 : (Jvm.Cond.fieldLink "FlexibleBoxes$Snapshot" (15 : Nat) "FlexibleBoxes$Snapshot" "parents" "[I") ∈ zU := zin4 (List.mem_of_getElem? (i := 20) rfl) rfl
theorem zm_4_21 : (Jvm.Cond.fieldLink "FlexibleBoxes$Tree" (76 : Nat) "FlexibleBoxes$Snapshot" "parents" "[I") ∈ zU := zin4 (List.mem_of_getElem? (i := 21) rfl) rfl
theorem zm_4_22 : (Jvm.Cond.fieldLink "FlexibleBoxes$Snapshot" (21 : Nat) "FlexibleBoxes$Snapshot" "styles" "[[I") ∈ zU := zin4 (List.mem_of_getElem? (i := 22) rfl) rfl
theorem zm_4_23 : (Jvm.Cond.fieldLink "FlexibleBoxes$Tree" (87 : Nat) "FlexibleBoxes$Snapshot" "styles" "[[I") ∈ zU := zin4 (List.mem_of_getElem? (i := 23) rfl) rfl
theorem zm_4_24 : (Jvm.Cond.fieldLink "FlexibleBoxes$Tree" (68 : Nat) "FlexibleBoxes$Snapshot" "given" "I") ∈ zU := zin4 (List.mem_of_getElem? (i := 24) rfl) rfl
theorem zm_4_25 : (Jvm.Cond.fieldLink "FlexibleBoxes$Tree" (71 : Nat) "FlexibleBoxes$Snapshot" "viewportWidth" "I") ∈ zU := zin4 (List.mem_of_getElem? (i := 25) rfl) rfl
theorem zm_4_26 : (Jvm.Cond.fieldLink "FlexibleBoxes$Tree" (72 : Nat) "FlexibleBoxes$Snapshot" "viewportHeight" "I") ∈ zU := zin4 (List.mem_of_getElem? (i := 26) rfl) rfl
theorem zm_4_40 : (Jvm.Cond.methodLink "FlexibleBoxes" (174 : Nat) ({ cls := "FlexibleBoxes$Tree", name := "copyTo", desc := "(LFlexibleBoxes$Snapshot;)V" } : Jvm.MethodName)) ∈ zU := zin4 (List.mem_of_getElem? (i := 40) rfl) rfl
theorem zm_4_41 : (Jvm.Cond.instanceMethod ({ cls := "FlexibleBoxes$Tree", name := "copyTo", desc := "(LFlexibleBoxes$Snapshot;)V" } : Jvm.MethodName)) ∈ zU := zin4 (List.mem_of_getElem? (i := 41) rfl) rfl
theorem zm_4_42 : (Jvm.Cond.selects "FlexibleBoxes$Tree" ({ cls := "FlexibleBoxes$Tree", name := "copyTo", desc := "(LFlexibleBoxes$Snapshot;)V" } : Jvm.MethodName) ({ cls := "FlexibleBoxes$Tree", name := "copyTo", desc := "(LFlexibleBoxes$Snapshot;)V" } : Jvm.MethodName)) ∈ zU := zin4 (List.mem_of_getElem? (i := 42) rfl) rfl
theorem zm_4_43 : (Jvm.Cond.code ({ cls := "FlexibleBoxes$Tree", name := "copyTo", desc := "(LFlexibleBoxes$Snapshot;)V" } : Jvm.MethodName) prog_6_method_9_code (4 : Nat) (Option.none : Option Jvm.ClassFile.FieldType)) ∈ zU := zin4 (List.mem_of_getElem? (i := 43) rfl) rfl
theorem zm_4_44 : (Jvm.Cond.methodLink "FlexibleBoxes$Tree" (80 : Nat) ({ cls := "FlexibleBoxes$Box", name := "parentNumber", desc := "()I" } : Jvm.MethodName)) ∈ zU := zin4 (List.mem_of_getElem? (i := 44) rfl) rfl
theorem zm_4_45 : (Jvm.Cond.methodLink "FlexibleBoxes$Tree" (91 : Nat) ({ cls := "java/lang/System", name := "arraycopy", desc := "(Ljava/lang/Object;ILjava/lang/Object;II)V" } : Jvm.MethodName)) ∈ zU := zin4 (List.mem_of_getElem? (i := 45) rfl) rfl
theorem zm_4_46 : (Jvm.Cond.static ({ cls := "java/lang/System", name := "arraycopy", desc := "(Ljava/lang/Object;ILjava/lang/Object;II)V" } : Jvm.MethodName)) ∈ zU := zin4 (List.mem_of_getElem? (i := 46) rfl) rfl
theorem zm_4_48 : (Jvm.Cond.methodLink "FlexibleBoxesLaw" (160 : Nat) ({ cls := "FlexibleBoxesLaw", name := "restore", desc := "(LFlexibleBoxes;I)I" } : Jvm.MethodName)) ∈ zU := zin4 (List.mem_of_getElem? (i := 48) rfl) rfl
theorem zm_4_49 : (Jvm.Cond.static ({ cls := "FlexibleBoxesLaw", name := "restore", desc := "(LFlexibleBoxes;I)I" } : Jvm.MethodName)) ∈ zU := zin4 (List.mem_of_getElem? (i := 49) rfl) rfl
theorem zm_4_50 : (Jvm.Cond.codeWith ({ cls := "FlexibleBoxesLaw", name := "restore", desc := "(LFlexibleBoxes;I)I" } : Jvm.MethodName) method_22_code (3 : Nat) (Option.some Jvm.ClassFile.FieldType.int) [((0 : Nat), (5 : Nat), (8 : Nat), (20 : Nat)), ((0 : Nat), (5 : Nat), (11 : Nat), (15 : Nat))]) ∈ zU := zin4 (List.mem_of_getElem? (i := 50) rfl) rfl
theorem zm_4_51 : (Jvm.Cond.methodLink "FlexibleBoxesLaw" (77 : Nat) ({ cls := "FlexibleBoxes", name := "restore", desc := "(I)V" } : Jvm.MethodName)) ∈ zU := zin4 (List.mem_of_getElem? (i := 51) rfl) rfl
theorem zm_4_52 : (Jvm.Cond.instanceMethod ({ cls := "FlexibleBoxes", name := "restore", desc := "(I)V" } : Jvm.MethodName)) ∈ zU := zin4 (List.mem_of_getElem? (i := 52) rfl) rfl
theorem zm_4_53 : (Jvm.Cond.selects "FlexibleBoxes" ({ cls := "FlexibleBoxes", name := "restore", desc := "(I)V" } : Jvm.MethodName) ({ cls := "FlexibleBoxes", name := "restore", desc := "(I)V" } : Jvm.MethodName)) ∈ zU := zin4 (List.mem_of_getElem? (i := 53) rfl) rfl
theorem zm_4_54 : (Jvm.Cond.code ({ cls := "FlexibleBoxes", name := "restore", desc := "(I)V" } : Jvm.MethodName) prog_1_method_23_code (3 : Nat) (Option.none : Option Jvm.ClassFile.FieldType)) ∈ zU := zin4 (List.mem_of_getElem? (i := 54) rfl) rfl
theorem zm_4_56 : (Jvm.Cond.methodLink "FlexibleBoxes" (180 : Nat) ({ cls := "FlexibleBoxes$Tree", name := "takeFrom", desc := "(LFlexibleBoxes$Snapshot;)V" } : Jvm.MethodName)) ∈ zU := zin4 (List.mem_of_getElem? (i := 56) rfl) rfl
theorem zm_4_57 : (Jvm.Cond.instanceMethod ({ cls := "FlexibleBoxes$Tree", name := "takeFrom", desc := "(LFlexibleBoxes$Snapshot;)V" } : Jvm.MethodName)) ∈ zU := zin4 (List.mem_of_getElem? (i := 57) rfl) rfl
theorem zm_4_58 : (Jvm.Cond.selects "FlexibleBoxes$Tree" ({ cls := "FlexibleBoxes$Tree", name := "takeFrom", desc := "(LFlexibleBoxes$Snapshot;)V" } : Jvm.MethodName) ({ cls := "FlexibleBoxes$Tree", name := "takeFrom", desc := "(LFlexibleBoxes$Snapshot;)V" } : Jvm.MethodName)) ∈ zU := zin4 (List.mem_of_getElem? (i := 58) rfl) rfl
theorem zm_4_59 : (Jvm.Cond.code ({ cls := "FlexibleBoxes$Tree", name := "takeFrom", desc := "(LFlexibleBoxes$Snapshot;)V" } : Jvm.MethodName) prog_6_method_10_code (4 : Nat) (Option.none : Option Jvm.ClassFile.FieldType)) ∈ zU := zin4 (List.mem_of_getElem? (i := 59) rfl) rfl
theorem zm_4_60 : (Jvm.Cond.classLink "FlexibleBoxesLaw" (81 : Nat) "FlexibleBoxesModel") ∈ zU := zin4 (List.mem_of_getElem? (i := 60) rfl) rfl
theorem zm_4_61 : (Jvm.Cond.instantiable "FlexibleBoxesModel" (16 : Nat)) ∈ zU := zin4 (List.mem_of_getElem? (i := 61) rfl) rfl
theorem zm_4_62 : (Jvm.Cond.methodLink "FlexibleBoxesLaw" (83 : Nat) ({ cls := "FlexibleBoxesModel", name := "<init>", desc := "()V" } : Jvm.MethodName)) ∈ zU := zin4 (List.mem_of_getElem? (i := 62) rfl) rfl
theorem zm_4_63 : (Jvm.Cond.instanceMethod ({ cls := "FlexibleBoxesModel", name := "<init>", desc := "()V" } : Jvm.MethodName)) ∈ zU := zin4 (List.mem_of_getElem? (i := 63) rfl) rfl
theorem zm_4_64 : (Jvm.Cond.code ({ cls := "FlexibleBoxesModel", name := "<init>", desc := "()V" } : Jvm.MethodName) prog_8_method_1_code (1 : Nat) (Option.none : Option Jvm.ClassFile.FieldType)) ∈ zU := zin4 (List.mem_of_getElem? (i := 64) rfl) rfl
theorem zm_4_65 : (Jvm.Cond.methodLink "FlexibleBoxesModel" (1 : Nat) ({ cls := "java/lang/Object", name := "<init>", desc := "()V" } : Jvm.MethodName)) ∈ zU := zin4 (List.mem_of_getElem? (i := 65) rfl) rfl
theorem zm_4_66 : (Jvm.Cond.methodLink "FlexibleBoxesModel" (54 : Nat) ({ cls := "FlexibleBoxesModel", name := "make", desc := "(I)I" } : Jvm.MethodName)) ∈ zU := zin4 (List.mem_of_getElem? (i := 66) rfl) rfl
theorem zm_4_68 : (Jvm.Cond.instanceMethod ({ cls := "FlexibleBoxesModel", name := "make", desc := "(I)I" } : Jvm.MethodName)) ∈ zU := zin4 (List.mem_of_getElem? (i := 68) rfl) rfl
theorem zm_4_69 : (Jvm.Cond.code ({ cls := "FlexibleBoxesModel", name := "make", desc := "(I)I" } : Jvm.MethodName) prog_8_method_8_code (4 : Nat) (Option.some Jvm.ClassFile.FieldType.int)) ∈ zU := zin4 (List.mem_of_getElem? (i := 69) rfl) rfl
theorem zm_4_70 : (Jvm.Cond.methodLink "FlexibleBoxesModel" (62 : Nat) ({ cls := "FlexibleBoxesModel", name := "firstOf", desc := "(I)I" } : Jvm.MethodName)) ∈ zU := zin4 (List.mem_of_getElem? (i := 70) rfl) rfl
theorem zm_4_71 : (Jvm.Cond.static ({ cls := "FlexibleBoxesModel", name := "firstOf", desc := "(I)I" } : Jvm.MethodName)) ∈ zU := zin4 (List.mem_of_getElem? (i := 71) rfl) rfl
theorem zm_4_72 : (Jvm.Cond.code ({ cls := "FlexibleBoxesModel", name := "firstOf", desc := "(I)I" } : Jvm.MethodName) prog_8_method_6_code (1 : Nat) (Option.some Jvm.ClassFile.FieldType.int)) ∈ zU := zin4 (List.mem_of_getElem? (i := 72) rfl) rfl
theorem zm_4_73 : (Jvm.Cond.fieldLink "FlexibleBoxesModel" (7 : Nat) "FlexibleBoxesModel" "at" "[I") ∈ zU := zin4 (List.mem_of_getElem? (i := 73) rfl) rfl
theorem zm_4_74 : (Jvm.Cond.fieldLink "FlexibleBoxesModel" (13 : Nat) "FlexibleBoxesModel" "slots" "[I") ∈ zU := zin4 (List.mem_of_getElem? (i := 74) rfl) rfl
theorem zm_4_75 : (Jvm.Cond.fieldLink "FlexibleBoxesModel" (16 : Nat) "FlexibleBoxesModel" "isSaved" "[Z") ∈ zU := zin4 (List.mem_of_getElem? (i := 75) rfl) rfl
theorem zm_4_76 : (Jvm.Cond.fieldLink "FlexibleBoxesModel" (58 : Nat) "FlexibleBoxesModel" "thrown" "I") ∈ zU := zin4 (List.mem_of_getElem? (i := 76) rfl) rfl
theorem zm_4_77 : (Jvm.Cond.fieldLink "FlexibleBoxesModel" (20 : Nat) "FlexibleBoxesModel" "kids" "[I") ∈ zU := zin4 (List.mem_of_getElem? (i := 77) rfl) rfl
theorem zm_4_78 : (Jvm.Cond.fieldLink "FlexibleBoxesModel" (77 : Nat) "FlexibleBoxesModel" "kidMany" "I") ∈ zU := zin4 (List.mem_of_getElem? (i := 78) rfl) rfl
theorem zm_4_79 : (Jvm.Cond.fieldLink "FlexibleBoxesModel" (23 : Nat) "FlexibleBoxesModel" "isShown" "[Z") ∈ zU := zin4 (List.mem_of_getElem? (i := 79) rfl) rfl
theorem zm_4_80 : (Jvm.Cond.fieldLink "FlexibleBoxesModel" (26 : Nat) "FlexibleBoxesModel" "natural" "[I") ∈ zU := zin4 (List.mem_of_getElem? (i := 80) rfl) rfl
theorem zm_4_81 : (Jvm.Cond.fieldLink "FlexibleBoxesModel" (29 : Nat) "FlexibleBoxesModel" "size" "[I") ∈ zU := zin4 (List.mem_of_getElem? (i := 81) rfl) rfl
theorem zm_4_82 : (Jvm.Cond.fieldLink "FlexibleBoxesModel" (32 : Nat) "FlexibleBoxesModel" "place" "[I") ∈ zU := zin4 (List.mem_of_getElem? (i := 82) rfl) rfl
theorem zm_4_83 : (Jvm.Cond.fieldLink "FlexibleBoxesModel" (35 : Nat) "FlexibleBoxesModel" "lineAt" "[I") ∈ zU := zin4 (List.mem_of_getElem? (i := 83) rfl) rfl
theorem zm_4_84 : (Jvm.Cond.fieldLink "FlexibleBoxesModel" (38 : Nat) "FlexibleBoxesModel" "lineMany" "[I") ∈ zU := zin4 (List.mem_of_getElem? (i := 84) rfl) rfl
theorem zm_4_85 : (Jvm.Cond.fieldLink "FlexibleBoxesModel" (41 : Nat) "FlexibleBoxesModel" "isFixed" "[Z") ∈ zU := zin4 (List.mem_of_getElem? (i := 85) rfl) rfl
theorem zm_4_86 : (Jvm.Cond.fieldLink "FlexibleBoxesModel" (44 : Nat) "FlexibleBoxesModel" "factor" "[J") ∈ zU := zin4 (List.mem_of_getElem? (i := 86) rfl) rfl
theorem zm_4_87 : (Jvm.Cond.fieldLink "FlexibleBoxesModel" (48 : Nat) "FlexibleBoxesModel" "proposed" "[I") ∈ zU := zin4 (List.mem_of_getElem? (i := 87) rfl) rfl
theorem zm_4_88 : (Jvm.Cond.fieldLink "FlexibleBoxesModel" (51 : Nat) "FlexibleBoxesModel" "waiting" "[I") ∈ zU := zin4 (List.mem_of_getElem? (i := 88) rfl) rfl
theorem zm_4_122 : (Jvm.Cond.arrayClass Jvm.ClassFile.FieldType.long) ∈ zU := zin4 (List.mem_of_getElem? (i := 122) rfl) rfl
theorem zm_4_123 : (Jvm.Cond.methodLink "FlexibleBoxesLaw" (90 : Nat) ({ cls := "FlexibleBoxesModel", name := "thrown", desc := "()I" } : Jvm.MethodName)) ∈ zU := zin4 (List.mem_of_getElem? (i := 123) rfl) rfl
theorem zm_4_124 : (Jvm.Cond.instanceMethod ({ cls := "FlexibleBoxesModel", name := "thrown", desc := "()I" } : Jvm.MethodName)) ∈ zU := zin4 (List.mem_of_getElem? (i := 124) rfl) rfl
theorem zm_4_125 : (Jvm.Cond.selects "FlexibleBoxesModel" ({ cls := "FlexibleBoxesModel", name := "thrown", desc := "()I" } : Jvm.MethodName) ({ cls := "FlexibleBoxesModel", name := "thrown", desc := "()I" } : Jvm.MethodName)) ∈ zU := zin4 (List.mem_of_getElem? (i := 125) rfl) rfl
theorem zm_4_126 : (Jvm.Cond.code ({ cls := "FlexibleBoxesModel", name := "thrown", desc := "()I" } : Jvm.MethodName) prog_8_method_2_code (1 : Nat) (Option.some Jvm.ClassFile.FieldType.int)) ∈ zU := zin4 (List.mem_of_getElem? (i := 126) rfl) rfl
theorem zm_4_127 : (Jvm.Cond.methodLink "FlexibleBoxesLaw" (89 : Nat) ({ cls := "FlexibleBoxesModel", name := "add", desc := "(I)I" } : Jvm.MethodName)) ∈ zU := zin4 (List.mem_of_getElem? (i := 127) rfl) rfl
theorem zm_4_128 : (Jvm.Cond.instanceMethod ({ cls := "FlexibleBoxesModel", name := "add", desc := "(I)I" } : Jvm.MethodName)) ∈ zU := zin4 (List.mem_of_getElem? (i := 128) rfl) rfl
theorem zm_4_129 : (Jvm.Cond.selects "FlexibleBoxesModel" ({ cls := "FlexibleBoxesModel", name := "add", desc := "(I)I" } : Jvm.MethodName) ({ cls := "FlexibleBoxesModel", name := "add", desc := "(I)I" } : Jvm.MethodName)) ∈ zU := zin4 (List.mem_of_getElem? (i := 129) rfl) rfl
theorem zm_4_130 : (Jvm.Cond.code ({ cls := "FlexibleBoxesModel", name := "add", desc := "(I)I" } : Jvm.MethodName) prog_8_method_10_code (2 : Nat) (Option.some Jvm.ClassFile.FieldType.int)) ∈ zU := zin4 (List.mem_of_getElem? (i := 130) rfl) rfl
theorem zm_4_131 : (Jvm.Cond.methodLink "FlexibleBoxesModel" (69 : Nat) ({ cls := "FlexibleBoxesModel", name := "isBox", desc := "(I)Z" } : Jvm.MethodName)) ∈ zU := zin4 (List.mem_of_getElem? (i := 131) rfl) rfl
theorem zm_4_133 : (Jvm.Cond.instanceMethod ({ cls := "FlexibleBoxesModel", name := "isBox", desc := "(I)Z" } : Jvm.MethodName)) ∈ zU := zin4 (List.mem_of_getElem? (i := 133) rfl) rfl
theorem zm_4_134 : (Jvm.Cond.code ({ cls := "FlexibleBoxesModel", name := "isBox", desc := "(I)Z" } : Jvm.MethodName) prog_8_method_9_code (2 : Nat) (Option.some Jvm.ClassFile.FieldType.boolean)) ∈ zU := zin4 (List.mem_of_getElem? (i := 134) rfl) rfl
theorem zm_4_135 : (Jvm.Cond.methodLink "FlexibleBoxesModel" (65 : Nat) ({ cls := "FlexibleBoxesModel", name := "in", desc := "(III)Z" } : Jvm.MethodName)) ∈ zU := zin4 (List.mem_of_getElem? (i := 135) rfl) rfl
theorem zm_4_136 : (Jvm.Cond.static ({ cls := "FlexibleBoxesModel", name := "in", desc := "(III)Z" } : Jvm.MethodName)) ∈ zU := zin4 (List.mem_of_getElem? (i := 136) rfl) rfl
theorem zm_4_137 : (Jvm.Cond.code ({ cls := "FlexibleBoxesModel", name := "in", desc := "(III)Z" } : Jvm.MethodName) prog_8_method_3_code (3 : Nat) (Option.some Jvm.ClassFile.FieldType.boolean)) ∈ zU := zin4 (List.mem_of_getElem? (i := 137) rfl) rfl
theorem zm_4_138 : (Jvm.Cond.methodLink "FlexibleBoxesLaw" (96 : Nat) ({ cls := "FlexibleBoxesModel", name := "remove", desc := "(I)I" } : Jvm.MethodName)) ∈ zU := zin4 (List.mem_of_getElem? (i := 138) rfl) rfl
theorem zm_4_139 : (Jvm.Cond.instanceMethod ({ cls := "FlexibleBoxesModel", name := "remove", desc := "(I)I" } : Jvm.MethodName)) ∈ zU := zin4 (List.mem_of_getElem? (i := 139) rfl) rfl
theorem zm_4_140 : (Jvm.Cond.selects "FlexibleBoxesModel" ({ cls := "FlexibleBoxesModel", name := "remove", desc := "(I)I" } : Jvm.MethodName) ({ cls := "FlexibleBoxesModel", name := "remove", desc := "(I)I" } : Jvm.MethodName)) ∈ zU := zin4 (List.mem_of_getElem? (i := 140) rfl) rfl
theorem zm_4_141 : (Jvm.Cond.code ({ cls := "FlexibleBoxesModel", name := "remove", desc := "(I)I" } : Jvm.MethodName) prog_8_method_11_code (4 : Nat) (Option.some Jvm.ClassFile.FieldType.int)) ∈ zU := zin4 (List.mem_of_getElem? (i := 141) rfl) rfl
theorem zm_4_142 : (Jvm.Cond.methodLink "FlexibleBoxesLaw" (100 : Nat) ({ cls := "FlexibleBoxesModel", name := "boxes", desc := "()I" } : Jvm.MethodName)) ∈ zU := zin4 (List.mem_of_getElem? (i := 142) rfl) rfl
theorem zm_4_143 : (Jvm.Cond.instanceMethod ({ cls := "FlexibleBoxesModel", name := "boxes", desc := "()I" } : Jvm.MethodName)) ∈ zU := zin4 (List.mem_of_getElem? (i := 143) rfl) rfl
theorem zm_4_144 : (Jvm.Cond.selects "FlexibleBoxesModel" ({ cls := "FlexibleBoxesModel", name := "boxes", desc := "()I" } : Jvm.MethodName) ({ cls := "FlexibleBoxesModel", name := "boxes", desc := "()I" } : Jvm.MethodName)) ∈ zU := zin4 (List.mem_of_getElem? (i := 144) rfl) rfl
theorem zm_4_145 : (Jvm.Cond.code ({ cls := "FlexibleBoxesModel", name := "boxes", desc := "()I" } : Jvm.MethodName) prog_8_method_12_code (3 : Nat) (Option.some Jvm.ClassFile.FieldType.int)) ∈ zU := zin4 (List.mem_of_getElem? (i := 145) rfl) rfl
theorem zm_4_146 : (Jvm.Cond.methodLink "FlexibleBoxesLaw" (103 : Nat) ({ cls := "FlexibleBoxesModel", name := "parent", desc := "(I)I" } : Jvm.MethodName)) ∈ zU := zin4 (List.mem_of_getElem? (i := 146) rfl) rfl
theorem zm_4_147 : (Jvm.Cond.instanceMethod ({ cls := "FlexibleBoxesModel", name := "parent", desc := "(I)I" } : Jvm.MethodName)) ∈ zU := zin4 (List.mem_of_getElem? (i := 147) rfl) rfl
theorem zm_4_148 : (Jvm.Cond.selects "FlexibleBoxesModel" ({ cls := "FlexibleBoxesModel", name := "parent", desc := "(I)I" } : Jvm.MethodName) ({ cls := "FlexibleBoxesModel", name := "parent", desc := "(I)I" } : Jvm.MethodName)) ∈ zU := zin4 (List.mem_of_getElem? (i := 148) rfl) rfl
theorem zm_4_149 : (Jvm.Cond.code ({ cls := "FlexibleBoxesModel", name := "parent", desc := "(I)I" } : Jvm.MethodName) prog_8_method_13_code (2 : Nat) (Option.some Jvm.ClassFile.FieldType.int)) ∈ zU := zin4 (List.mem_of_getElem? (i := 149) rfl) rfl
theorem zm_4_150 : (Jvm.Cond.methodLink "FlexibleBoxesLaw" (107 : Nat) ({ cls := "FlexibleBoxesModel", name := "child", desc := "(II)I" } : Jvm.MethodName)) ∈ zU := zin4 (List.mem_of_getElem? (i := 150) rfl) rfl
theorem zm_4_151 : (Jvm.Cond.instanceMethod ({ cls := "FlexibleBoxesModel", name := "child", desc := "(II)I" } : Jvm.MethodName)) ∈ zU := zin4 (List.mem_of_getElem? (i := 151) rfl) rfl
theorem zm_4_152 : (Jvm.Cond.selects "FlexibleBoxesModel" ({ cls := "FlexibleBoxesModel", name := "child", desc := "(II)I" } : Jvm.MethodName) ({ cls := "FlexibleBoxesModel", name := "child", desc := "(II)I" } : Jvm.MethodName)) ∈ zU := zin4 (List.mem_of_getElem? (i := 152) rfl) rfl
theorem zm_4_153 : (Jvm.Cond.code ({ cls := "FlexibleBoxesModel", name := "child", desc := "(II)I" } : Jvm.MethodName) prog_8_method_18_code (3 : Nat) (Option.some Jvm.ClassFile.FieldType.int)) ∈ zU := zin4 (List.mem_of_getElem? (i := 153) rfl) rfl
theorem zm_4_154 : (Jvm.Cond.methodLink "FlexibleBoxesModel" (87 : Nat) ({ cls := "FlexibleBoxesModel", name := "layKids", desc := "(I)V" } : Jvm.MethodName)) ∈ zU := zin4 (List.mem_of_getElem? (i := 154) rfl) rfl
theorem zm_4_156 : (Jvm.Cond.instanceMethod ({ cls := "FlexibleBoxesModel", name := "layKids", desc := "(I)V" } : Jvm.MethodName)) ∈ zU := zin4 (List.mem_of_getElem? (i := 156) rfl) rfl
theorem zm_4_157 : (Jvm.Cond.code ({ cls := "FlexibleBoxesModel", name := "layKids", desc := "(I)V" } : Jvm.MethodName) prog_8_method_16_code (4 : Nat) (Option.none : Option Jvm.ClassFile.FieldType)) ∈ zU := zin4 (List.mem_of_getElem? (i := 157) rfl) rfl
theorem zm_4_158 : (Jvm.Cond.methodLink "FlexibleBoxesModel" (80 : Nat) ({ cls := "FlexibleBoxesModel", name := "isChild", desc := "(II)Z" } : Jvm.MethodName)) ∈ zU := zin4 (List.mem_of_getElem? (i := 158) rfl) rfl
theorem zm_4_160 : (Jvm.Cond.instanceMethod ({ cls := "FlexibleBoxesModel", name := "isChild", desc := "(II)Z" } : Jvm.MethodName)) ∈ zU := zin4 (List.mem_of_getElem? (i := 160) rfl) rfl
theorem zm_4_161 : (Jvm.Cond.code ({ cls := "FlexibleBoxesModel", name := "isChild", desc := "(II)Z" } : Jvm.MethodName) prog_8_method_14_code (3 : Nat) (Option.some Jvm.ClassFile.FieldType.boolean)) ∈ zU := zin4 (List.mem_of_getElem? (i := 161) rfl) rfl
theorem zm_4_162 : (Jvm.Cond.methodLink "FlexibleBoxesModel" (73 : Nat) ({ cls := "FlexibleBoxesModel", name := "of", desc := "(II)I" } : Jvm.MethodName)) ∈ zU := zin4 (List.mem_of_getElem? (i := 162) rfl) rfl
theorem zm_4_164 : (Jvm.Cond.instanceMethod ({ cls := "FlexibleBoxesModel", name := "of", desc := "(II)I" } : Jvm.MethodName)) ∈ zU := zin4 (List.mem_of_getElem? (i := 164) rfl) rfl
theorem zm_4_165 : (Jvm.Cond.code ({ cls := "FlexibleBoxesModel", name := "of", desc := "(II)I" } : Jvm.MethodName) prog_8_method_7_code (3 : Nat) (Option.some Jvm.ClassFile.FieldType.int)) ∈ zU := zin4 (List.mem_of_getElem? (i := 165) rfl) rfl
theorem zm_4_166 : (Jvm.Cond.methodLink "FlexibleBoxesModel" (84 : Nat) ({ cls := "FlexibleBoxesModel", name := "isAhead", desc := "(II)Z" } : Jvm.MethodName)) ∈ zU := zin4 (List.mem_of_getElem? (i := 166) rfl) rfl
theorem zm_4_168 : (Jvm.Cond.instanceMethod ({ cls := "FlexibleBoxesModel", name := "isAhead", desc := "(II)Z" } : Jvm.MethodName)) ∈ zU := zin4 (List.mem_of_getElem? (i := 168) rfl) rfl
theorem zm_4_169 : (Jvm.Cond.code ({ cls := "FlexibleBoxesModel", name := "isAhead", desc := "(II)Z" } : Jvm.MethodName) prog_8_method_15_code (4 : Nat) (Option.some Jvm.ClassFile.FieldType.boolean)) ∈ zU := zin4 (List.mem_of_getElem? (i := 169) rfl) rfl
theorem zm_4_170 : (Jvm.Cond.methodLink "FlexibleBoxesLaw" (111 : Nat) ({ cls := "FlexibleBoxesModel", name := "set", desc := "(III)I" } : Jvm.MethodName)) ∈ zU := zin4 (List.mem_of_getElem? (i := 170) rfl) rfl
theorem zm_4_171 : (Jvm.Cond.instanceMethod ({ cls := "FlexibleBoxesModel", name := "set", desc := "(III)I" } : Jvm.MethodName)) ∈ zU := zin4 (List.mem_of_getElem? (i := 171) rfl) rfl
theorem zm_4_172 : (Jvm.Cond.selects "FlexibleBoxesModel" ({ cls := "FlexibleBoxesModel", name := "set", desc := "(III)I" } : Jvm.MethodName) ({ cls := "FlexibleBoxesModel", name := "set", desc := "(III)I" } : Jvm.MethodName)) ∈ zU := zin4 (List.mem_of_getElem? (i := 172) rfl) rfl
theorem zm_4_173 : (Jvm.Cond.code ({ cls := "FlexibleBoxesModel", name := "set", desc := "(III)I" } : Jvm.MethodName) prog_8_method_19_code (5 : Nat) (Option.some Jvm.ClassFile.FieldType.int)) ∈ zU := zin4 (List.mem_of_getElem? (i := 173) rfl) rfl
theorem zm_4_174 : (Jvm.Cond.methodLink "FlexibleBoxesModel" (91 : Nat) ({ cls := "FlexibleBoxesModel", name := "low", desc := "(I)I" } : Jvm.MethodName)) ∈ zU := zin4 (List.mem_of_getElem? (i := 174) rfl) rfl
theorem zm_4_175 : (Jvm.Cond.static ({ cls := "FlexibleBoxesModel", name := "low", desc := "(I)I" } : Jvm.MethodName)) ∈ zU := zin4 (List.mem_of_getElem? (i := 175) rfl) rfl
theorem zm_4_176 : (Jvm.Cond.code ({ cls := "FlexibleBoxesModel", name := "low", desc := "(I)I" } : Jvm.MethodName) prog_8_method_4_code (1 : Nat) (Option.some Jvm.ClassFile.FieldType.int)) ∈ zU := zin4 (List.mem_of_getElem? (i := 176) rfl) rfl
theorem zm_4_177 : (Jvm.Cond.methodLink "FlexibleBoxesModel" (94 : Nat) ({ cls := "FlexibleBoxesModel", name := "high", desc := "(I)I" } : Jvm.MethodName)) ∈ zU := zin4 (List.mem_of_getElem? (i := 177) rfl) rfl
theorem zm_4_178 : (Jvm.Cond.static ({ cls := "FlexibleBoxesModel", name := "high", desc := "(I)I" } : Jvm.MethodName)) ∈ zU := zin4 (List.mem_of_getElem? (i := 178) rfl) rfl
theorem zm_4_179 : (Jvm.Cond.code ({ cls := "FlexibleBoxesModel", name := "high", desc := "(I)I" } : Jvm.MethodName) prog_8_method_5_code (1 : Nat) (Option.some Jvm.ClassFile.FieldType.int)) ∈ zU := zin4 (List.mem_of_getElem? (i := 179) rfl) rfl
theorem zm_4_180 : (Jvm.Cond.methodLink "FlexibleBoxesLaw" (114 : Nat) ({ cls := "FlexibleBoxesModel", name := "get", desc := "(II)I" } : Jvm.MethodName)) ∈ zU := zin4 (List.mem_of_getElem? (i := 180) rfl) rfl
theorem zm_4_181 : (Jvm.Cond.instanceMethod ({ cls := "FlexibleBoxesModel", name := "get", desc := "(II)I" } : Jvm.MethodName)) ∈ zU := zin4 (List.mem_of_getElem? (i := 181) rfl) rfl
theorem zm_4_182 : (Jvm.Cond.selects "FlexibleBoxesModel" ({ cls := "FlexibleBoxesModel", name := "get", desc := "(II)I" } : Jvm.MethodName) ({ cls := "FlexibleBoxesModel", name := "get", desc := "(II)I" } : Jvm.MethodName)) ∈ zU := zin4 (List.mem_of_getElem? (i := 182) rfl) rfl
theorem zm_4_183 : (Jvm.Cond.code ({ cls := "FlexibleBoxesModel", name := "get", desc := "(II)I" } : Jvm.MethodName) prog_8_method_20_code (3 : Nat) (Option.some Jvm.ClassFile.FieldType.int)) ∈ zU := zin4 (List.mem_of_getElem? (i := 183) rfl) rfl
theorem zm_4_184 : (Jvm.Cond.methodLink "FlexibleBoxesLaw" (117 : Nat) ({ cls := "FlexibleBoxesModel", name := "copyStyle", desc := "(II)I" } : Jvm.MethodName)) ∈ zU := zin4 (List.mem_of_getElem? (i := 184) rfl) rfl
theorem zm_4_185 : (Jvm.Cond.instanceMethod ({ cls := "FlexibleBoxesModel", name := "copyStyle", desc := "(II)I" } : Jvm.MethodName)) ∈ zU := zin4 (List.mem_of_getElem? (i := 185) rfl) rfl
theorem zm_4_186 : (Jvm.Cond.selects "FlexibleBoxesModel" ({ cls := "FlexibleBoxesModel", name := "copyStyle", desc := "(II)I" } : Jvm.MethodName) ({ cls := "FlexibleBoxesModel", name := "copyStyle", desc := "(II)I" } : Jvm.MethodName)) ∈ zU := zin4 (List.mem_of_getElem? (i := 186) rfl) rfl
theorem zm_4_187 : (Jvm.Cond.code ({ cls := "FlexibleBoxesModel", name := "copyStyle", desc := "(II)I" } : Jvm.MethodName) prog_8_method_21_code (5 : Nat) (Option.some Jvm.ClassFile.FieldType.int)) ∈ zU := zin4 (List.mem_of_getElem? (i := 187) rfl) rfl
theorem zm_4_188 : (Jvm.Cond.methodLink "FlexibleBoxesLaw" (121 : Nat) ({ cls := "FlexibleBoxesModel", name := "viewport", desc := "(II)V" } : Jvm.MethodName)) ∈ zU := zin4 (List.mem_of_getElem? (i := 188) rfl) rfl
theorem zm_4_189 : (Jvm.Cond.instanceMethod ({ cls := "FlexibleBoxesModel", name := "viewport", desc := "(II)V" } : Jvm.MethodName)) ∈ zU := zin4 (List.mem_of_getElem? (i := 189) rfl) rfl
theorem zm_4_190 : (Jvm.Cond.selects "FlexibleBoxesModel" ({ cls := "FlexibleBoxesModel", name := "viewport", desc := "(II)V" } : Jvm.MethodName) ({ cls := "FlexibleBoxesModel", name := "viewport", desc := "(II)V" } : Jvm.MethodName)) ∈ zU := zin4 (List.mem_of_getElem? (i := 190) rfl) rfl
theorem zm_4_191 : (Jvm.Cond.code ({ cls := "FlexibleBoxesModel", name := "viewport", desc := "(II)V" } : Jvm.MethodName) prog_8_method_22_code (3 : Nat) (Option.none : Option Jvm.ClassFile.FieldType)) ∈ zU := zin4 (List.mem_of_getElem? (i := 191) rfl) rfl
theorem zm_4_192 : (Jvm.Cond.methodLink "FlexibleBoxesLaw" (124 : Nat) ({ cls := "FlexibleBoxesModel", name := "x", desc := "(I)I" } : Jvm.MethodName)) ∈ zU := zin4 (List.mem_of_getElem? (i := 192) rfl) rfl
theorem zm_4_193 : (Jvm.Cond.instanceMethod ({ cls := "FlexibleBoxesModel", name := "x", desc := "(I)I" } : Jvm.MethodName)) ∈ zU := zin4 (List.mem_of_getElem? (i := 193) rfl) rfl
theorem zm_4_194 : (Jvm.Cond.selects "FlexibleBoxesModel" ({ cls := "FlexibleBoxesModel", name := "x", desc := "(I)I" } : Jvm.MethodName) ({ cls := "FlexibleBoxesModel", name := "x", desc := "(I)I" } : Jvm.MethodName)) ∈ zU := zin4 (List.mem_of_getElem? (i := 194) rfl) rfl
theorem zm_4_195 : (Jvm.Cond.code ({ cls := "FlexibleBoxesModel", name := "x", desc := "(I)I" } : Jvm.MethodName) prog_8_method_57_code (2 : Nat) (Option.some Jvm.ClassFile.FieldType.int)) ∈ zU := zin4 (List.mem_of_getElem? (i := 195) rfl) rfl
theorem zm_4_196 : (Jvm.Cond.methodLink "FlexibleBoxesModel" (208 : Nat) ({ cls := "FlexibleBoxesModel", name := "hasLayout", desc := "(I)Z" } : Jvm.MethodName)) ∈ zU := zin4 (List.mem_of_getElem? (i := 196) rfl) rfl
theorem zm_4_198 : (Jvm.Cond.instanceMethod ({ cls := "FlexibleBoxesModel", name := "hasLayout", desc := "(I)Z" } : Jvm.MethodName)) ∈ zU := zin4 (List.mem_of_getElem? (i := 198) rfl) rfl
theorem zm_4_199 : (Jvm.Cond.code ({ cls := "FlexibleBoxesModel", name := "hasLayout", desc := "(I)Z" } : Jvm.MethodName) prog_8_method_56_code (2 : Nat) (Option.some Jvm.ClassFile.FieldType.boolean)) ∈ zU := zin4 (List.mem_of_getElem? (i := 199) rfl) rfl
theorem zm_4_200 : (Jvm.Cond.methodLink "FlexibleBoxesModel" (190 : Nat) ({ cls := "FlexibleBoxesModel", name := "findShown", desc := "()V" } : Jvm.MethodName)) ∈ zU := zin4 (List.mem_of_getElem? (i := 200) rfl) rfl
theorem zm_4_202 : (Jvm.Cond.instanceMethod ({ cls := "FlexibleBoxesModel", name := "findShown", desc := "()V" } : Jvm.MethodName)) ∈ zU := zin4 (List.mem_of_getElem? (i := 202) rfl) rfl
theorem zm_4_203 : (Jvm.Cond.code ({ cls := "FlexibleBoxesModel", name := "findShown", desc := "()V" } : Jvm.MethodName) prog_8_method_23_code (2 : Nat) (Option.none : Option Jvm.ClassFile.FieldType)) ∈ zU := zin4 (List.mem_of_getElem? (i := 203) rfl) rfl
theorem zm_4_204 : (Jvm.Cond.methodLink "FlexibleBoxesModel" (205 : Nat) ({ cls := "FlexibleBoxesModel", name := "layOut", desc := "()V" } : Jvm.MethodName)) ∈ zU := zin4 (List.mem_of_getElem? (i := 204) rfl) rfl
theorem zm_4_206 : (Jvm.Cond.instanceMethod ({ cls := "FlexibleBoxesModel", name := "layOut", desc := "()V" } : Jvm.MethodName)) ∈ zU := zin4 (List.mem_of_getElem? (i := 206) rfl) rfl
theorem zm_4_207 : (Jvm.Cond.code ({ cls := "FlexibleBoxesModel", name := "layOut", desc := "()V" } : Jvm.MethodName) prog_8_method_55_code (1 : Nat) (Option.none : Option Jvm.ClassFile.FieldType)) ∈ zU := zin4 (List.mem_of_getElem? (i := 207) rfl) rfl
theorem zm_4_208 : (Jvm.Cond.methodLink "FlexibleBoxesModel" (193 : Nat) ({ cls := "FlexibleBoxesModel", name := "findNaturalWidths", desc := "()V" } : Jvm.MethodName)) ∈ zU := zin4 (List.mem_of_getElem? (i := 208) rfl) rfl
theorem zm_4_210 : (Jvm.Cond.instanceMethod ({ cls := "FlexibleBoxesModel", name := "findNaturalWidths", desc := "()V" } : Jvm.MethodName)) ∈ zU := zin4 (List.mem_of_getElem? (i := 210) rfl) rfl
theorem zm_4_211 : (Jvm.Cond.code ({ cls := "FlexibleBoxesModel", name := "findNaturalWidths", desc := "()V" } : Jvm.MethodName) prog_8_method_31_code (3 : Nat) (Option.none : Option Jvm.ClassFile.FieldType)) ∈ zU := zin4 (List.mem_of_getElem? (i := 211) rfl) rfl
theorem zm_4_212 : (Jvm.Cond.methodLink "FlexibleBoxesModel" (110 : Nat) ({ cls := "FlexibleBoxesModel", name := "isLeaf", desc := "(I)Z" } : Jvm.MethodName)) ∈ zU := zin4 (List.mem_of_getElem? (i := 212) rfl) rfl
theorem zm_4_214 : (Jvm.Cond.instanceMethod ({ cls := "FlexibleBoxesModel", name := "isLeaf", desc := "(I)Z" } : Jvm.MethodName)) ∈ zU := zin4 (List.mem_of_getElem? (i := 214) rfl) rfl
theorem zm_4_215 : (Jvm.Cond.code ({ cls := "FlexibleBoxesModel", name := "isLeaf", desc := "(I)Z" } : Jvm.MethodName) prog_8_method_17_code (3 : Nat) (Option.some Jvm.ClassFile.FieldType.boolean)) ∈ zU := zin4 (List.mem_of_getElem? (i := 215) rfl) rfl
theorem zm_4_216 : (Jvm.Cond.methodLink "FlexibleBoxesModel" (113 : Nat) ({ cls := "FlexibleBoxesModel", name := "content", desc := "(IIZ)I" } : Jvm.MethodName)) ∈ zU := zin4 (List.mem_of_getElem? (i := 216) rfl) rfl
theorem zm_4_218 : (Jvm.Cond.instanceMethod ({ cls := "FlexibleBoxesModel", name := "content", desc := "(IIZ)I" } : Jvm.MethodName)) ∈ zU := zin4 (List.mem_of_getElem? (i := 218) rfl) rfl
theorem zm_4_219 : (Jvm.Cond.code ({ cls := "FlexibleBoxesModel", name := "content", desc := "(IIZ)I" } : Jvm.MethodName) prog_8_method_29_code (8 : Nat) (Option.some Jvm.ClassFile.FieldType.int)) ∈ zU := zin4 (List.mem_of_getElem? (i := 219) rfl) rfl
theorem zm_4_220 : (Jvm.Cond.methodLink "FlexibleBoxesModel" (100 : Nat) ({ cls := "FlexibleBoxesModel", name := "outer", desc := "(II)I" } : Jvm.MethodName)) ∈ zU := zin4 (List.mem_of_getElem? (i := 220) rfl) rfl
theorem zm_4_222 : (Jvm.Cond.instanceMethod ({ cls := "FlexibleBoxesModel", name := "outer", desc := "(II)I" } : Jvm.MethodName)) ∈ zU := zin4 (List.mem_of_getElem? (i := 222) rfl) rfl
theorem zm_4_223 : (Jvm.Cond.code ({ cls := "FlexibleBoxesModel", name := "outer", desc := "(II)I" } : Jvm.MethodName) prog_8_method_27_code (3 : Nat) (Option.some Jvm.ClassFile.FieldType.int)) ∈ zU := zin4 (List.mem_of_getElem? (i := 223) rfl) rfl
theorem zm_4_224 : (Jvm.Cond.methodLink "FlexibleBoxesModel" (103 : Nat) ({ cls := "FlexibleBoxesModel", name := "gapsOf", desc := "(II)I" } : Jvm.MethodName)) ∈ zU := zin4 (List.mem_of_getElem? (i := 224) rfl) rfl
theorem zm_4_226 : (Jvm.Cond.instanceMethod ({ cls := "FlexibleBoxesModel", name := "gapsOf", desc := "(II)I" } : Jvm.MethodName)) ∈ zU := zin4 (List.mem_of_getElem? (i := 226) rfl) rfl
theorem zm_4_227 : (Jvm.Cond.code ({ cls := "FlexibleBoxesModel", name := "gapsOf", desc := "(II)I" } : Jvm.MethodName) prog_8_method_28_code (3 : Nat) (Option.some Jvm.ClassFile.FieldType.int)) ∈ zU := zin4 (List.mem_of_getElem? (i := 227) rfl) rfl
theorem zm_4_228 : (Jvm.Cond.methodLink "FlexibleBoxesModel" (117 : Nat) ({ cls := "FlexibleBoxesModel", name := "setNatural", desc := "(III)V" } : Jvm.MethodName)) ∈ zU := zin4 (List.mem_of_getElem? (i := 228) rfl) rfl
theorem zm_4_230 : (Jvm.Cond.instanceMethod ({ cls := "FlexibleBoxesModel", name := "setNatural", desc := "(III)V" } : Jvm.MethodName)) ∈ zU := zin4 (List.mem_of_getElem? (i := 230) rfl) rfl
theorem zm_4_231 : (Jvm.Cond.code ({ cls := "FlexibleBoxesModel", name := "setNatural", desc := "(III)V" } : Jvm.MethodName) prog_8_method_30_code (6 : Nat) (Option.none : Option Jvm.ClassFile.FieldType)) ∈ zU := zin4 (List.mem_of_getElem? (i := 231) rfl) rfl
theorem zm_4_232 : (Jvm.Cond.methodLink "FlexibleBoxesModel" (106 : Nat) ({ cls := "FlexibleBoxesModel", name := "limited", desc := "(III)I" } : Jvm.MethodName)) ∈ zU := zin4 (List.mem_of_getElem? (i := 232) rfl) rfl
theorem zm_4_234 : (Jvm.Cond.instanceMethod ({ cls := "FlexibleBoxesModel", name := "limited", desc := "(III)I" } : Jvm.MethodName)) ∈ zU := zin4 (List.mem_of_getElem? (i := 234) rfl) rfl
theorem zm_4_235 : (Jvm.Cond.code ({ cls := "FlexibleBoxesModel", name := "limited", desc := "(III)I" } : Jvm.MethodName) prog_8_method_24_code (7 : Nat) (Option.some Jvm.ClassFile.FieldType.int)) ∈ zU := zin4 (List.mem_of_getElem? (i := 235) rfl) rfl
theorem zm_4_236 : (Jvm.Cond.methodLink "FlexibleBoxesModel" (196 : Nat) ({ cls := "FlexibleBoxesModel", name := "findWidths", desc := "()V" } : Jvm.MethodName)) ∈ zU := zin4 (List.mem_of_getElem? (i := 236) rfl) rfl
theorem zm_4_238 : (Jvm.Cond.instanceMethod ({ cls := "FlexibleBoxesModel", name := "findWidths", desc := "()V" } : Jvm.MethodName)) ∈ zU := zin4 (List.mem_of_getElem? (i := 238) rfl) rfl
theorem zm_4_239 : (Jvm.Cond.code ({ cls := "FlexibleBoxesModel", name := "findWidths", desc := "()V" } : Jvm.MethodName) prog_8_method_44_code (2 : Nat) (Option.none : Option Jvm.ClassFile.FieldType)) ∈ zU := zin4 (List.mem_of_getElem? (i := 239) rfl) rfl
theorem zm_5_0 : (Jvm.Cond.methodLink "FlexibleBoxesModel" (154 : Nat) ({ cls := "FlexibleBoxesModel", name := "textLines", desc := "(I)I" } : Jvm.MethodName)) ∈ zU := zin5 (List.mem_of_getElem? (i := 0) rfl) rfl
theorem zm_5_2 : (Jvm.Cond.instanceMethod ({ cls := "FlexibleBoxesModel", name := "textLines", desc := "(I)I" } : Jvm.MethodName)) ∈ zU := zin5 (List.mem_of_getElem? (i := 2) rfl) rfl
theorem zm_5_3 : (Jvm.Cond.code ({ cls := "FlexibleBoxesModel", name := "textLines", desc := "(I)I" } : Jvm.MethodName) prog_8_method_43_code (3 : Nat) (Option.some Jvm.ClassFile.FieldType.int)) ∈ zU := zin5 (List.mem_of_getElem? (i := 3) rfl) rfl
theorem zm_5_4 : (Jvm.Cond.methodLink "FlexibleBoxesModel" (141 : Nat) ({ cls := "FlexibleBoxesModel", name := "inner", desc := "(II)I" } : Jvm.MethodName)) ∈ zU := zin5 (List.mem_of_getElem? (i := 4) rfl) rfl
theorem zm_5_6 : (Jvm.Cond.instanceMethod ({ cls := "FlexibleBoxesModel", name := "inner", desc := "(II)I" } : Jvm.MethodName)) ∈ zU := zin5 (List.mem_of_getElem? (i := 6) rfl) rfl
theorem zm_5_7 : (Jvm.Cond.code ({ cls := "FlexibleBoxesModel", name := "inner", desc := "(II)I" } : Jvm.MethodName) prog_8_method_26_code (3 : Nat) (Option.some Jvm.ClassFile.FieldType.int)) ∈ zU := zin5 (List.mem_of_getElem? (i := 7) rfl) rfl
theorem zm_5_8 : (Jvm.Cond.methodLink "FlexibleBoxesModel" (97 : Nat) ({ cls := "FlexibleBoxesModel", name := "notNegative", desc := "(I)I" } : Jvm.MethodName)) ∈ zU := zin5 (List.mem_of_getElem? (i := 8) rfl) rfl
theorem zm_5_9 : (Jvm.Cond.static ({ cls := "FlexibleBoxesModel", name := "notNegative", desc := "(I)I" } : Jvm.MethodName)) ∈ zU := zin5 (List.mem_of_getElem? (i := 9) rfl) rfl
theorem zm_5_10 : (Jvm.Cond.code ({ cls := "FlexibleBoxesModel", name := "notNegative", desc := "(I)I" } : Jvm.MethodName) prog_8_method_25_code (1 : Nat) (Option.some Jvm.ClassFile.FieldType.int)) ∈ zU := zin5 (List.mem_of_getElem? (i := 10) rfl) rfl
theorem zm_5_11 : (Jvm.Cond.methodLink "FlexibleBoxesModel" (157 : Nat) ({ cls := "FlexibleBoxesModel", name := "findColumnWidths", desc := "(I)V" } : Jvm.MethodName)) ∈ zU := zin5 (List.mem_of_getElem? (i := 11) rfl) rfl
theorem zm_5_13 : (Jvm.Cond.instanceMethod ({ cls := "FlexibleBoxesModel", name := "findColumnWidths", desc := "(I)V" } : Jvm.MethodName)) ∈ zU := zin5 (List.mem_of_getElem? (i := 13) rfl) rfl
theorem zm_5_14 : (Jvm.Cond.code ({ cls := "FlexibleBoxesModel", name := "findColumnWidths", desc := "(I)V" } : Jvm.MethodName) prog_8_method_42_code (7 : Nat) (Option.none : Option Jvm.ClassFile.FieldType)) ∈ zU := zin5 (List.mem_of_getElem? (i := 14) rfl) rfl
theorem zm_5_15 : (Jvm.Cond.methodLink "FlexibleBoxesModel" (151 : Nat) ({ cls := "FlexibleBoxesModel", name := "alignment", desc := "(I)I" } : Jvm.MethodName)) ∈ zU := zin5 (List.mem_of_getElem? (i := 15) rfl) rfl
theorem zm_5_17 : (Jvm.Cond.instanceMethod ({ cls := "FlexibleBoxesModel", name := "alignment", desc := "(I)I" } : Jvm.MethodName)) ∈ zU := zin5 (List.mem_of_getElem? (i := 17) rfl) rfl
theorem zm_5_18 : (Jvm.Cond.code ({ cls := "FlexibleBoxesModel", name := "alignment", desc := "(I)I" } : Jvm.MethodName) prog_8_method_32_code (2 : Nat) (Option.some Jvm.ClassFile.FieldType.int)) ∈ zU := zin5 (List.mem_of_getElem? (i := 18) rfl) rfl
theorem zm_5_19 : (Jvm.Cond.methodLink "FlexibleBoxesModel" (160 : Nat) ({ cls := "FlexibleBoxesModel", name := "findLines", desc := "(I)V" } : Jvm.MethodName)) ∈ zU := zin5 (List.mem_of_getElem? (i := 19) rfl) rfl
theorem zm_5_21 : (Jvm.Cond.instanceMethod ({ cls := "FlexibleBoxesModel", name := "findLines", desc := "(I)V" } : Jvm.MethodName)) ∈ zU := zin5 (List.mem_of_getElem? (i := 21) rfl) rfl
theorem zm_5_22 : (Jvm.Cond.code ({ cls := "FlexibleBoxesModel", name := "findLines", desc := "(I)V" } : Jvm.MethodName) prog_8_method_41_code (6 : Nat) (Option.none : Option Jvm.ClassFile.FieldType)) ∈ zU := zin5 (List.mem_of_getElem? (i := 22) rfl) rfl
theorem zm_5_23 : (Jvm.Cond.methodLink "FlexibleBoxesModel" (144 : Nat) ({ cls := "FlexibleBoxesModel", name := "endOfLine", desc := "(II)I" } : Jvm.MethodName)) ∈ zU := zin5 (List.mem_of_getElem? (i := 23) rfl) rfl
theorem zm_5_25 : (Jvm.Cond.instanceMethod ({ cls := "FlexibleBoxesModel", name := "endOfLine", desc := "(II)I" } : Jvm.MethodName)) ∈ zU := zin5 (List.mem_of_getElem? (i := 25) rfl) rfl
theorem zm_5_26 : (Jvm.Cond.code ({ cls := "FlexibleBoxesModel", name := "endOfLine", desc := "(II)I" } : Jvm.MethodName) prog_8_method_40_code (8 : Nat) (Option.some Jvm.ClassFile.FieldType.int)) ∈ zU := zin5 (List.mem_of_getElem? (i := 26) rfl) rfl
theorem zm_5_27 : (Jvm.Cond.methodLink "FlexibleBoxesModel" (124 : Nat) ({ cls := "FlexibleBoxesModel", name := "startOf", desc := "(II)I" } : Jvm.MethodName)) ∈ zU := zin5 (List.mem_of_getElem? (i := 27) rfl) rfl
theorem zm_5_29 : (Jvm.Cond.instanceMethod ({ cls := "FlexibleBoxesModel", name := "startOf", desc := "(II)I" } : Jvm.MethodName)) ∈ zU := zin5 (List.mem_of_getElem? (i := 29) rfl) rfl
theorem zm_5_30 : (Jvm.Cond.code ({ cls := "FlexibleBoxesModel", name := "startOf", desc := "(II)I" } : Jvm.MethodName) prog_8_method_34_code (3 : Nat) (Option.some Jvm.ClassFile.FieldType.int)) ∈ zU := zin5 (List.mem_of_getElem? (i := 30) rfl) rfl
theorem zm_5_31 : (Jvm.Cond.methodLink "FlexibleBoxesModel" (121 : Nat) ({ cls := "FlexibleBoxesModel", name := "baseOf", desc := "(II)I" } : Jvm.MethodName)) ∈ zU := zin5 (List.mem_of_getElem? (i := 31) rfl) rfl
theorem zm_5_33 : (Jvm.Cond.instanceMethod ({ cls := "FlexibleBoxesModel", name := "baseOf", desc := "(II)I" } : Jvm.MethodName)) ∈ zU := zin5 (List.mem_of_getElem? (i := 33) rfl) rfl
theorem zm_5_34 : (Jvm.Cond.code ({ cls := "FlexibleBoxesModel", name := "baseOf", desc := "(II)I" } : Jvm.MethodName) prog_8_method_33_code (3 : Nat) (Option.some Jvm.ClassFile.FieldType.int)) ∈ zU := zin5 (List.mem_of_getElem? (i := 34) rfl) rfl
theorem zm_5_35 : (Jvm.Cond.methodLink "FlexibleBoxesModel" (147 : Nat) ({ cls := "FlexibleBoxesModel", name := "flex", desc := "(IIIII)V" } : Jvm.MethodName)) ∈ zU := zin5 (List.mem_of_getElem? (i := 35) rfl) rfl
theorem zm_5_37 : (Jvm.Cond.instanceMethod ({ cls := "FlexibleBoxesModel", name := "flex", desc := "(IIIII)V" } : Jvm.MethodName)) ∈ zU := zin5 (List.mem_of_getElem? (i := 37) rfl) rfl
theorem zm_5_38 : (Jvm.Cond.code ({ cls := "FlexibleBoxesModel", name := "flex", desc := "(IIIII)V" } : Jvm.MethodName) prog_8_method_39_code (9 : Nat) (Option.none : Option Jvm.ClassFile.FieldType)) ∈ zU := zin5 (List.mem_of_getElem? (i := 38) rfl) rfl
theorem zm_5_39 : (Jvm.Cond.methodLink "FlexibleBoxesModel" (130 : Nat) ({ cls := "FlexibleBoxesModel", name := "beginFlex", desc := "(IIIII)Z" } : Jvm.MethodName)) ∈ zU := zin5 (List.mem_of_getElem? (i := 39) rfl) rfl
theorem zm_5_41 : (Jvm.Cond.instanceMethod ({ cls := "FlexibleBoxesModel", name := "beginFlex", desc := "(IIIII)Z" } : Jvm.MethodName)) ∈ zU := zin5 (List.mem_of_getElem? (i := 41) rfl) rfl
theorem zm_5_42 : (Jvm.Cond.code ({ cls := "FlexibleBoxesModel", name := "beginFlex", desc := "(IIIII)Z" } : Jvm.MethodName) prog_8_method_35_code (12 : Nat) (Option.some Jvm.ClassFile.FieldType.boolean)) ∈ zU := zin5 (List.mem_of_getElem? (i := 42) rfl) rfl
theorem zm_5_43 : (Jvm.Cond.methodLink "FlexibleBoxesModel" (134 : Nat) ({ cls := "FlexibleBoxesModel", name := "propose", desc := "(IIIIIZ)V" } : Jvm.MethodName)) ∈ zU := zin5 (List.mem_of_getElem? (i := 43) rfl) rfl
theorem zm_5_45 : (Jvm.Cond.instanceMethod ({ cls := "FlexibleBoxesModel", name := "propose", desc := "(IIIIIZ)V" } : Jvm.MethodName)) ∈ zU := zin5 (List.mem_of_getElem? (i := 45) rfl) rfl
theorem zm_5_46 : (Jvm.Cond.code ({ cls := "FlexibleBoxesModel", name := "propose", desc := "(IIIIIZ)V" } : Jvm.MethodName) prog_8_method_36_code (21 : Nat) (Option.none : Option Jvm.ClassFile.FieldType)) ∈ zU := zin5 (List.mem_of_getElem? (i := 46) rfl) rfl
theorem zm_5_47 : (Jvm.Cond.methodLink "FlexibleBoxesModel" (138 : Nat) ({ cls := "FlexibleBoxesModel", name := "fixSome", desc := "(III)I" } : Jvm.MethodName)) ∈ zU := zin5 (List.mem_of_getElem? (i := 47) rfl) rfl
theorem zm_5_49 : (Jvm.Cond.instanceMethod ({ cls := "FlexibleBoxesModel", name := "fixSome", desc := "(III)I" } : Jvm.MethodName)) ∈ zU := zin5 (List.mem_of_getElem? (i := 49) rfl) rfl
theorem zm_5_50 : (Jvm.Cond.code ({ cls := "FlexibleBoxesModel", name := "fixSome", desc := "(III)I" } : Jvm.MethodName) prog_8_method_38_code (10 : Nat) (Option.some Jvm.ClassFile.FieldType.int)) ∈ zU := zin5 (List.mem_of_getElem? (i := 50) rfl) rfl
theorem zm_5_51 : (Jvm.Cond.methodLink "FlexibleBoxesModel" (127 : Nat) ({ cls := "FlexibleBoxesModel", name := "deviation", desc := "(II)I" } : Jvm.MethodName)) ∈ zU := zin5 (List.mem_of_getElem? (i := 51) rfl) rfl
theorem zm_5_53 : (Jvm.Cond.instanceMethod ({ cls := "FlexibleBoxesModel", name := "deviation", desc := "(II)I" } : Jvm.MethodName)) ∈ zU := zin5 (List.mem_of_getElem? (i := 53) rfl) rfl
theorem zm_5_54 : (Jvm.Cond.code ({ cls := "FlexibleBoxesModel", name := "deviation", desc := "(II)I" } : Jvm.MethodName) prog_8_method_37_code (3 : Nat) (Option.some Jvm.ClassFile.FieldType.int)) ∈ zU := zin5 (List.mem_of_getElem? (i := 54) rfl) rfl
theorem zm_5_55 : (Jvm.Cond.methodLink "FlexibleBoxesModel" (199 : Nat) ({ cls := "FlexibleBoxesModel", name := "findNaturalHeights", desc := "()V" } : Jvm.MethodName)) ∈ zU := zin5 (List.mem_of_getElem? (i := 55) rfl) rfl
theorem zm_5_57 : (Jvm.Cond.instanceMethod ({ cls := "FlexibleBoxesModel", name := "findNaturalHeights", desc := "()V" } : Jvm.MethodName)) ∈ zU := zin5 (List.mem_of_getElem? (i := 57) rfl) rfl
theorem zm_5_58 : (Jvm.Cond.code ({ cls := "FlexibleBoxesModel", name := "findNaturalHeights", desc := "()V" } : Jvm.MethodName) prog_8_method_47_code (3 : Nat) (Option.none : Option Jvm.ClassFile.FieldType)) ∈ zU := zin5 (List.mem_of_getElem? (i := 58) rfl) rfl
theorem zm_5_59 : (Jvm.Cond.methodLink "FlexibleBoxesModel" (166 : Nat) ({ cls := "FlexibleBoxesModel", name := "rowContent", desc := "(I)I" } : Jvm.MethodName)) ∈ zU := zin5 (List.mem_of_getElem? (i := 59) rfl) rfl
theorem zm_5_61 : (Jvm.Cond.instanceMethod ({ cls := "FlexibleBoxesModel", name := "rowContent", desc := "(I)I" } : Jvm.MethodName)) ∈ zU := zin5 (List.mem_of_getElem? (i := 61) rfl) rfl
theorem zm_5_62 : (Jvm.Cond.code ({ cls := "FlexibleBoxesModel", name := "rowContent", desc := "(I)I" } : Jvm.MethodName) prog_8_method_46_code (4 : Nat) (Option.some Jvm.ClassFile.FieldType.int)) ∈ zU := zin5 (List.mem_of_getElem? (i := 62) rfl) rfl
theorem zm_5_63 : (Jvm.Cond.methodLink "FlexibleBoxesModel" (163 : Nat) ({ cls := "FlexibleBoxesModel", name := "lineHeight", desc := "(I)I" } : Jvm.MethodName)) ∈ zU := zin5 (List.mem_of_getElem? (i := 63) rfl) rfl
theorem zm_5_65 : (Jvm.Cond.instanceMethod ({ cls := "FlexibleBoxesModel", name := "lineHeight", desc := "(I)I" } : Jvm.MethodName)) ∈ zU := zin5 (List.mem_of_getElem? (i := 65) rfl) rfl
theorem zm_5_66 : (Jvm.Cond.code ({ cls := "FlexibleBoxesModel", name := "lineHeight", desc := "(I)I" } : Jvm.MethodName) prog_8_method_45_code (5 : Nat) (Option.some Jvm.ClassFile.FieldType.int)) ∈ zU := zin5 (List.mem_of_getElem? (i := 66) rfl) rfl
theorem zm_5_67 : (Jvm.Cond.methodLink "FlexibleBoxesModel" (202 : Nat) ({ cls := "FlexibleBoxesModel", name := "findPlaces", desc := "()V" } : Jvm.MethodName)) ∈ zU := zin5 (List.mem_of_getElem? (i := 67) rfl) rfl
theorem zm_5_69 : (Jvm.Cond.instanceMethod ({ cls := "FlexibleBoxesModel", name := "findPlaces", desc := "()V" } : Jvm.MethodName)) ∈ zU := zin5 (List.mem_of_getElem? (i := 69) rfl) rfl
theorem zm_5_70 : (Jvm.Cond.code ({ cls := "FlexibleBoxesModel", name := "findPlaces", desc := "()V" } : Jvm.MethodName) prog_8_method_54_code (2 : Nat) (Option.none : Option Jvm.ClassFile.FieldType)) ∈ zU := zin5 (List.mem_of_getElem? (i := 70) rfl) rfl
theorem zm_5_71 : (Jvm.Cond.methodLink "FlexibleBoxesModel" (184 : Nat) ({ cls := "FlexibleBoxesModel", name := "placeColumn", desc := "(I)V" } : Jvm.MethodName)) ∈ zU := zin5 (List.mem_of_getElem? (i := 71) rfl) rfl
theorem zm_5_73 : (Jvm.Cond.instanceMethod ({ cls := "FlexibleBoxesModel", name := "placeColumn", desc := "(I)V" } : Jvm.MethodName)) ∈ zU := zin5 (List.mem_of_getElem? (i := 73) rfl) rfl
theorem zm_5_74 : (Jvm.Cond.code ({ cls := "FlexibleBoxesModel", name := "placeColumn", desc := "(I)V" } : Jvm.MethodName) prog_8_method_51_code (3 : Nat) (Option.none : Option Jvm.ClassFile.FieldType)) ∈ zU := zin5 (List.mem_of_getElem? (i := 74) rfl) rfl
theorem zm_5_75 : (Jvm.Cond.methodLink "FlexibleBoxesModel" (173 : Nat) ({ cls := "FlexibleBoxesModel", name := "justify", desc := "(IIII)V" } : Jvm.MethodName)) ∈ zU := zin5 (List.mem_of_getElem? (i := 75) rfl) rfl
theorem zm_5_77 : (Jvm.Cond.instanceMethod ({ cls := "FlexibleBoxesModel", name := "justify", desc := "(IIII)V" } : Jvm.MethodName)) ∈ zU := zin5 (List.mem_of_getElem? (i := 77) rfl) rfl
theorem zm_5_78 : (Jvm.Cond.code ({ cls := "FlexibleBoxesModel", name := "justify", desc := "(IIII)V" } : Jvm.MethodName) prog_8_method_49_code (10 : Nat) (Option.none : Option Jvm.ClassFile.FieldType)) ∈ zU := zin5 (List.mem_of_getElem? (i := 78) rfl) rfl
theorem zm_5_79 : (Jvm.Cond.methodLink "FlexibleBoxesModel" (169 : Nat) ({ cls := "FlexibleBoxesModel", name := "moved", desc := "(IIII)I" } : Jvm.MethodName)) ∈ zU := zin5 (List.mem_of_getElem? (i := 79) rfl) rfl
theorem zm_5_80 : (Jvm.Cond.static ({ cls := "FlexibleBoxesModel", name := "moved", desc := "(IIII)I" } : Jvm.MethodName)) ∈ zU := zin5 (List.mem_of_getElem? (i := 80) rfl) rfl
theorem zm_5_81 : (Jvm.Cond.code ({ cls := "FlexibleBoxesModel", name := "moved", desc := "(IIII)I" } : Jvm.MethodName) prog_8_method_48_code (4 : Nat) (Option.some Jvm.ClassFile.FieldType.int)) ∈ zU := zin5 (List.mem_of_getElem? (i := 81) rfl) rfl
theorem zm_5_82 : (Jvm.Cond.methodLink "FlexibleBoxesModel" (177 : Nat) ({ cls := "FlexibleBoxesModel", name := "align", desc := "(IIII)V" } : Jvm.MethodName)) ∈ zU := zin5 (List.mem_of_getElem? (i := 82) rfl) rfl
theorem zm_5_84 : (Jvm.Cond.instanceMethod ({ cls := "FlexibleBoxesModel", name := "align", desc := "(IIII)V" } : Jvm.MethodName)) ∈ zU := zin5 (List.mem_of_getElem? (i := 84) rfl) rfl
theorem zm_5_85 : (Jvm.Cond.code ({ cls := "FlexibleBoxesModel", name := "align", desc := "(IIII)V" } : Jvm.MethodName) prog_8_method_50_code (8 : Nat) (Option.none : Option Jvm.ClassFile.FieldType)) ∈ zU := zin5 (List.mem_of_getElem? (i := 85) rfl) rfl
theorem zm_5_86 : (Jvm.Cond.methodLink "FlexibleBoxesModel" (187 : Nat) ({ cls := "FlexibleBoxesModel", name := "placeRow", desc := "(I)V" } : Jvm.MethodName)) ∈ zU := zin5 (List.mem_of_getElem? (i := 86) rfl) rfl
theorem zm_5_88 : (Jvm.Cond.instanceMethod ({ cls := "FlexibleBoxesModel", name := "placeRow", desc := "(I)V" } : Jvm.MethodName)) ∈ zU := zin5 (List.mem_of_getElem? (i := 88) rfl) rfl
theorem zm_5_89 : (Jvm.Cond.code ({ cls := "FlexibleBoxesModel", name := "placeRow", desc := "(I)V" } : Jvm.MethodName) prog_8_method_53_code (7 : Nat) (Option.none : Option Jvm.ClassFile.FieldType)) ∈ zU := zin5 (List.mem_of_getElem? (i := 89) rfl) rfl
theorem zm_5_90 : (Jvm.Cond.methodLink "FlexibleBoxesModel" (180 : Nat) ({ cls := "FlexibleBoxesModel", name := "setRowHeight", desc := "(II)V" } : Jvm.MethodName)) ∈ zU := zin5 (List.mem_of_getElem? (i := 90) rfl) rfl
theorem zm_5_92 : (Jvm.Cond.instanceMethod ({ cls := "FlexibleBoxesModel", name := "setRowHeight", desc := "(II)V" } : Jvm.MethodName)) ∈ zU := zin5 (List.mem_of_getElem? (i := 92) rfl) rfl
theorem zm_5_93 : (Jvm.Cond.code ({ cls := "FlexibleBoxesModel", name := "setRowHeight", desc := "(II)V" } : Jvm.MethodName) prog_8_method_52_code (5 : Nat) (Option.none : Option Jvm.ClassFile.FieldType)) ∈ zU := zin5 (List.mem_of_getElem? (i := 93) rfl) rfl
theorem zm_5_94 : (Jvm.Cond.methodLink "FlexibleBoxesLaw" (127 : Nat) ({ cls := "FlexibleBoxesModel", name := "y", desc := "(I)I" } : Jvm.MethodName)) ∈ zU := zin5 (List.mem_of_getElem? (i := 94) rfl) rfl
theorem zm_5_95 : (Jvm.Cond.instanceMethod ({ cls := "FlexibleBoxesModel", name := "y", desc := "(I)I" } : Jvm.MethodName)) ∈ zU := zin5 (List.mem_of_getElem? (i := 95) rfl) rfl
theorem zm_5_96 : (Jvm.Cond.selects "FlexibleBoxesModel" ({ cls := "FlexibleBoxesModel", name := "y", desc := "(I)I" } : Jvm.MethodName) ({ cls := "FlexibleBoxesModel", name := "y", desc := "(I)I" } : Jvm.MethodName)) ∈ zU := zin5 (List.mem_of_getElem? (i := 96) rfl) rfl
theorem zm_5_97 : (Jvm.Cond.code ({ cls := "FlexibleBoxesModel", name := "y", desc := "(I)I" } : Jvm.MethodName) prog_8_method_58_code (2 : Nat) (Option.some Jvm.ClassFile.FieldType.int)) ∈ zU := zin5 (List.mem_of_getElem? (i := 97) rfl) rfl
theorem zm_5_98 : (Jvm.Cond.methodLink "FlexibleBoxesLaw" (130 : Nat) ({ cls := "FlexibleBoxesModel", name := "width", desc := "(I)I" } : Jvm.MethodName)) ∈ zU := zin5 (List.mem_of_getElem? (i := 98) rfl) rfl
theorem zm_5_99 : (Jvm.Cond.instanceMethod ({ cls := "FlexibleBoxesModel", name := "width", desc := "(I)I" } : Jvm.MethodName)) ∈ zU := zin5 (List.mem_of_getElem? (i := 99) rfl) rfl
theorem zm_5_100 : (Jvm.Cond.selects "FlexibleBoxesModel" ({ cls := "FlexibleBoxesModel", name := "width", desc := "(I)I" } : Jvm.MethodName) ({ cls := "FlexibleBoxesModel", name := "width", desc := "(I)I" } : Jvm.MethodName)) ∈ zU := zin5 (List.mem_of_getElem? (i := 100) rfl) rfl
theorem zm_5_101 : (Jvm.Cond.code ({ cls := "FlexibleBoxesModel", name := "width", desc := "(I)I" } : Jvm.MethodName) prog_8_method_59_code (2 : Nat) (Option.some Jvm.ClassFile.FieldType.int)) ∈ zU := zin5 (List.mem_of_getElem? (i := 101) rfl) rfl
theorem zm_5_102 : (Jvm.Cond.methodLink "FlexibleBoxesLaw" (133 : Nat) ({ cls := "FlexibleBoxesModel", name := "height", desc := "(I)I" } : Jvm.MethodName)) ∈ zU := zin5 (List.mem_of_getElem? (i := 102) rfl) rfl
theorem zm_5_103 : (Jvm.Cond.instanceMethod ({ cls := "FlexibleBoxesModel", name := "height", desc := "(I)I" } : Jvm.MethodName)) ∈ zU := zin5 (List.mem_of_getElem? (i := 103) rfl) rfl
theorem zm_5_104 : (Jvm.Cond.selects "FlexibleBoxesModel" ({ cls := "FlexibleBoxesModel", name := "height", desc := "(I)I" } : Jvm.MethodName) ({ cls := "FlexibleBoxesModel", name := "height", desc := "(I)I" } : Jvm.MethodName)) ∈ zU := zin5 (List.mem_of_getElem? (i := 104) rfl) rfl
theorem zm_5_105 : (Jvm.Cond.code ({ cls := "FlexibleBoxesModel", name := "height", desc := "(I)I" } : Jvm.MethodName) prog_8_method_60_code (2 : Nat) (Option.some Jvm.ClassFile.FieldType.int)) ∈ zU := zin5 (List.mem_of_getElem? (i := 105) rfl) rfl
theorem zm_5_106 : (Jvm.Cond.methodLink "FlexibleBoxesLaw" (136 : Nat) ({ cls := "FlexibleBoxesModel", name := "naturalWidth", desc := "(I)I" } : Jvm.MethodName)) ∈ zU := zin5 (List.mem_of_getElem? (i := 106) rfl) rfl
theorem zm_5_107 : (Jvm.Cond.instanceMethod ({ cls := "FlexibleBoxesModel", name := "naturalWidth", desc := "(I)I" } : Jvm.MethodName)) ∈ zU := zin5 (List.mem_of_getElem? (i := 107) rfl) rfl
theorem zm_5_108 : (Jvm.Cond.selects "FlexibleBoxesModel" ({ cls := "FlexibleBoxesModel", name := "naturalWidth", desc := "(I)I" } : Jvm.MethodName) ({ cls := "FlexibleBoxesModel", name := "naturalWidth", desc := "(I)I" } : Jvm.MethodName)) ∈ zU := zin5 (List.mem_of_getElem? (i := 108) rfl) rfl
theorem zm_5_109 : (Jvm.Cond.code ({ cls := "FlexibleBoxesModel", name := "naturalWidth", desc := "(I)I" } : Jvm.MethodName) prog_8_method_61_code (2 : Nat) (Option.some Jvm.ClassFile.FieldType.int)) ∈ zU := zin5 (List.mem_of_getElem? (i := 109) rfl) rfl
theorem zm_5_110 : (Jvm.Cond.methodLink "FlexibleBoxesLaw" (139 : Nat) ({ cls := "FlexibleBoxesModel", name := "naturalHeight", desc := "(I)I" } : Jvm.MethodName)) ∈ zU := zin5 (List.mem_of_getElem? (i := 110) rfl) rfl
theorem zm_5_111 : (Jvm.Cond.instanceMethod ({ cls := "FlexibleBoxesModel", name := "naturalHeight", desc := "(I)I" } : Jvm.MethodName)) ∈ zU := zin5 (List.mem_of_getElem? (i := 111) rfl) rfl
theorem zm_5_112 : (Jvm.Cond.selects "FlexibleBoxesModel" ({ cls := "FlexibleBoxesModel", name := "naturalHeight", desc := "(I)I" } : Jvm.MethodName) ({ cls := "FlexibleBoxesModel", name := "naturalHeight", desc := "(I)I" } : Jvm.MethodName)) ∈ zU := zin5 (List.mem_of_getElem? (i := 112) rfl) rfl
theorem zm_5_113 : (Jvm.Cond.code ({ cls := "FlexibleBoxesModel", name := "naturalHeight", desc := "(I)I" } : Jvm.MethodName) prog_8_method_62_code (2 : Nat) (Option.some Jvm.ClassFile.FieldType.int)) ∈ zU := zin5 (List.mem_of_getElem? (i := 113) rfl) rfl
theorem zm_5_114 : (Jvm.Cond.methodLink "FlexibleBoxesLaw" (142 : Nat) ({ cls := "FlexibleBoxesModel", name := "lines", desc := "(I)I" } : Jvm.MethodName)) ∈ zU := zin5 (List.mem_of_getElem? (i := 114) rfl) rfl
theorem zm_5_115 : (Jvm.Cond.instanceMethod ({ cls := "FlexibleBoxesModel", name := "lines", desc := "(I)I" } : Jvm.MethodName)) ∈ zU := zin5 (List.mem_of_getElem? (i := 115) rfl) rfl
theorem zm_5_116 : (Jvm.Cond.selects "FlexibleBoxesModel" ({ cls := "FlexibleBoxesModel", name := "lines", desc := "(I)I" } : Jvm.MethodName) ({ cls := "FlexibleBoxesModel", name := "lines", desc := "(I)I" } : Jvm.MethodName)) ∈ zU := zin5 (List.mem_of_getElem? (i := 116) rfl) rfl
theorem zm_5_117 : (Jvm.Cond.code ({ cls := "FlexibleBoxesModel", name := "lines", desc := "(I)I" } : Jvm.MethodName) prog_8_method_63_code (2 : Nat) (Option.some Jvm.ClassFile.FieldType.int)) ∈ zU := zin5 (List.mem_of_getElem? (i := 117) rfl) rfl
theorem zm_5_118 : (Jvm.Cond.methodLink "FlexibleBoxesLaw" (145 : Nat) ({ cls := "FlexibleBoxesModel", name := "lineOf", desc := "(I)I" } : Jvm.MethodName)) ∈ zU := zin5 (List.mem_of_getElem? (i := 118) rfl) rfl
theorem zm_5_119 : (Jvm.Cond.instanceMethod ({ cls := "FlexibleBoxesModel", name := "lineOf", desc := "(I)I" } : Jvm.MethodName)) ∈ zU := zin5 (List.mem_of_getElem? (i := 119) rfl) rfl
theorem zm_5_120 : (Jvm.Cond.selects "FlexibleBoxesModel" ({ cls := "FlexibleBoxesModel", name := "lineOf", desc := "(I)I" } : Jvm.MethodName) ({ cls := "FlexibleBoxesModel", name := "lineOf", desc := "(I)I" } : Jvm.MethodName)) ∈ zU := zin5 (List.mem_of_getElem? (i := 120) rfl) rfl
theorem zm_5_121 : (Jvm.Cond.code ({ cls := "FlexibleBoxesModel", name := "lineOf", desc := "(I)I" } : Jvm.MethodName) prog_8_method_64_code (2 : Nat) (Option.some Jvm.ClassFile.FieldType.int)) ∈ zU := zin5 (List.mem_of_getElem? (i := 121) rfl) rfl
theorem zm_5_122 : (Jvm.Cond.methodLink "FlexibleBoxesLaw" (148 : Nat) ({ cls := "FlexibleBoxesModel", name := "overflow", desc := "(I)I" } : Jvm.MethodName)) ∈ zU := zin5 (List.mem_of_getElem? (i := 122) rfl) rfl
theorem zm_5_123 : (Jvm.Cond.instanceMethod ({ cls := "FlexibleBoxesModel", name := "overflow", desc := "(I)I" } : Jvm.MethodName)) ∈ zU := zin5 (List.mem_of_getElem? (i := 123) rfl) rfl
theorem zm_5_124 : (Jvm.Cond.selects "FlexibleBoxesModel" ({ cls := "FlexibleBoxesModel", name := "overflow", desc := "(I)I" } : Jvm.MethodName) ({ cls := "FlexibleBoxesModel", name := "overflow", desc := "(I)I" } : Jvm.MethodName)) ∈ zU := zin5 (List.mem_of_getElem? (i := 124) rfl) rfl
theorem zm_5_125 : (Jvm.Cond.code ({ cls := "FlexibleBoxesModel", name := "overflow", desc := "(I)I" } : Jvm.MethodName) prog_8_method_66_code (6 : Nat) (Option.some Jvm.ClassFile.FieldType.int)) ∈ zU := zin5 (List.mem_of_getElem? (i := 125) rfl) rfl
theorem zm_5_126 : (Jvm.Cond.methodLink "FlexibleBoxesModel" (211 : Nat) ({ cls := "FlexibleBoxesModel", name := "end", desc := "(II)I" } : Jvm.MethodName)) ∈ zU := zin5 (List.mem_of_getElem? (i := 126) rfl) rfl
theorem zm_5_128 : (Jvm.Cond.instanceMethod ({ cls := "FlexibleBoxesModel", name := "end", desc := "(II)I" } : Jvm.MethodName)) ∈ zU := zin5 (List.mem_of_getElem? (i := 128) rfl) rfl
theorem zm_5_129 : (Jvm.Cond.code ({ cls := "FlexibleBoxesModel", name := "end", desc := "(II)I" } : Jvm.MethodName) prog_8_method_65_code (3 : Nat) (Option.some Jvm.ClassFile.FieldType.int)) ∈ zU := zin5 (List.mem_of_getElem? (i := 129) rfl) rfl
theorem zm_5_130 : (Jvm.Cond.methodLink "FlexibleBoxesLaw" (152 : Nat) ({ cls := "FlexibleBoxesModel", name := "hit", desc := "(II)I" } : Jvm.MethodName)) ∈ zU := zin5 (List.mem_of_getElem? (i := 130) rfl) rfl
theorem zm_5_131 : (Jvm.Cond.instanceMethod ({ cls := "FlexibleBoxesModel", name := "hit", desc := "(II)I" } : Jvm.MethodName)) ∈ zU := zin5 (List.mem_of_getElem? (i := 131) rfl) rfl
theorem zm_5_132 : (Jvm.Cond.selects "FlexibleBoxesModel" ({ cls := "FlexibleBoxesModel", name := "hit", desc := "(II)I" } : Jvm.MethodName) ({ cls := "FlexibleBoxesModel", name := "hit", desc := "(II)I" } : Jvm.MethodName)) ∈ zU := zin5 (List.mem_of_getElem? (i := 132) rfl) rfl
theorem zm_5_133 : (Jvm.Cond.code ({ cls := "FlexibleBoxesModel", name := "hit", desc := "(II)I" } : Jvm.MethodName) prog_8_method_68_code (7 : Nat) (Option.some Jvm.ClassFile.FieldType.int)) ∈ zU := zin5 (List.mem_of_getElem? (i := 133) rfl) rfl
theorem zm_5_134 : (Jvm.Cond.methodLink "FlexibleBoxesModel" (214 : Nat) ({ cls := "FlexibleBoxesModel", name := "covers", desc := "(III)Z" } : Jvm.MethodName)) ∈ zU := zin5 (List.mem_of_getElem? (i := 134) rfl) rfl
theorem zm_5_136 : (Jvm.Cond.instanceMethod ({ cls := "FlexibleBoxesModel", name := "covers", desc := "(III)Z" } : Jvm.MethodName)) ∈ zU := zin5 (List.mem_of_getElem? (i := 136) rfl) rfl
theorem zm_5_137 : (Jvm.Cond.code ({ cls := "FlexibleBoxesModel", name := "covers", desc := "(III)Z" } : Jvm.MethodName) prog_8_method_67_code (4 : Nat) (Option.some Jvm.ClassFile.FieldType.boolean)) ∈ zU := zin5 (List.mem_of_getElem? (i := 137) rfl) rfl
theorem zm_5_138 : (Jvm.Cond.methodLink "FlexibleBoxesLaw" (155 : Nat) ({ cls := "FlexibleBoxesModel", name := "widthFor", desc := "(II)I" } : Jvm.MethodName)) ∈ zU := zin5 (List.mem_of_getElem? (i := 138) rfl) rfl
theorem zm_5_139 : (Jvm.Cond.instanceMethod ({ cls := "FlexibleBoxesModel", name := "widthFor", desc := "(II)I" } : Jvm.MethodName)) ∈ zU := zin5 (List.mem_of_getElem? (i := 139) rfl) rfl
theorem zm_5_140 : (Jvm.Cond.selects "FlexibleBoxesModel" ({ cls := "FlexibleBoxesModel", name := "widthFor", desc := "(II)I" } : Jvm.MethodName) ({ cls := "FlexibleBoxesModel", name := "widthFor", desc := "(II)I" } : Jvm.MethodName)) ∈ zU := zin5 (List.mem_of_getElem? (i := 140) rfl) rfl
theorem zm_5_141 : (Jvm.Cond.code ({ cls := "FlexibleBoxesModel", name := "widthFor", desc := "(II)I" } : Jvm.MethodName) prog_8_method_69_code (6 : Nat) (Option.some Jvm.ClassFile.FieldType.int)) ∈ zU := zin5 (List.mem_of_getElem? (i := 141) rfl) rfl
theorem zm_5_142 : (Jvm.Cond.methodLink "FlexibleBoxesLaw" (159 : Nat) ({ cls := "FlexibleBoxesModel", name := "save", desc := "(I)V" } : Jvm.MethodName)) ∈ zU := zin5 (List.mem_of_getElem? (i := 142) rfl) rfl
theorem zm_5_143 : (Jvm.Cond.instanceMethod ({ cls := "FlexibleBoxesModel", name := "save", desc := "(I)V" } : Jvm.MethodName)) ∈ zU := zin5 (List.mem_of_getElem? (i := 143) rfl) rfl
theorem zm_5_144 : (Jvm.Cond.selects "FlexibleBoxesModel" ({ cls := "FlexibleBoxesModel", name := "save", desc := "(I)V" } : Jvm.MethodName) ({ cls := "FlexibleBoxesModel", name := "save", desc := "(I)V" } : Jvm.MethodName)) ∈ zU := zin5 (List.mem_of_getElem? (i := 144) rfl) rfl
theorem zm_5_145 : (Jvm.Cond.code ({ cls := "FlexibleBoxesModel", name := "save", desc := "(I)V" } : Jvm.MethodName) prog_8_method_70_code (3 : Nat) (Option.none : Option Jvm.ClassFile.FieldType)) ∈ zU := zin5 (List.mem_of_getElem? (i := 145) rfl) rfl
theorem zm_5_146 : (Jvm.Cond.methodLink "FlexibleBoxesLaw" (162 : Nat) ({ cls := "FlexibleBoxesModel", name := "restore", desc := "(I)V" } : Jvm.MethodName)) ∈ zU := zin5 (List.mem_of_getElem? (i := 146) rfl) rfl
theorem zm_5_147 : (Jvm.Cond.instanceMethod ({ cls := "FlexibleBoxesModel", name := "restore", desc := "(I)V" } : Jvm.MethodName)) ∈ zU := zin5 (List.mem_of_getElem? (i := 147) rfl) rfl
theorem zm_5_148 : (Jvm.Cond.selects "FlexibleBoxesModel" ({ cls := "FlexibleBoxesModel", name := "restore", desc := "(I)V" } : Jvm.MethodName) ({ cls := "FlexibleBoxesModel", name := "restore", desc := "(I)V" } : Jvm.MethodName)) ∈ zU := zin5 (List.mem_of_getElem? (i := 148) rfl) rfl
theorem zm_5_149 : (Jvm.Cond.code ({ cls := "FlexibleBoxesModel", name := "restore", desc := "(I)V" } : Jvm.MethodName) prog_8_method_71_code (3 : Nat) (Option.none : Option Jvm.ClassFile.FieldType)) ∈ zU := zin5 (List.mem_of_getElem? (i := 149) rfl) rfl
theorem inX0 : ∀ w ∈ u_ws RX0 TX0 18, w ∈ zU := by decide +kernel
theorem inX1 : ∀ w ∈ u_ws RX1 TX1 11, w ∈ zU := by decide +kernel
theorem inX2 : ∀ w ∈ u_ws RX2 TX2 3, w ∈ zU := by decide +kernel
theorem inX3 : ∀ w ∈ u_ws RX3 TX3 6, w ∈ zU := by decide +kernel
theorem inX4 : ∀ w ∈ u_ws RX4 TX4 5, w ∈ zU := by decide +kernel
theorem inX5 : ∀ w ∈ u_ws RX5 TX5 3, w ∈ zU := by decide +kernel
theorem inX6 : ∀ w ∈ u_ws RX6 TX6 16, w ∈ zU := by decide +kernel
end
