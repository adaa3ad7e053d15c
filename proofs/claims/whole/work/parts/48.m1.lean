section ZM1
theorem zkX6_thrown : z_pkV yX6_thrown cX6_thrown 1 (Option.some FieldType.int) RX6 0 := ⟨zm_4_124, zm_4_125, zm_1_6, zm_4_126, rfl, by decide, by decide, by decide +kernel⟩
theorem zkX6_in : z_pkS yX6_in cX6_in 3 (Option.some FieldType.boolean) 3 := ⟨zm_4_136, zm_1_6, zm_4_137, by decide, by decide, by decide +kernel⟩
theorem zkX6_low : z_pkS yX6_low cX6_low 1 (Option.some FieldType.int) 1 := ⟨zm_4_175, zm_1_6, zm_4_176, by decide, by decide, by decide +kernel⟩
theorem zkX6_high : z_pkS yX6_high cX6_high 1 (Option.some FieldType.int) 1 := ⟨zm_4_178, zm_1_6, zm_4_179, by decide, by decide, by decide +kernel⟩
theorem zkX6_firstOf : z_pkS yX6_firstOf cX6_firstOf 1 (Option.some FieldType.int) 1 := ⟨zm_4_71, zm_1_6, zm_4_72, by decide, by decide, by decide +kernel⟩
theorem zkX6_of : z_pkV yX6_of cX6_of 3 (Option.some FieldType.int) RX6 2 := ⟨zm_4_164, zs_X6_of, zm_1_6, zm_4_165, rfl, by decide, by decide, by decide +kernel⟩
theorem zkX6_make : z_pkV yX6_make cX6_make 4 (Option.some FieldType.int) RX6 1 := ⟨zm_4_68, zs_X6_make, zm_1_6, zm_4_69, rfl, by decide, by decide, by decide +kernel⟩
theorem zkX6_isBox : z_pkV yX6_isBox cX6_isBox 2 (Option.some FieldType.boolean) RX6 1 := ⟨zm_4_133, zs_X6_isBox, zm_1_6, zm_4_134, rfl, by decide, by decide, by decide +kernel⟩
theorem zkX6_add : z_pkV yX6_add cX6_add 2 (Option.some FieldType.int) RX6 1 := ⟨zm_4_128, zm_4_129, zm_1_6, zm_4_130, rfl, by decide, by decide, by decide +kernel⟩
theorem zkX6_remove : z_pkV yX6_remove cX6_remove 4 (Option.some FieldType.int) RX6 1 := ⟨zm_4_139, zm_4_140, zm_1_6, zm_4_141, rfl, by decide, by decide, by decide +kernel⟩
theorem zkX6_boxes : z_pkV yX6_boxes cX6_boxes 3 (Option.some FieldType.int) RX6 0 := ⟨zm_4_143, zm_4_144, zm_1_6, zm_4_145, rfl, by decide, by decide, by decide +kernel⟩
theorem zkX6_parent : z_pkV yX6_parent cX6_parent 2 (Option.some FieldType.int) RX6 1 := ⟨zm_4_147, zm_4_148, zm_1_6, zm_4_149, rfl, by decide, by decide, by decide +kernel⟩
theorem zkX6_isChild : z_pkV yX6_isChild cX6_isChild 3 (Option.some FieldType.boolean) RX6 2 := ⟨zm_4_160, zs_X6_isChild, zm_1_6, zm_4_161, rfl, by decide, by decide, by decide +kernel⟩
theorem zkX6_isAhead : z_pkV yX6_isAhead cX6_isAhead 4 (Option.some FieldType.boolean) RX6 2 := ⟨zm_4_168, zs_X6_isAhead, zm_1_6, zm_4_169, rfl, by decide, by decide, by decide +kernel⟩
theorem zkX6_layKids : z_pkV yX6_layKids cX6_layKids 4 (Option.none : Option FieldType) RX6 1 := ⟨zm_4_156, zs_X6_layKids, zm_1_6, zm_4_157, rfl, by decide, by decide, by decide +kernel⟩
theorem zkX6_isLeaf : z_pkV yX6_isLeaf cX6_isLeaf 3 (Option.some FieldType.boolean) RX6 1 := ⟨zm_4_214, zs_X6_isLeaf, zm_1_6, zm_4_215, rfl, by decide, by decide, by decide +kernel⟩
theorem zkX6_child : z_pkV yX6_child cX6_child 3 (Option.some FieldType.int) RX6 2 := ⟨zm_4_151, zm_4_152, zm_1_6, zm_4_153, rfl, by decide, by decide, by decide +kernel⟩
theorem zkX6_set : z_pkV yX6_set cX6_set 5 (Option.some FieldType.int) RX6 3 := ⟨zm_4_171, zm_4_172, zm_1_6, zm_4_173, rfl, by decide, by decide, by decide +kernel⟩
theorem zkX6_get : z_pkV yX6_get cX6_get 3 (Option.some FieldType.int) RX6 2 := ⟨zm_4_181, zm_4_182, zm_1_6, zm_4_183, rfl, by decide, by decide, by decide +kernel⟩
theorem zkX6_copyStyle : z_pkV yX6_copyStyle cX6_copyStyle 5 (Option.some FieldType.int) RX6 2 := ⟨zm_4_185, zm_4_186, zm_1_6, zm_4_187, rfl, by decide, by decide, by decide +kernel⟩
theorem zkX6_viewport : z_pkV yX6_viewport cX6_viewport 3 (Option.none : Option FieldType) RX6 2 := ⟨zm_4_189, zm_4_190, zm_1_6, zm_4_191, rfl, by decide, by decide, by decide +kernel⟩
theorem zkX6_findShown : z_pkV yX6_findShown cX6_findShown 2 (Option.none : Option FieldType) RX6 0 := ⟨zm_4_202, zs_X6_findShown, zm_1_6, zm_4_203, rfl, by decide, by decide, by decide +kernel⟩
theorem zkX6_limited : z_pkV yX6_limited cX6_limited 7 (Option.some FieldType.int) RX6 3 := ⟨zm_4_234, zs_X6_limited, zm_1_6, zm_4_235, rfl, by decide, by decide, by decide +kernel⟩
theorem zkX6_notNegative : z_pkS yX6_notNegative cX6_notNegative 1 (Option.some FieldType.int) 1 := ⟨zm_5_9, zm_1_6, zm_5_10, by decide, by decide, by decide +kernel⟩
theorem zkX6_inner : z_pkV yX6_inner cX6_inner 3 (Option.some FieldType.int) RX6 2 := ⟨zm_5_6, zs_X6_inner, zm_1_6, zm_5_7, rfl, by decide, by decide, by decide +kernel⟩
theorem zkX6_outer : z_pkV yX6_outer cX6_outer 3 (Option.some FieldType.int) RX6 2 := ⟨zm_4_222, zs_X6_outer, zm_1_6, zm_4_223, rfl, by decide, by decide, by decide +kernel⟩
theorem zkX6_gapsOf : z_pkV yX6_gapsOf cX6_gapsOf 3 (Option.some FieldType.int) RX6 2 := ⟨zm_4_226, zs_X6_gapsOf, zm_1_6, zm_4_227, rfl, by decide, by decide, by decide +kernel⟩
theorem zkX6_content : z_pkV yX6_content cX6_content 8 (Option.some FieldType.int) RX6 3 := ⟨zm_4_218, zs_X6_content, zm_1_6, zm_4_219, rfl, by decide, by decide, by decide +kernel⟩
theorem zkX6_setNatural : z_pkV yX6_setNatural cX6_setNatural 6 (Option.none : Option FieldType) RX6 3 := ⟨zm_4_230, zs_X6_setNatural, zm_1_6, zm_4_231, rfl, by decide, by decide, by decide +kernel⟩
theorem zkX6_findNaturalWidths : z_pkV yX6_findNaturalWidths cX6_findNaturalWidths 3 (Option.none : Option FieldType) RX6 0 := ⟨zm_4_210, zs_X6_findNaturalWidths, zm_1_6, zm_4_211, rfl, by decide, by decide, by decide +kernel⟩
theorem zkX6_alignment : z_pkV yX6_alignment cX6_alignment 2 (Option.some FieldType.int) RX6 1 := ⟨zm_5_17, zs_X6_alignment, zm_1_6, zm_5_18, rfl, by decide, by decide, by decide +kernel⟩
theorem zkX6_baseOf : z_pkV yX6_baseOf cX6_baseOf 3 (Option.some FieldType.int) RX6 2 := ⟨zm_5_33, zs_X6_baseOf, zm_1_6, zm_5_34, rfl, by decide, by decide, by decide +kernel⟩
theorem zkX6_startOf : z_pkV yX6_startOf cX6_startOf 3 (Option.some FieldType.int) RX6 2 := ⟨zm_5_29, zs_X6_startOf, zm_1_6, zm_5_30, rfl, by decide, by decide, by decide +kernel⟩
theorem zkX6_beginFlex : z_pkV yX6_beginFlex cX6_beginFlex 12 (Option.some FieldType.boolean) RX6 5 := ⟨zm_5_41, zs_X6_beginFlex, zm_1_6, zm_5_42, rfl, by decide, by decide, by decide +kernel⟩
theorem zkX6_propose : z_pkV yX6_propose cX6_propose 21 (Option.none : Option FieldType) RX6 6 := ⟨zm_5_45, zs_X6_propose, zm_1_6, zm_5_46, rfl, by decide, by decide, by decide +kernel⟩
theorem zkX6_deviation : z_pkV yX6_deviation cX6_deviation 3 (Option.some FieldType.int) RX6 2 := ⟨zm_5_53, zs_X6_deviation, zm_1_6, zm_5_54, rfl, by decide, by decide, by decide +kernel⟩
theorem zkX6_fixSome : z_pkV yX6_fixSome cX6_fixSome 10 (Option.some FieldType.int) RX6 3 := ⟨zm_5_49, zs_X6_fixSome, zm_1_6, zm_5_50, rfl, by decide, by decide, by decide +kernel⟩
theorem zkX6_flex : z_pkV yX6_flex cX6_flex 9 (Option.none : Option FieldType) RX6 5 := ⟨zm_5_37, zs_X6_flex, zm_1_6, zm_5_38, rfl, by decide, by decide, by decide +kernel⟩
theorem zkX6_endOfLine : z_pkV yX6_endOfLine cX6_endOfLine 8 (Option.some FieldType.int) RX6 2 := ⟨zm_5_25, zs_X6_endOfLine, zm_1_6, zm_5_26, rfl, by decide, by decide, by decide +kernel⟩
theorem zkX6_findLines : z_pkV yX6_findLines cX6_findLines 6 (Option.none : Option FieldType) RX6 1 := ⟨zm_5_21, zs_X6_findLines, zm_1_6, zm_5_22, rfl, by decide, by decide, by decide +kernel⟩
theorem zkX6_findColumnWidths : z_pkV yX6_findColumnWidths cX6_findColumnWidths 7 (Option.none : Option FieldType) RX6 1 := ⟨zm_5_13, zs_X6_findColumnWidths, zm_1_6, zm_5_14, rfl, by decide, by decide, by decide +kernel⟩
theorem zkX6_textLines : z_pkV yX6_textLines cX6_textLines 3 (Option.some FieldType.int) RX6 1 := ⟨zm_5_2, zs_X6_textLines, zm_1_6, zm_5_3, rfl, by decide, by decide, by decide +kernel⟩
theorem zkX6_findWidths : z_pkV yX6_findWidths cX6_findWidths 2 (Option.none : Option FieldType) RX6 0 := ⟨zm_4_238, zs_X6_findWidths, zm_1_6, zm_4_239, rfl, by decide, by decide, by decide +kernel⟩
theorem zkX6_lineHeight : z_pkV yX6_lineHeight cX6_lineHeight 5 (Option.some FieldType.int) RX6 1 := ⟨zm_5_65, zs_X6_lineHeight, zm_1_6, zm_5_66, rfl, by decide, by decide, by decide +kernel⟩
theorem zkX6_rowContent : z_pkV yX6_rowContent cX6_rowContent 4 (Option.some FieldType.int) RX6 1 := ⟨zm_5_61, zs_X6_rowContent, zm_1_6, zm_5_62, rfl, by decide, by decide, by decide +kernel⟩
theorem zkX6_findNaturalHeights : z_pkV yX6_findNaturalHeights cX6_findNaturalHeights 3 (Option.none : Option FieldType) RX6 0 := ⟨zm_5_57, zs_X6_findNaturalHeights, zm_1_6, zm_5_58, rfl, by decide, by decide, by decide +kernel⟩
theorem zkX6_moved : z_pkS yX6_moved cX6_moved 4 (Option.some FieldType.int) 4 := ⟨zm_5_80, zm_1_6, zm_5_81, by decide, by decide, by decide +kernel⟩
theorem zkX6_justify : z_pkV yX6_justify cX6_justify 10 (Option.none : Option FieldType) RX6 4 := ⟨zm_5_77, zs_X6_justify, zm_1_6, zm_5_78, rfl, by decide, by decide, by decide +kernel⟩
theorem zkX6_align : z_pkV yX6_align cX6_align 8 (Option.none : Option FieldType) RX6 4 := ⟨zm_5_84, zs_X6_align, zm_1_6, zm_5_85, rfl, by decide, by decide, by decide +kernel⟩
theorem zkX6_placeColumn : z_pkV yX6_placeColumn cX6_placeColumn 3 (Option.none : Option FieldType) RX6 1 := ⟨zm_5_73, zs_X6_placeColumn, zm_1_6, zm_5_74, rfl, by decide, by decide, by decide +kernel⟩
theorem zkX6_setRowHeight : z_pkV yX6_setRowHeight cX6_setRowHeight 5 (Option.none : Option FieldType) RX6 2 := ⟨zm_5_92, zs_X6_setRowHeight, zm_1_6, zm_5_93, rfl, by decide, by decide, by decide +kernel⟩
theorem zkX6_placeRow : z_pkV yX6_placeRow cX6_placeRow 7 (Option.none : Option FieldType) RX6 1 := ⟨zm_5_88, zs_X6_placeRow, zm_1_6, zm_5_89, rfl, by decide, by decide, by decide +kernel⟩
theorem zkX6_findPlaces : z_pkV yX6_findPlaces cX6_findPlaces 2 (Option.none : Option FieldType) RX6 0 := ⟨zm_5_69, zs_X6_findPlaces, zm_1_6, zm_5_70, rfl, by decide, by decide, by decide +kernel⟩
theorem zkX6_layOut : z_pkV yX6_layOut cX6_layOut 1 (Option.none : Option FieldType) RX6 0 := ⟨zm_4_206, zs_X6_layOut, zm_1_6, zm_4_207, rfl, by decide, by decide, by decide +kernel⟩
theorem zkX6_hasLayout : z_pkV yX6_hasLayout cX6_hasLayout 2 (Option.some FieldType.boolean) RX6 1 := ⟨zm_4_198, zs_X6_hasLayout, zm_1_6, zm_4_199, rfl, by decide, by decide, by decide +kernel⟩
theorem zkX6_x : z_pkV yX6_x cX6_x 2 (Option.some FieldType.int) RX6 1 := ⟨zm_4_193, zm_4_194, zm_1_6, zm_4_195, rfl, by decide, by decide, by decide +kernel⟩
theorem zkX6_y : z_pkV yX6_y cX6_y 2 (Option.some FieldType.int) RX6 1 := ⟨zm_5_95, zm_5_96, zm_1_6, zm_5_97, rfl, by decide, by decide, by decide +kernel⟩
theorem zkX6_width : z_pkV yX6_width cX6_width 2 (Option.some FieldType.int) RX6 1 := ⟨zm_5_99, zm_5_100, zm_1_6, zm_5_101, rfl, by decide, by decide, by decide +kernel⟩
theorem zkX6_height : z_pkV yX6_height cX6_height 2 (Option.some FieldType.int) RX6 1 := ⟨zm_5_103, zm_5_104, zm_1_6, zm_5_105, rfl, by decide, by decide, by decide +kernel⟩
theorem zkX6_naturalWidth : z_pkV yX6_naturalWidth cX6_naturalWidth 2 (Option.some FieldType.int) RX6 1 := ⟨zm_5_107, zm_5_108, zm_1_6, zm_5_109, rfl, by decide, by decide, by decide +kernel⟩
theorem zkX6_naturalHeight : z_pkV yX6_naturalHeight cX6_naturalHeight 2 (Option.some FieldType.int) RX6 1 := ⟨zm_5_111, zm_5_112, zm_1_6, zm_5_113, rfl, by decide, by decide, by decide +kernel⟩
theorem zkX6_lines : z_pkV yX6_lines cX6_lines 2 (Option.some FieldType.int) RX6 1 := ⟨zm_5_115, zm_5_116, zm_1_6, zm_5_117, rfl, by decide, by decide, by decide +kernel⟩
theorem zkX6_lineOf : z_pkV yX6_lineOf cX6_lineOf 2 (Option.some FieldType.int) RX6 1 := ⟨zm_5_119, zm_5_120, zm_1_6, zm_5_121, rfl, by decide, by decide, by decide +kernel⟩
theorem zkX6_end : z_pkV yX6_end cX6_end 3 (Option.some FieldType.int) RX6 2 := ⟨zm_5_128, zs_X6_end, zm_1_6, zm_5_129, rfl, by decide, by decide, by decide +kernel⟩
theorem zkX6_overflow : z_pkV yX6_overflow cX6_overflow 6 (Option.some FieldType.int) RX6 1 := ⟨zm_5_123, zm_5_124, zm_1_6, zm_5_125, rfl, by decide, by decide, by decide +kernel⟩
theorem zkX6_covers : z_pkV yX6_covers cX6_covers 4 (Option.some FieldType.boolean) RX6 3 := ⟨zm_5_136, zs_X6_covers, zm_1_6, zm_5_137, rfl, by decide, by decide, by decide +kernel⟩
theorem zkX6_hit : z_pkV yX6_hit cX6_hit 7 (Option.some FieldType.int) RX6 2 := ⟨zm_5_131, zm_5_132, zm_1_6, zm_5_133, rfl, by decide, by decide, by decide +kernel⟩
theorem zkX6_widthFor : z_pkV yX6_widthFor cX6_widthFor 6 (Option.some FieldType.int) RX6 2 := ⟨zm_5_139, zm_5_140, zm_1_6, zm_5_141, rfl, by decide, by decide, by decide +kernel⟩
theorem zkX6_save : z_pkV yX6_save cX6_save 3 (Option.none : Option FieldType) RX6 1 := ⟨zm_5_143, zm_5_144, zm_1_6, zm_5_145, rfl, by decide, by decide, by decide +kernel⟩
theorem zkX6_restore : z_pkV yX6_restore cX6_restore 3 (Option.none : Option FieldType) RX6 1 := ⟨zm_5_147, zm_5_148, zm_1_6, zm_5_149, rfl, by decide, by decide, by decide +kernel⟩
set_option maxHeartbeats 4000000 in
set_option maxRecDepth 100000 in
theorem kX6_in (lx : Launch) (g : zG) (N : Nat) (I : Nat → Nat → Int32) (P : Nat → Nat → Option Nat) (J : Nat → Nat → Int64) (v lo hi : Int32) : z_Ct lx yX6_in (zT yX6_in cX6_in 3 (Option.some FieldType.boolean)) ({ frames := 0, cells := 0, slots := 0, locals := 0 } : Room) g N I P J [.int v, .int lo, .int hi] (zMu (some (.int (zB (decide (lo ≤ v ∧ v ≤ hi))))) I P J) 0 0 := by
  refine z_of (by decide) (Nat.le_of_ble_eq_true rfl) (lv0 := [(0, .int v), (1, .int lo), (2, .int hi)]) rfl ?_
  intro C hlx hC hE hRm
  have hC : zX C cX6_in 3 RX6 (zT yX6_in cX6_in 3 (Option.some FieldType.boolean)) g N := hC
  refine z_iload_n (pc := 0) hC 0 dX6_in_0 rfl rfl ?_
  refine z_iload_n (pc := 1) hC 1 dX6_in_1 rfl rfl ?_
  refine z_icmp_lt (pc := 2) (tgt := 14) hC dX6_in_2 (by decide) (fun h2 => ?_) (fun h2 => ?_)
  · skip
    have g2 := Int32.not_le.mpr h2
    refine z_iconst (pc := 14) (v := 0) hC dX6_in_14 rfl ?_
    exact z_zret (pc := 15) hC hE (z_b01 (Or.inl rfl)) dX6_in_15 (zMu_i (by rw [decide_eq_false (fun q : lo ≤ v ∧ v ≤ hi => absurd q.1 (Int32.not_le.mpr h2))]; rfl))
  · skip
    have g2 := Int32.not_lt.mp h2
    refine z_iload_n (pc := 5) hC 0 dX6_in_5 rfl rfl ?_
    refine z_iload_n (pc := 6) hC 2 dX6_in_6 rfl rfl ?_
    refine z_icmp_gt (pc := 7) (tgt := 14) hC dX6_in_7 (by decide) (fun h7 => ?_) (fun h7 => ?_)
    · skip
      have g7 := Int32.not_le.mpr h7
      refine z_iconst (pc := 14) (v := 0) hC dX6_in_14 rfl ?_
      exact z_zret (pc := 15) hC hE (z_b01 (Or.inl rfl)) dX6_in_15 (zMu_i (by rw [decide_eq_false (fun q : lo ≤ v ∧ v ≤ hi => g7 q.2)]; rfl))
    · skip
      have g7 := Int32.not_lt.mp h7
      refine z_iconst (pc := 10) (v := 1) hC dX6_in_10 rfl ?_
      refine z_goto (pc := 11) (tgt := 15) hC dX6_in_11 (by decide) ?_
      exact z_zret (pc := 15) hC hE (z_b01 (Or.inr rfl)) dX6_in_15 (zMu_i (by rw [decide_eq_true (⟨g2, g7⟩ : lo ≤ v ∧ v ≤ hi)]; rfl))
theorem z_tswK {C : zC} {g : zG} {N nL cells slots : Nat} {I : Nat → Nat → Int32} {P : Nat → Nat → Option Nat} {J : Nat → Nat → Int64} {pc : Nat} {lv : List (Nat × Value)} {st : List Value} {cc : ByteArray} {own : String} {Ts : List Cond} (hC : zX C cc nL own Ts g N) {x : Int32} {d lo hi off : Int} {offs : Array Int} {tgt len : Nat} (hdg : decode cc pc = .ok (.tableswitch d lo hi offs, len)) (h1 : ¬ x.toInt < lo) (h2 : ¬ hi < x.toInt) (ho : offs[(x.toInt - lo).toNat]? = some off) (ht : (pc : Int) + off = (tgt : Int)) (k : zJ C g N nL cells slots I P J tgt lv st) : zJ C g N nL cells slots I P J pc lv (.int x :: st) := fun H locs ls hP hS hl => lv_tableIn hC.1 hC.2.1 hdg h1 h2 ho ht (k H locs ls hP hS hl)
theorem z_tswD {C : zC} {g : zG} {N nL cells slots : Nat} {I : Nat → Nat → Int32} {P : Nat → Nat → Option Nat} {J : Nat → Nat → Int64} {pc : Nat} {lv : List (Nat × Value)} {st : List Value} {cc : ByteArray} {own : String} {Ts : List Cond} (hC : zX C cc nL own Ts g N) {x : Int32} {d lo hi : Int} {offs : Array Int} {tgt len : Nat} (hdg : decode cc pc = .ok (.tableswitch d lo hi offs, len)) (h : x.toInt < lo ∨ hi < x.toInt) (ht : (pc : Int) + d = (tgt : Int)) (k : zJ C g N nL cells slots I P J tgt lv st) : zJ C g N nL cells slots I P J pc lv (.int x :: st) := fun H locs ls hP hS hl => lv_tableOut hC.1 hC.2.1 hdg h ht (k H locs ls hP hS hl)
set_option maxHeartbeats 4000000 in
set_option maxRecDepth 100000 in
theorem kX6_low (lx : Launch) (g : zG) (N : Nat) (I : Nat → Nat → Int32) (P : Nat → Nat → Option Nat) (J : Nat → Nat → Int64) (k : Nat) (hk : k < 20) : z_Ct lx yX6_low (zT yX6_low cX6_low 1 (Option.some FieldType.int)) ({ frames := 0, cells := 0, slots := 0, locals := 0 } : Room) g N I P J [.int (nI k)] (zMu (some (.int (z_st 0 k))) I P J) 0 0 := by
  refine z_of (by decide) (Nat.le_of_ble_eq_true rfl) (lv0 := [(0, .int (nI k))]) rfl ?_
  intro C hlx hC hE hRm
  have hC : zX C cX6_low 1 RX6 (zT yX6_low cX6_low 1 (Option.some FieldType.int)) g N := hC
  rcases (by omega : k = 0 ∨ k = 1 ∨ k = 2 ∨ k = 3 ∨ k = 4 ∨ k = 5 ∨ k = 6 ∨ k = 7 ∨ k = 8 ∨ k = 9 ∨ k = 10 ∨ k = 11 ∨ k = 12 ∨ k = 13 ∨ k = 14 ∨ k = 15 ∨ k = 16 ∨ k = 17 ∨ k = 18 ∨ k = 19) with rfl | rfl | rfl | rfl | rfl | rfl | rfl | rfl | rfl | rfl | rfl | rfl | rfl | rfl | rfl | rfl | rfl | rfl | rfl | rfl
  · skip
    refine z_iload_n (pc := 0) hC 0 dX6_low_0 rfl rfl ?_
    refine z_tswD (pc := 1) (tgt := 65) hC dX6_low_1 (by decide) (by decide) ?_
    refine z_iconst (pc := 65) (v := 0) hC dX6_low_65 rfl ?_
    exact z_iret (pc := 66) hC hE dX6_low_66 (zMu_i rfl)
  · skip
    refine z_iload_n (pc := 0) hC 0 dX6_low_0 rfl rfl ?_
    refine z_tswD (pc := 1) (tgt := 65) hC dX6_low_1 (by decide) (by decide) ?_
    refine z_iconst (pc := 65) (v := 0) hC dX6_low_65 rfl ?_
    exact z_iret (pc := 66) hC hE dX6_low_66 (zMu_i rfl)
  · skip
    refine z_iload_n (pc := 0) hC 0 dX6_low_0 rfl rfl ?_
    refine z_tswD (pc := 1) (tgt := 65) hC dX6_low_1 (by decide) (by decide) ?_
    refine z_iconst (pc := 65) (v := 0) hC dX6_low_65 rfl ?_
    exact z_iret (pc := 66) hC hE dX6_low_66 (zMu_i rfl)
  · skip
    refine z_iload_n (pc := 0) hC 0 dX6_low_0 rfl rfl ?_
    refine z_tswD (pc := 1) (tgt := 65) hC dX6_low_1 (by decide) (by decide) ?_
    refine z_iconst (pc := 65) (v := 0) hC dX6_low_65 rfl ?_
    exact z_iret (pc := 66) hC hE dX6_low_66 (zMu_i rfl)
  · skip
    refine z_iload_n (pc := 0) hC 0 dX6_low_0 rfl rfl ?_
    refine z_tswD (pc := 1) (tgt := 65) hC dX6_low_1 (by decide) (by decide) ?_
    refine z_iconst (pc := 65) (v := 0) hC dX6_low_65 rfl ?_
    exact z_iret (pc := 66) hC hE dX6_low_66 (zMu_i rfl)
  · skip
    refine z_iload_n (pc := 0) hC 0 dX6_low_0 rfl rfl ?_
    refine z_tswD (pc := 1) (tgt := 65) hC dX6_low_1 (by decide) (by decide) ?_
    refine z_iconst (pc := 65) (v := 0) hC dX6_low_65 rfl ?_
    exact z_iret (pc := 66) hC hE dX6_low_66 (zMu_i rfl)
  · skip
    refine z_iload_n (pc := 0) hC 0 dX6_low_0 rfl rfl ?_
    refine z_tswD (pc := 1) (tgt := 65) hC dX6_low_1 (by decide) (by decide) ?_
    refine z_iconst (pc := 65) (v := 0) hC dX6_low_65 rfl ?_
    exact z_iret (pc := 66) hC hE dX6_low_66 (zMu_i rfl)
  · skip
    refine z_iload_n (pc := 0) hC 0 dX6_low_0 rfl rfl ?_
    refine z_tswK (pc := 1) (tgt := 60) hC dX6_low_1 (by decide) (by decide) (by rfl) (by decide) ?_
    refine z_iconst (pc := 60) (v := (-1)) hC dX6_low_60 rfl ?_
    exact z_iret (pc := 61) hC hE dX6_low_61 (zMu_i rfl)
  · skip
    refine z_iload_n (pc := 0) hC 0 dX6_low_0 rfl rfl ?_
    refine z_tswK (pc := 1) (tgt := 65) hC dX6_low_1 (by decide) (by decide) (by rfl) (by decide) ?_
    refine z_iconst (pc := 65) (v := 0) hC dX6_low_65 rfl ?_
    exact z_iret (pc := 66) hC hE dX6_low_66 (zMu_i rfl)
  · skip
    refine z_iload_n (pc := 0) hC 0 dX6_low_0 rfl rfl ?_
    refine z_tswK (pc := 1) (tgt := 65) hC dX6_low_1 (by decide) (by decide) (by rfl) (by decide) ?_
    refine z_iconst (pc := 65) (v := 0) hC dX6_low_65 rfl ?_
    exact z_iret (pc := 66) hC hE dX6_low_66 (zMu_i rfl)
  · skip
    refine z_iload_n (pc := 0) hC 0 dX6_low_0 rfl rfl ?_
    refine z_tswK (pc := 1) (tgt := 60) hC dX6_low_1 (by decide) (by decide) (by rfl) (by decide) ?_
    refine z_iconst (pc := 60) (v := (-1)) hC dX6_low_60 rfl ?_
    exact z_iret (pc := 61) hC hE dX6_low_61 (zMu_i rfl)
  · skip
    refine z_iload_n (pc := 0) hC 0 dX6_low_0 rfl rfl ?_
    refine z_tswK (pc := 1) (tgt := 60) hC dX6_low_1 (by decide) (by decide) (by rfl) (by decide) ?_
    refine z_iconst (pc := 60) (v := (-1)) hC dX6_low_60 rfl ?_
    exact z_iret (pc := 61) hC hE dX6_low_61 (zMu_i rfl)
  · skip
    refine z_iload_n (pc := 0) hC 0 dX6_low_0 rfl rfl ?_
    refine z_tswK (pc := 1) (tgt := 65) hC dX6_low_1 (by decide) (by decide) (by rfl) (by decide) ?_
    refine z_iconst (pc := 65) (v := 0) hC dX6_low_65 rfl ?_
    exact z_iret (pc := 66) hC hE dX6_low_66 (zMu_i rfl)
  · skip
    refine z_iload_n (pc := 0) hC 0 dX6_low_0 rfl rfl ?_
    refine z_tswK (pc := 1) (tgt := 65) hC dX6_low_1 (by decide) (by decide) (by rfl) (by decide) ?_
    refine z_iconst (pc := 65) (v := 0) hC dX6_low_65 rfl ?_
    exact z_iret (pc := 66) hC hE dX6_low_66 (zMu_i rfl)
  · skip
    refine z_iload_n (pc := 0) hC 0 dX6_low_0 rfl rfl ?_
    refine z_tswK (pc := 1) (tgt := 65) hC dX6_low_1 (by decide) (by decide) (by rfl) (by decide) ?_
    refine z_iconst (pc := 65) (v := 0) hC dX6_low_65 rfl ?_
    exact z_iret (pc := 66) hC hE dX6_low_66 (zMu_i rfl)
  · skip
    refine z_iload_n (pc := 0) hC 0 dX6_low_0 rfl rfl ?_
    refine z_tswK (pc := 1) (tgt := 65) hC dX6_low_1 (by decide) (by decide) (by rfl) (by decide) ?_
    refine z_iconst (pc := 65) (v := 0) hC dX6_low_65 rfl ?_
    exact z_iret (pc := 66) hC hE dX6_low_66 (zMu_i rfl)
  · skip
    refine z_iload_n (pc := 0) hC 0 dX6_low_0 rfl rfl ?_
    refine z_tswK (pc := 1) (tgt := 60) hC dX6_low_1 (by decide) (by decide) (by rfl) (by decide) ?_
    refine z_iconst (pc := 60) (v := (-1)) hC dX6_low_60 rfl ?_
    exact z_iret (pc := 61) hC hE dX6_low_61 (zMu_i rfl)
  · skip
    refine z_iload_n (pc := 0) hC 0 dX6_low_0 rfl rfl ?_
    refine z_tswK (pc := 1) (tgt := 62) hC dX6_low_1 (by decide) (by decide) (by rfl) (by decide) ?_
    refine z_bipush (pc := 62) (v := (-9)) hC dX6_low_62 rfl ?_
    exact z_iret (pc := 64) hC hE dX6_low_64 (zMu_i rfl)
  · skip
    refine z_iload_n (pc := 0) hC 0 dX6_low_0 rfl rfl ?_
    refine z_tswD (pc := 1) (tgt := 65) hC dX6_low_1 (by decide) (by decide) ?_
    refine z_iconst (pc := 65) (v := 0) hC dX6_low_65 rfl ?_
    exact z_iret (pc := 66) hC hE dX6_low_66 (zMu_i rfl)
  · skip
    refine z_iload_n (pc := 0) hC 0 dX6_low_0 rfl rfl ?_
    refine z_tswD (pc := 1) (tgt := 65) hC dX6_low_1 (by decide) (by decide) ?_
    refine z_iconst (pc := 65) (v := 0) hC dX6_low_65 rfl ?_
    exact z_iret (pc := 66) hC hE dX6_low_66 (zMu_i rfl)
set_option maxHeartbeats 4000000 in
set_option maxRecDepth 100000 in
theorem kX6_high (lx : Launch) (g : zG) (N : Nat) (I : Nat → Nat → Int32) (P : Nat → Nat → Option Nat) (J : Nat → Nat → Int64) (k : Nat) (hk : k < 20) : z_Ct lx yX6_high (zT yX6_high cX6_high 1 (Option.some FieldType.int)) ({ frames := 0, cells := 0, slots := 0, locals := 0 } : Room) g N I P J [.int (nI k)] (zMu (some (.int (z_st 1 k))) I P J) 0 0 := by
  refine z_of (by decide) (Nat.le_of_ble_eq_true rfl) (lv0 := [(0, .int (nI k))]) rfl ?_
  intro C hlx hC hE hRm
  have hC : zX C cX6_high 1 RX6 (zT yX6_high cX6_high 1 (Option.some FieldType.int)) g N := hC
  rcases (by omega : k = 0 ∨ k = 1 ∨ k = 2 ∨ k = 3 ∨ k = 4 ∨ k = 5 ∨ k = 6 ∨ k = 7 ∨ k = 8 ∨ k = 9 ∨ k = 10 ∨ k = 11 ∨ k = 12 ∨ k = 13 ∨ k = 14 ∨ k = 15 ∨ k = 16 ∨ k = 17 ∨ k = 18 ∨ k = 19) with rfl | rfl | rfl | rfl | rfl | rfl | rfl | rfl | rfl | rfl | rfl | rfl | rfl | rfl | rfl | rfl | rfl | rfl | rfl | rfl
  · skip
    refine z_iload_n (pc := 0) hC 0 dX6_high_0 rfl rfl ?_
    refine z_tswK (pc := 1) (tgt := 96) hC dX6_high_1 (by decide) (by decide) (by rfl) (by decide) ?_
    refine z_iconst (pc := 96) (v := 1) hC dX6_high_96 rfl ?_
    exact z_iret (pc := 97) hC hE dX6_high_97 (zMu_i rfl)
  · skip
    refine z_iload_n (pc := 0) hC 0 dX6_high_0 rfl rfl ?_
    refine z_tswK (pc := 1) (tgt := 96) hC dX6_high_1 (by decide) (by decide) (by rfl) (by decide) ?_
    refine z_iconst (pc := 96) (v := 1) hC dX6_high_96 rfl ?_
    exact z_iret (pc := 97) hC hE dX6_high_97 (zMu_i rfl)
  · skip
    refine z_iload_n (pc := 0) hC 0 dX6_high_0 rfl rfl ?_
    refine z_tswK (pc := 1) (tgt := 98) hC dX6_high_1 (by decide) (by decide) (by rfl) (by decide) ?_
    refine z_iconst (pc := 98) (v := 4) hC dX6_high_98 rfl ?_
    exact z_iret (pc := 99) hC hE dX6_high_99 (zMu_i rfl)
  · skip
    refine z_iload_n (pc := 0) hC 0 dX6_high_0 rfl rfl ?_
    refine z_tswK (pc := 1) (tgt := 100) hC dX6_high_1 (by decide) (by decide) (by rfl) (by decide) ?_
    refine z_iconst (pc := 100) (v := 3) hC dX6_high_100 rfl ?_
    exact z_iret (pc := 101) hC hE dX6_high_101 (zMu_i rfl)
  · skip
    refine z_iload_n (pc := 0) hC 0 dX6_high_0 rfl rfl ?_
    refine z_tswK (pc := 1) (tgt := 102) hC dX6_high_1 (by decide) (by decide) (by rfl) (by decide) ?_
    refine z_bipush (pc := 102) (v := 50) hC dX6_high_102 rfl ?_
    exact z_iret (pc := 104) hC hE dX6_high_104 (zMu_i rfl)
  · skip
    refine z_iload_n (pc := 0) hC 0 dX6_high_0 rfl rfl ?_
    refine z_tswK (pc := 1) (tgt := 102) hC dX6_high_1 (by decide) (by decide) (by rfl) (by decide) ?_
    refine z_bipush (pc := 102) (v := 50) hC dX6_high_102 rfl ?_
    exact z_iret (pc := 104) hC hE dX6_high_104 (zMu_i rfl)
  · skip
    refine z_iload_n (pc := 0) hC 0 dX6_high_0 rfl rfl ?_
    refine z_tswK (pc := 1) (tgt := 102) hC dX6_high_1 (by decide) (by decide) (by rfl) (by decide) ?_
    refine z_bipush (pc := 102) (v := 50) hC dX6_high_102 rfl ?_
    exact z_iret (pc := 104) hC hE dX6_high_104 (zMu_i rfl)
  · skip
    refine z_iload_n (pc := 0) hC 0 dX6_high_0 rfl rfl ?_
    refine z_tswK (pc := 1) (tgt := 116) hC dX6_high_1 (by decide) (by decide) (by rfl) (by decide) ?_
    refine z_sipush (pc := 116) (v := 1000) hC dX6_high_116 rfl ?_
    exact z_iret (pc := 119) hC hE dX6_high_119 (zMu_i rfl)
  · skip
    refine z_iload_n (pc := 0) hC 0 dX6_high_0 rfl rfl ?_
    refine z_tswK (pc := 1) (tgt := 105) hC dX6_high_1 (by decide) (by decide) (by rfl) (by decide) ?_
    refine z_bipush (pc := 105) (v := 9) hC dX6_high_105 rfl ?_
    exact z_iret (pc := 107) hC hE dX6_high_107 (zMu_i rfl)
  · skip
    refine z_iload_n (pc := 0) hC 0 dX6_high_0 rfl rfl ?_
    refine z_tswK (pc := 1) (tgt := 105) hC dX6_high_1 (by decide) (by decide) (by rfl) (by decide) ?_
    refine z_bipush (pc := 105) (v := 9) hC dX6_high_105 rfl ?_
    exact z_iret (pc := 107) hC hE dX6_high_107 (zMu_i rfl)
  · skip
    refine z_iload_n (pc := 0) hC 0 dX6_high_0 rfl rfl ?_
    refine z_tswK (pc := 1) (tgt := 116) hC dX6_high_1 (by decide) (by decide) (by rfl) (by decide) ?_
    refine z_sipush (pc := 116) (v := 1000) hC dX6_high_116 rfl ?_
    exact z_iret (pc := 119) hC hE dX6_high_119 (zMu_i rfl)
  · skip
    refine z_iload_n (pc := 0) hC 0 dX6_high_0 rfl rfl ?_
    refine z_tswK (pc := 1) (tgt := 116) hC dX6_high_1 (by decide) (by decide) (by rfl) (by decide) ?_
    refine z_sipush (pc := 116) (v := 1000) hC dX6_high_116 rfl ?_
    exact z_iret (pc := 119) hC hE dX6_high_119 (zMu_i rfl)
  · skip
    refine z_iload_n (pc := 0) hC 0 dX6_high_0 rfl rfl ?_
    refine z_tswK (pc := 1) (tgt := 116) hC dX6_high_1 (by decide) (by decide) (by rfl) (by decide) ?_
    refine z_sipush (pc := 116) (v := 1000) hC dX6_high_116 rfl ?_
    exact z_iret (pc := 119) hC hE dX6_high_119 (zMu_i rfl)
  · skip
    refine z_iload_n (pc := 0) hC 0 dX6_high_0 rfl rfl ?_
    refine z_tswK (pc := 1) (tgt := 116) hC dX6_high_1 (by decide) (by decide) (by rfl) (by decide) ?_
    refine z_sipush (pc := 116) (v := 1000) hC dX6_high_116 rfl ?_
    exact z_iret (pc := 119) hC hE dX6_high_119 (zMu_i rfl)
  · skip
    refine z_iload_n (pc := 0) hC 0 dX6_high_0 rfl rfl ?_
    refine z_tswK (pc := 1) (tgt := 108) hC dX6_high_1 (by decide) (by decide) (by rfl) (by decide) ?_
    refine z_sipush (pc := 108) (v := 10000) hC dX6_high_108 rfl ?_
    exact z_iret (pc := 111) hC hE dX6_high_111 (zMu_i rfl)
  · skip
    refine z_iload_n (pc := 0) hC 0 dX6_high_0 rfl rfl ?_
    refine z_tswK (pc := 1) (tgt := 108) hC dX6_high_1 (by decide) (by decide) (by rfl) (by decide) ?_
    refine z_sipush (pc := 108) (v := 10000) hC dX6_high_108 rfl ?_
    exact z_iret (pc := 111) hC hE dX6_high_111 (zMu_i rfl)
  · skip
    refine z_iload_n (pc := 0) hC 0 dX6_high_0 rfl rfl ?_
    refine z_tswK (pc := 1) (tgt := 100) hC dX6_high_1 (by decide) (by decide) (by rfl) (by decide) ?_
    refine z_iconst (pc := 100) (v := 3) hC dX6_high_100 rfl ?_
    exact z_iret (pc := 101) hC hE dX6_high_101 (zMu_i rfl)
  · skip
    refine z_iload_n (pc := 0) hC 0 dX6_high_0 rfl rfl ?_
    refine z_tswK (pc := 1) (tgt := 105) hC dX6_high_1 (by decide) (by decide) (by rfl) (by decide) ?_
    refine z_bipush (pc := 105) (v := 9) hC dX6_high_105 rfl ?_
    exact z_iret (pc := 107) hC hE dX6_high_107 (zMu_i rfl)
  · skip
    refine z_iload_n (pc := 0) hC 0 dX6_high_0 rfl rfl ?_
    refine z_tswK (pc := 1) (tgt := 96) hC dX6_high_1 (by decide) (by decide) (by rfl) (by decide) ?_
    refine z_iconst (pc := 96) (v := 1) hC dX6_high_96 rfl ?_
    exact z_iret (pc := 97) hC hE dX6_high_97 (zMu_i rfl)
  · skip
    refine z_iload_n (pc := 0) hC 0 dX6_high_0 rfl rfl ?_
    refine z_tswK (pc := 1) (tgt := 112) hC dX6_high_1 (by decide) (by decide) (by rfl) (by decide) ?_
    refine z_sipush (pc := 112) (v := 500) hC dX6_high_112 rfl ?_
    exact z_iret (pc := 115) hC hE dX6_high_115 (zMu_i rfl)
set_option maxHeartbeats 4000000 in
set_option maxRecDepth 100000 in
theorem kX6_firstOf (lx : Launch) (g : zG) (N : Nat) (I : Nat → Nat → Int32) (P : Nat → Nat → Option Nat) (J : Nat → Nat → Int64) (k : Nat) (hk : k < 20) : z_Ct lx yX6_firstOf (zT yX6_firstOf cX6_firstOf 1 (Option.some FieldType.int)) ({ frames := 0, cells := 0, slots := 0, locals := 0 } : Room) g N I P J [.int (nI k)] (zMu (some (.int (z_st 2 k))) I P J) 0 0 := by
  refine z_of (by decide) (Nat.le_of_ble_eq_true rfl) (lv0 := [(0, .int (nI k))]) rfl ?_
  intro C hlx hC hE hRm
  have hC : zX C cX6_firstOf 1 RX6 (zT yX6_firstOf cX6_firstOf 1 (Option.some FieldType.int)) g N := hC
  rcases (by omega : k = 0 ∨ k = 1 ∨ k = 2 ∨ k = 3 ∨ k = 4 ∨ k = 5 ∨ k = 6 ∨ k = 7 ∨ k = 8 ∨ k = 9 ∨ k = 10 ∨ k = 11 ∨ k = 12 ∨ k = 13 ∨ k = 14 ∨ k = 15 ∨ k = 16 ∨ k = 17 ∨ k = 18 ∨ k = 19) with rfl | rfl | rfl | rfl | rfl | rfl | rfl | rfl | rfl | rfl | rfl | rfl | rfl | rfl | rfl | rfl | rfl | rfl | rfl | rfl
  · skip
    refine z_iload_n (pc := 0) hC 0 dX6_firstOf_0 rfl rfl ?_
    refine z_tswD (pc := 1) (tgt := 82) hC dX6_firstOf_1 (by decide) (by decide) ?_
    refine z_iconst (pc := 82) (v := 0) hC dX6_firstOf_82 rfl ?_
    exact z_iret (pc := 83) hC hE dX6_firstOf_83 (zMu_i rfl)
  · skip
    refine z_iload_n (pc := 0) hC 0 dX6_firstOf_0 rfl rfl ?_
    refine z_tswD (pc := 1) (tgt := 82) hC dX6_firstOf_1 (by decide) (by decide) ?_
    refine z_iconst (pc := 82) (v := 0) hC dX6_firstOf_82 rfl ?_
    exact z_iret (pc := 83) hC hE dX6_firstOf_83 (zMu_i rfl)
  · skip
    refine z_iload_n (pc := 0) hC 0 dX6_firstOf_0 rfl rfl ?_
    refine z_tswD (pc := 1) (tgt := 82) hC dX6_firstOf_1 (by decide) (by decide) ?_
    refine z_iconst (pc := 82) (v := 0) hC dX6_firstOf_82 rfl ?_
    exact z_iret (pc := 83) hC hE dX6_firstOf_83 (zMu_i rfl)
  · skip
    refine z_iload_n (pc := 0) hC 0 dX6_firstOf_0 rfl rfl ?_
    refine z_tswK (pc := 1) (tgt := 72) hC dX6_firstOf_1 (by decide) (by decide) (by rfl) (by decide) ?_
    refine z_iconst (pc := 72) (v := 3) hC dX6_firstOf_72 rfl ?_
    exact z_iret (pc := 73) hC hE dX6_firstOf_73 (zMu_i rfl)
  · skip
    refine z_iload_n (pc := 0) hC 0 dX6_firstOf_0 rfl rfl ?_
    refine z_tswK (pc := 1) (tgt := 82) hC dX6_firstOf_1 (by decide) (by decide) (by rfl) (by decide) ?_
    refine z_iconst (pc := 82) (v := 0) hC dX6_firstOf_82 rfl ?_
    exact z_iret (pc := 83) hC hE dX6_firstOf_83 (zMu_i rfl)
  · skip
    refine z_iload_n (pc := 0) hC 0 dX6_firstOf_0 rfl rfl ?_
    refine z_tswK (pc := 1) (tgt := 82) hC dX6_firstOf_1 (by decide) (by decide) (by rfl) (by decide) ?_
    refine z_iconst (pc := 82) (v := 0) hC dX6_firstOf_82 rfl ?_
    exact z_iret (pc := 83) hC hE dX6_firstOf_83 (zMu_i rfl)
  · skip
    refine z_iload_n (pc := 0) hC 0 dX6_firstOf_0 rfl rfl ?_
    refine z_tswK (pc := 1) (tgt := 82) hC dX6_firstOf_1 (by decide) (by decide) (by rfl) (by decide) ?_
    refine z_iconst (pc := 82) (v := 0) hC dX6_firstOf_82 rfl ?_
    exact z_iret (pc := 83) hC hE dX6_firstOf_83 (zMu_i rfl)
  · skip
    refine z_iload_n (pc := 0) hC 0 dX6_firstOf_0 rfl rfl ?_
    refine z_tswK (pc := 1) (tgt := 74) hC dX6_firstOf_1 (by decide) (by decide) (by rfl) (by decide) ?_
    refine z_iconst (pc := 74) (v := (-1)) hC dX6_firstOf_74 rfl ?_
    exact z_iret (pc := 75) hC hE dX6_firstOf_75 (zMu_i rfl)
  · skip
    refine z_iload_n (pc := 0) hC 0 dX6_firstOf_0 rfl rfl ?_
    refine z_tswK (pc := 1) (tgt := 82) hC dX6_firstOf_1 (by decide) (by decide) (by rfl) (by decide) ?_
    refine z_iconst (pc := 82) (v := 0) hC dX6_firstOf_82 rfl ?_
    exact z_iret (pc := 83) hC hE dX6_firstOf_83 (zMu_i rfl)
  · skip
    refine z_iload_n (pc := 0) hC 0 dX6_firstOf_0 rfl rfl ?_
    refine z_tswK (pc := 1) (tgt := 76) hC dX6_firstOf_1 (by decide) (by decide) (by rfl) (by decide) ?_
    refine z_iconst (pc := 76) (v := 1) hC dX6_firstOf_76 rfl ?_
    exact z_iret (pc := 77) hC hE dX6_firstOf_77 (zMu_i rfl)
  · skip
    refine z_iload_n (pc := 0) hC 0 dX6_firstOf_0 rfl rfl ?_
    refine z_tswK (pc := 1) (tgt := 74) hC dX6_firstOf_1 (by decide) (by decide) (by rfl) (by decide) ?_
    refine z_iconst (pc := 74) (v := (-1)) hC dX6_firstOf_74 rfl ?_
    exact z_iret (pc := 75) hC hE dX6_firstOf_75 (zMu_i rfl)
  · skip
    refine z_iload_n (pc := 0) hC 0 dX6_firstOf_0 rfl rfl ?_
    refine z_tswK (pc := 1) (tgt := 74) hC dX6_firstOf_1 (by decide) (by decide) (by rfl) (by decide) ?_
    refine z_iconst (pc := 74) (v := (-1)) hC dX6_firstOf_74 rfl ?_
    exact z_iret (pc := 75) hC hE dX6_firstOf_75 (zMu_i rfl)
  · skip
    refine z_iload_n (pc := 0) hC 0 dX6_firstOf_0 rfl rfl ?_
    refine z_tswK (pc := 1) (tgt := 82) hC dX6_firstOf_1 (by decide) (by decide) (by rfl) (by decide) ?_
    refine z_iconst (pc := 82) (v := 0) hC dX6_firstOf_82 rfl ?_
    exact z_iret (pc := 83) hC hE dX6_firstOf_83 (zMu_i rfl)
  · skip
    refine z_iload_n (pc := 0) hC 0 dX6_firstOf_0 rfl rfl ?_
    refine z_tswK (pc := 1) (tgt := 82) hC dX6_firstOf_1 (by decide) (by decide) (by rfl) (by decide) ?_
    refine z_iconst (pc := 82) (v := 0) hC dX6_firstOf_82 rfl ?_
    exact z_iret (pc := 83) hC hE dX6_firstOf_83 (zMu_i rfl)
  · skip
    refine z_iload_n (pc := 0) hC 0 dX6_firstOf_0 rfl rfl ?_
    refine z_tswK (pc := 1) (tgt := 78) hC dX6_firstOf_1 (by decide) (by decide) (by rfl) (by decide) ?_
    refine z_sipush (pc := 78) (v := 10000) hC dX6_firstOf_78 rfl ?_
    exact z_iret (pc := 81) hC hE dX6_firstOf_81 (zMu_i rfl)
  · skip
    refine z_iload_n (pc := 0) hC 0 dX6_firstOf_0 rfl rfl ?_
    refine z_tswK (pc := 1) (tgt := 78) hC dX6_firstOf_1 (by decide) (by decide) (by rfl) (by decide) ?_
    refine z_sipush (pc := 78) (v := 10000) hC dX6_firstOf_78 rfl ?_
    exact z_iret (pc := 81) hC hE dX6_firstOf_81 (zMu_i rfl)
  · skip
    refine z_iload_n (pc := 0) hC 0 dX6_firstOf_0 rfl rfl ?_
    refine z_tswK (pc := 1) (tgt := 74) hC dX6_firstOf_1 (by decide) (by decide) (by rfl) (by decide) ?_
    refine z_iconst (pc := 74) (v := (-1)) hC dX6_firstOf_74 rfl ?_
    exact z_iret (pc := 75) hC hE dX6_firstOf_75 (zMu_i rfl)
  · skip
    refine z_iload_n (pc := 0) hC 0 dX6_firstOf_0 rfl rfl ?_
    refine z_tswD (pc := 1) (tgt := 82) hC dX6_firstOf_1 (by decide) (by decide) ?_
    refine z_iconst (pc := 82) (v := 0) hC dX6_firstOf_82 rfl ?_
    exact z_iret (pc := 83) hC hE dX6_firstOf_83 (zMu_i rfl)
  · skip
    refine z_iload_n (pc := 0) hC 0 dX6_firstOf_0 rfl rfl ?_
    refine z_tswD (pc := 1) (tgt := 82) hC dX6_firstOf_1 (by decide) (by decide) ?_
    refine z_iconst (pc := 82) (v := 0) hC dX6_firstOf_82 rfl ?_
    exact z_iret (pc := 83) hC hE dX6_firstOf_83 (zMu_i rfl)
  · skip
    refine z_iload_n (pc := 0) hC 0 dX6_firstOf_0 rfl rfl ?_
    refine z_tswD (pc := 1) (tgt := 82) hC dX6_firstOf_1 (by decide) (by decide) ?_
    refine z_iconst (pc := 82) (v := 0) hC dX6_firstOf_82 rfl ?_
    exact z_iret (pc := 83) hC hE dX6_firstOf_83 (zMu_i rfl)
set_option maxHeartbeats 4000000 in
set_option maxRecDepth 100000 in
theorem kX6_of (lx : Launch) (g : zG) (N : Nat) (I : Nat → Nat → Int32) (P : Nat → Nat → Option Nat) (J : Nat → Nat → Int64) {σ : zS} (hm : zMd σ I) (b k : Nat) (he : sEx σ b = true) (hk : k < 20) (x : Int32) (hx : x = nI k) : z_Ct lx yX6_of (zT yX6_of cX6_of 3 (Option.some FieldType.int)) ({ frames := 0, cells := 0, slots := 0, locals := 0 } : Room) g N I P J [.ref (g.1 95), .int (nI b), .int x] (zMu (some (.int (sSt σ b k))) I P J) 0 0 := by
  refine z_of (by decide) (Nat.le_of_ble_eq_true rfl) (lv0 := [(0, .ref (g.1 95)), (1, .int (nI b)), (2, .int x)]) rfl ?_
  intro C hlx hC hE hRm
  have hC : zX C cX6_of 3 RX6 (zT yX6_of cX6_of 3 (Option.some FieldType.int)) g N := hC
  refine z_aload_n (pc := 0) hC 0 dX6_of_0 rfl rfl z_isr_r ?_
  refine z_gF (pc := 1) hC 6 0 (t := 96) rfl (z_lt hC (by decide)) rfl inX6 (by decide) rfl zm_4_73 rfl dX6_of_1 ?_
  refine z_bipush (pc := 4) (v := 43) hC dX6_of_4 rfl ?_
  refine z_bipush (pc := 6) (v := 20) hC dX6_of_6 rfl ?_
  refine z_iload_n (pc := 8) hC 1 dX6_of_8 rfl rfl ?_
  refine z_imul (pc := 9) hC dX6_of_9 ?_
  refine z_iadd (pc := 10) hC dX6_of_10 ?_
  refine z_iload_n (pc := 11) hC 2 dX6_of_11 rfl rfl ?_
  refine z_iadd (pc := 12) hC dX6_of_12 ?_
  refine z_iaN (pc := 13) hC (43 + 20 * b + k) (x := sSt σ b k) rfl (z_lt hC (by decide)) (by rw [hx]; exact zix b k) (by have := (hm.lt he).2; omega) (by decide) (hm.2.2.2.2.2 b k he hk) dX6_of_13 ?_
  exact z_iret (pc := 14) hC hE dX6_of_14 (zMu_i rfl)
theorem zgv_nI {σ : zS} {I : Nat → Nat → Int32} (hm : zMd σ I) {x : Int32} (h0 : 0 ≤ x) (h1 : x ≤ nI (sGv σ) - 1) : ∃ b, b < sGv σ ∧ x = nI b := by
  have hg := hm.gv
  refine zi_nI (by omega) h0 ?_
  rw [zi_le] at h1
  have e : (nI (sGv σ) - 1).toInt = (sGv σ : Int) - 1 := by
    rw [Int32.toInt_sub, nI_toInt (by omega)]
    have e1 : (1 : Int32).toInt = 1 := rfl
    rw [e1]
    apply Int.bmod_eq_of_le <;> omega
  rw [zi_lt, nI_toInt (by omega)]
  omega
theorem zbx_out {σ : zS} {I : Nat → Nat → Int32} (hm : zMd σ I) {x : Int32} (h : ¬ (0 ≤ x ∧ x ≤ nI (sGv σ) - 1)) : zbx σ x = false := by
  by_cases q : zbx σ x = true
  · obtain ⟨b, rfl, hb, he⟩ := zbx_iff.mp q
    have hg := hm.gv
    have hl := (hm.lt he).1
    refine absurd ⟨(nI_40 hb).1, ?_⟩ h
    have e : (nI (sGv σ) - 1).toInt = (sGv σ : Int) - 1 := by
      rw [Int32.toInt_sub, nI_toInt (by omega)]
      have e1 : (1 : Int32).toInt = 1 := rfl
      rw [e1]
      apply Int.bmod_eq_of_le <;> omega
    rw [zi_le, e, nI_toInt (by omega)]
    omega
  · simpa using q
theorem zex_ge {σ : zS} {I : Nat → Nat → Int32} (hm : zMd σ I) {b : Nat} (h : ¬ (if sEx σ b = true then sPnu σ b else -2) < -1) : sEx σ b = true := by
  by_cases q : sEx σ b = true
  · exact q
  · rw [if_neg q] at h
    exact absurd (by decide) h
theorem zex_lt {σ : zS} {I : Nat → Nat → Int32} (hm : zMd σ I) {b : Nat} (h : (if sEx σ b = true then sPnu σ b else -2) < -1) : sEx σ b = false := by
  by_cases q : sEx σ b = true
  · rw [if_pos q] at h
    exact absurd h (sPnu_ge hm.1 q)
  · simpa using q
set_option maxHeartbeats 4000000 in
set_option maxRecDepth 100000 in
theorem kX6_isBox (lx : Launch) (g : zG) (N : Nat) (I : Nat → Nat → Int32) (P : Nat → Nat → Option Nat) (J : Nat → Nat → Int64) {σ : zS} (hm : zMd σ I) (x : Int32) : z_Ct lx yX6_isBox (zT yX6_isBox cX6_isBox 2 (Option.some FieldType.boolean)) ({ frames := 1, cells := 0, slots := 0, locals := 22 } : Room) g N I P J [.ref (g.1 95), .int x] (zMu (some (.int (zB (zbx σ x)))) I P J) 0 0 := by
  refine z_of (by decide) (Nat.le_of_ble_eq_true rfl) (lv0 := [(0, .ref (g.1 95)), (1, .int x)]) rfl ?_
  intro C hlx hC hE hRm
  have hC : zX C cX6_isBox 2 RX6 (zT yX6_isBox cX6_isBox 2 (Option.some FieldType.boolean)) g N := hC
  refine z_iload_n (pc := 0) hC 1 dX6_isBox_0 rfl rfl ?_
  refine z_iconst (pc := 1) (v := 0) hC dX6_isBox_1 rfl ?_
  refine z_aload_n (pc := 2) hC 0 dX6_isBox_2 rfl rfl z_isr_r ?_
  refine z_gF (pc := 3) hC 6 0 (t := 96) rfl (z_lt hC (by decide)) rfl inX6 (by decide) rfl zm_4_73 rfl dX6_isBox_3 ?_
  refine z_iconst (pc := 6) (v := 0) hC dX6_isBox_6 rfl ?_
  refine z_iaN (pc := 7) hC 0 (x := nI (sGv σ)) rfl (z_lt hC (by decide)) rfl (by decide) (by decide) hm.2.1 dX6_isBox_7 ?_
  refine z_iconst (pc := 8) (v := 1) hC dX6_isBox_8 rfl ?_
  refine z_isub (pc := 9) hC dX6_isBox_9 ?_
  refine z_cS (pc := 10) (st := []) hC [.int x, .int 0, .int ((nI (sGv σ)) - 1)] (kX6_in C.2.1 g N I P J x 0 ((nI (sGv σ)) - 1)) zkX6_in zm_4_135 ⟨rfl, rfl⟩ rfl rfl hRm ⟨Nat.le_of_ble_eq_true rfl, Nat.le_of_ble_eq_true rfl⟩ (Nat.le_of_ble_eq_true rfl) ⟨Nat.zero_le _, Nat.zero_le _⟩ dX6_isBox_10 ?_
  refine z_if_eq (pc := 13) (tgt := 32) hC dX6_isBox_13 (by decide) (fun h13 => ?_) (fun h13 => ?_)
  · skip
    have g13 := zB_f h13
    refine z_iconst (pc := 32) (v := 0) hC dX6_isBox_32 rfl ?_
    exact z_zret (pc := 33) hC hE (z_b01 (Or.inl rfl)) dX6_isBox_33 (zMu_i (by rw [zbx_out hm (of_decide_eq_false g13)]; rfl))
  · skip
    have g13 := zB_t h13
    obtain ⟨q0, q1⟩ := of_decide_eq_true g13
    obtain ⟨b, hb, rfl⟩ := zgv_nI hm q0 q1
    refine z_aload_n (pc := 16) hC 0 dX6_isBox_16 rfl rfl z_isr_r ?_
    refine z_gF (pc := 17) hC 6 0 (t := 96) rfl (z_lt hC (by decide)) rfl inX6 (by decide) rfl zm_4_73 rfl dX6_isBox_17 ?_
    refine z_iconst (pc := 20) (v := 3) hC dX6_isBox_20 rfl ?_
    refine z_iload_n (pc := 21) hC 1 dX6_isBox_21 rfl rfl ?_
    refine z_iadd (pc := 22) hC dX6_isBox_22 ?_
    refine z_iaN (pc := 23) hC (3 + b) (x := if sEx σ b = true then sPnu σ b else -2) rfl (z_lt hC (by decide)) (zix3 b) (by have := hm.gv; omega) (by decide) (hm.2.2.2.2.1 b hb) dX6_isBox_23 ?_
    refine z_iconst (pc := 24) (v := (-1)) hC dX6_isBox_24 rfl ?_
    refine z_icmp_lt (pc := 25) (tgt := 32) hC dX6_isBox_25 (by decide) (fun h25 => ?_) (fun h25 => ?_)
    · skip
      have g25 := Int32.not_le.mpr h25
      refine z_iconst (pc := 32) (v := 0) hC dX6_isBox_32 rfl ?_
      exact z_zret (pc := 33) hC hE (z_b01 (Or.inl rfl)) dX6_isBox_33 (zMu_i (by rw [zbx_nI (by have := hm.gv; omega), zex_lt hm h25]; rfl))
    · skip
      have g25 := Int32.not_lt.mp h25
      refine z_iconst (pc := 28) (v := 1) hC dX6_isBox_28 rfl ?_
      refine z_goto (pc := 29) (tgt := 33) hC dX6_isBox_29 (by decide) ?_
      exact z_zret (pc := 33) hC hE (z_b01 (Or.inr rfl)) dX6_isBox_33 (zMu_i (by rw [zbx_nI (by have := hm.gv; omega), zex_ge hm h25]; rfl))
set_option maxHeartbeats 4000000 in
set_option maxRecDepth 100000 in
theorem kX6_thrown (lx : Launch) (g : zG) (N : Nat) (I : Nat → Nat → Int32) (P : Nat → Nat → Option Nat) (J : Nat → Nat → Int64) (v : Int32) (hv : I 95 3 = v) : z_Ct lx yX6_thrown (zT yX6_thrown cX6_thrown 1 (Option.some FieldType.int)) ({ frames := 0, cells := 0, slots := 0, locals := 0 } : Room) g N I P J [.ref (g.1 95)] (zMu (some (.int v)) I P J) 0 0 := by
  refine z_of (by decide) (Nat.le_of_ble_eq_true rfl) (lv0 := [(0, .ref (g.1 95))]) rfl ?_
  intro C hlx hC hE hRm
  have hC : zX C cX6_thrown 1 RX6 (zT yX6_thrown cX6_thrown 1 (Option.some FieldType.int)) g N := hC
  refine z_aload_n (pc := 0) hC 0 dX6_thrown_0 rfl rfl z_isr_r ?_
  refine z_gI (pc := 1) hC 6 3 (x := v) rfl (z_lt hC (by decide)) rfl inX6 (by decide) rfl zm_4_76 hv dX6_thrown_1 ?_
  exact z_iret (pc := 4) hC hE dX6_thrown_4 (zMu_i rfl)
set_option maxHeartbeats 4000000 in
set_option maxRecDepth 100000 in
theorem kX6_isChild (lx : Launch) (g : zG) (N : Nat) (I : Nat → Nat → Int32) (P : Nat → Nat → Option Nat) (J : Nat → Nat → Int64) {σ : zS} (hm : zMd σ I) (b p : Nat) (hb : b < 40) (hp : p < 40) : z_Ct lx yX6_isChild (zT yX6_isChild cX6_isChild 3 (Option.some FieldType.boolean)) ({ frames := 2, cells := 0, slots := 0, locals := 43 } : Room) g N I P J [.ref (g.1 95), .int (nI b), .int (nI p)] (zMu (some (.int (zB (sK σ p b)))) I P J) 0 0 := by
  refine z_of (by decide) (Nat.le_of_ble_eq_true rfl) (lv0 := [(0, .ref (g.1 95)), (1, .int (nI b)), (2, .int (nI p))]) rfl ?_
  intro C hlx hC hE hRm
  have hC : zX C cX6_isChild 3 RX6 (zT yX6_isChild cX6_isChild 3 (Option.some FieldType.boolean)) g N := hC
  refine z_aload_n (pc := 0) hC 0 dX6_isChild_0 rfl rfl z_isr_r ?_
  refine z_iload_n (pc := 1) hC 1 dX6_isChild_1 rfl rfl ?_
  refine z_cV (pc := 2) (st := []) hC [.int (nI b)] (kX6_isBox C.2.1 g N I P J hm (nI b)) rfl (z_lt hC (by decide)) rfl zkX6_isBox zm_4_131 ⟨rfl, rfl⟩ rfl rfl hRm ⟨Nat.le_of_ble_eq_true rfl, Nat.le_of_ble_eq_true rfl⟩ (Nat.le_of_ble_eq_true rfl) ⟨Nat.zero_le _, Nat.zero_le _⟩ dX6_isChild_2 ?_
  refine z_if_eq (pc := 5) (tgt := 24) hC dX6_isChild_5 (by decide) (fun h5 => ?_) (fun h5 => ?_)
  · skip
    have g5 := zB_f h5
    rw [zbx_nI hb] at g5
    refine z_iconst (pc := 24) (v := 0) hC dX6_isChild_24 rfl ?_
    exact z_zret (pc := 25) hC hE (z_b01 (Or.inl rfl)) dX6_isChild_25 (zMu_i (by unfold sK; rw [g5, Bool.false_and, Bool.and_false]; rfl))
  · skip
    have g5 := zB_t h5
    rw [zbx_nI hb] at g5
    refine z_aload_n (pc := 8) hC 0 dX6_isChild_8 rfl rfl z_isr_r ?_
    refine z_gF (pc := 9) hC 6 0 (t := 96) rfl (z_lt hC (by decide)) rfl inX6 (by decide) rfl zm_4_73 rfl dX6_isChild_9 ?_
    refine z_iconst (pc := 12) (v := 3) hC dX6_isChild_12 rfl ?_
    refine z_iload_n (pc := 13) hC 1 dX6_isChild_13 rfl rfl ?_
    refine z_iadd (pc := 14) hC dX6_isChild_14 ?_
    refine z_iaN (pc := 15) hC (3 + b) (x := sPnu σ b) rfl (z_lt hC (by decide)) (zix3 b) (by omega) (by decide) (hm.pa g5) dX6_isChild_15 ?_
    refine z_iload_n (pc := 16) hC 2 dX6_isChild_16 rfl rfl ?_
    refine z_icmp_ne (pc := 17) (tgt := 24) hC dX6_isChild_17 (by decide) (fun h17 => ?_) (fun h17 => ?_)
    · skip
      refine z_iconst (pc := 24) (v := 0) hC dX6_isChild_24 rfl ?_
      exact z_zret (pc := 25) hC hE (z_b01 (Or.inl rfl)) dX6_isChild_25 (zMu_i (by rw [← zK_S hm.1 hp g5, decide_eq_false h17]; rfl))
    · skip
      refine z_iconst (pc := 20) (v := 1) hC dX6_isChild_20 rfl ?_
      refine z_goto (pc := 21) (tgt := 25) hC dX6_isChild_21 (by decide) ?_
      exact z_zret (pc := 25) hC hE (z_b01 (Or.inr rfl)) dX6_isChild_25 (zMu_i (by rw [← zK_S hm.1 hp g5, decide_eq_true h17]; rfl))
theorem nI_nlt2 {b c : Nat} (h : c < b) (hb : b < 40) : ¬ nI b < nI c := fun q => by
  rw [zi_lt, nI_toInt (by omega), nI_toInt (by omega)] at q
  omega
set_option maxHeartbeats 4000000 in
set_option maxRecDepth 100000 in
theorem kX6_isAhead (lx : Launch) (g : zG) (N : Nat) (I : Nat → Nat → Int32) (P : Nat → Nat → Option Nat) (J : Nat → Nat → Int64) {σ : zS} (hm : zMd σ I) (b c : Nat) (hb : sEx σ b = true) (hc : sEx σ c = true) (hcb : c < b) : z_Ct lx yX6_isAhead (zT yX6_isAhead cX6_isAhead 4 (Option.some FieldType.boolean)) ({ frames := 1, cells := 0, slots := 0, locals := 22 } : Room) g N I P J [.ref (g.1 95), .int (nI b), .int (nI c)] (zMu (some (.int (zB (decide (sSt σ b 17 < sSt σ c 17))))) I P J) 0 0 := by
  refine z_of (by decide) (Nat.le_of_ble_eq_true rfl) (lv0 := [(0, .ref (g.1 95)), (1, .int (nI b)), (2, .int (nI c))]) rfl ?_
  intro C hlx hC hE hRm
  have hC : zX C cX6_isAhead 4 RX6 (zT yX6_isAhead cX6_isAhead 4 (Option.some FieldType.boolean)) g N := hC
  refine z_aload_n (pc := 0) hC 0 dX6_isAhead_0 rfl rfl z_isr_r ?_
  refine z_iload_n (pc := 1) hC 1 dX6_isAhead_1 rfl rfl ?_
  refine z_bipush (pc := 2) (v := 17) hC dX6_isAhead_2 rfl ?_
  refine z_cV (pc := 4) (st := []) hC [.int (nI b), .int 17] (kX6_of C.2.1 g N I P J hm b 17 hb (by decide) 17 rfl) rfl (z_lt hC (by decide)) rfl zkX6_of zm_4_162 ⟨rfl, rfl⟩ rfl rfl hRm ⟨Nat.le_of_ble_eq_true rfl, Nat.le_of_ble_eq_true rfl⟩ (Nat.le_of_ble_eq_true rfl) ⟨Nat.zero_le _, Nat.zero_le _⟩ dX6_isAhead_4 ?_
  refine z_aload_n (pc := 7) hC 0 dX6_isAhead_7 rfl rfl z_isr_r ?_
  refine z_iload_n (pc := 8) hC 2 dX6_isAhead_8 rfl rfl ?_
  refine z_bipush (pc := 9) (v := 17) hC dX6_isAhead_9 rfl ?_
  refine z_cV (pc := 11) (st := [.int (sSt σ b 17)]) hC [.int (nI c), .int 17] (kX6_of C.2.1 g N I P J hm c 17 hc (by decide) 17 rfl) rfl (z_lt hC (by decide)) rfl zkX6_of zm_4_162 ⟨rfl, rfl⟩ rfl rfl hRm ⟨Nat.le_of_ble_eq_true rfl, Nat.le_of_ble_eq_true rfl⟩ (Nat.le_of_ble_eq_true rfl) ⟨Nat.zero_le _, Nat.zero_le _⟩ dX6_isAhead_11 ?_
  refine z_isub (pc := 14) hC dX6_isAhead_14 ?_
  refine z_istore_n (pc := 15) (lv' := [(3, .int ((sSt σ b 17) - (sSt σ c 17))), (0, .ref (g.1 95)), (1, .int (nI b)), (2, .int (nI c))]) hC dX6_isAhead_15 rfl (by decide) rfl ?_
  refine z_iload_n (pc := 16) hC 0 dX6_isAhead_16 rfl rfl ?_
  refine z_if_lt (pc := 17) (tgt := 29) hC dX6_isAhead_17 (by decide) (fun h17 => ?_) (fun h17 => ?_)
  · skip
    have g17 := Int32.not_le.mpr h17
    refine z_iconst (pc := 29) (v := 1) hC dX6_isAhead_29 rfl ?_
    refine z_goto (pc := 30) (tgt := 34) hC dX6_isAhead_30 (by decide) ?_
    exact z_zret (pc := 34) hC hE (z_b01 (Or.inr rfl)) dX6_isAhead_34 (zMu_i (by rw [decide_eq_true ((zord hm.1 hb hc).1.mp h17)]; rfl))
  · skip
    have g17 := Int32.not_lt.mp h17
    refine z_iload_n (pc := 20) hC 0 dX6_isAhead_20 rfl rfl ?_
    refine z_if_ne (pc := 21) (tgt := 33) hC dX6_isAhead_21 (by decide) (fun h21 => ?_) (fun h21 => ?_)
    · skip
      refine z_iconst (pc := 33) (v := 0) hC dX6_isAhead_33 rfl ?_
      exact z_zret (pc := 34) hC hE (z_b01 (Or.inl rfl)) dX6_isAhead_34 (zMu_i (by rw [decide_eq_false (fun q => absurd ((zord hm.1 hb hc).1.mpr q) (by first | exact h17 | exact g17))]; rfl))
    · skip
      refine z_iload_n (pc := 24) hC 2 dX6_isAhead_24 rfl rfl ?_
      refine z_iload_n (pc := 25) hC 3 dX6_isAhead_25 rfl rfl ?_
      refine z_icmp_ge (pc := 26) (tgt := 33) hC dX6_isAhead_26 (by decide) (fun h26 => ?_) (fun h26 => ?_)
      · skip
        have g26 := Int32.not_lt.mpr h26
        refine z_iconst (pc := 33) (v := 0) hC dX6_isAhead_33 rfl ?_
        exact z_zret (pc := 34) hC hE (z_b01 (Or.inl rfl)) dX6_isAhead_34 (zMu_i (by rw [decide_eq_false (fun q => absurd ((zord hm.1 hb hc).1.mpr q) (by first | exact h17 | exact g17))]; rfl))
      · skip
        have g26 := Int32.not_le.mp h26
        exact absurd g26 (nI_nlt2 hcb (hm.lt hb).2)
set_option maxHeartbeats 4000000 in
set_option maxRecDepth 100000 in
theorem kX6_notNegative (lx : Launch) (g : zG) (N : Nat) (I : Nat → Nat → Int32) (P : Nat → Nat → Option Nat) (J : Nat → Nat → Int64) (v : Int32) : z_Ct lx yX6_notNegative (zT yX6_notNegative cX6_notNegative 1 (Option.some FieldType.int)) ({ frames := 0, cells := 0, slots := 0, locals := 0 } : Room) g N I P J [.int v] (zMu (some (.int (zpos v))) I P J) 0 0 := by
  refine z_of (by decide) (Nat.le_of_ble_eq_true rfl) (lv0 := [(0, .int v)]) rfl ?_
  intro C hlx hC hE hRm
  have hC : zX C cX6_notNegative 1 RX6 (zT yX6_notNegative cX6_notNegative 1 (Option.some FieldType.int)) g N := hC
  refine z_iload_n (pc := 0) hC 0 dX6_notNegative_0 rfl rfl ?_
  refine z_if_ge (pc := 1) (tgt := 8) hC dX6_notNegative_1 (by decide) (fun h1 => ?_) (fun h1 => ?_)
  · skip
    have g1 := Int32.not_lt.mpr h1
    refine z_iload_n (pc := 8) hC 0 dX6_notNegative_8 rfl rfl ?_
    exact z_iret (pc := 9) hC hE dX6_notNegative_9 (zMu_i (by unfold zpos; rw [if_neg (Int32.not_lt.mpr h1)]))
  · skip
    have g1 := Int32.not_le.mp h1
    refine z_iconst (pc := 4) (v := 0) hC dX6_notNegative_4 rfl ?_
    refine z_goto (pc := 5) (tgt := 9) hC dX6_notNegative_5 (by decide) ?_
    exact z_iret (pc := 9) hC hE dX6_notNegative_9 (zMu_i (by unfold zpos; rw [if_pos (Int32.not_le.mp (fun q => h1 q))]))
set_option maxHeartbeats 4000000 in
set_option maxRecDepth 100000 in
theorem kX6_limited (lx : Launch) (g : zG) (N : Nat) (I : Nat → Nat → Int32) (P : Nat → Nat → Option Nat) (J : Nat → Nat → Int64) {σ : zS} (hm : zMd σ I) (b a : Nat) (he : sEx σ b = true) (ha : a < 2) (v : Int32) : z_Ct lx yX6_limited (zT yX6_limited cX6_limited 7 (Option.some FieldType.int)) ({ frames := 1, cells := 0, slots := 0, locals := 22 } : Room) g N I P J [.ref (g.1 95), .int (nI b), .int (nI a), .int v] (zMu (some (.int (zlim v (sSt σ b (12 + a)) (sSt σ b (14 + a))))) I P J) 0 0 := by
  refine z_of (by decide) (Nat.le_of_ble_eq_true rfl) (lv0 := [(0, .ref (g.1 95)), (1, .int (nI b)), (2, .int (nI a)), (3, .int v)]) rfl ?_
  intro C hlx hC hE hRm
  have hC : zX C cX6_limited 7 RX6 (zT yX6_limited cX6_limited 7 (Option.some FieldType.int)) g N := hC
  refine z_aload_n (pc := 0) hC 0 dX6_limited_0 rfl rfl z_isr_r ?_
  refine z_iload_n (pc := 1) hC 1 dX6_limited_1 rfl rfl ?_
  refine z_bipush (pc := 2) (v := 14) hC dX6_limited_2 rfl ?_
  refine z_iload_n (pc := 4) hC 2 dX6_limited_4 rfl rfl ?_
  refine z_iadd (pc := 5) hC dX6_limited_5 ?_
  refine z_cV (pc := 6) (st := []) hC [.int (nI b), .int (14 + (nI a))] (kX6_of C.2.1 g N I P J hm b (14 + a) he (by omega) (14 + (nI a)) (nI_add 14 a)) rfl (z_lt hC (by decide)) rfl zkX6_of zm_4_162 ⟨rfl, rfl⟩ rfl rfl hRm ⟨Nat.le_of_ble_eq_true rfl, Nat.le_of_ble_eq_true rfl⟩ (Nat.le_of_ble_eq_true rfl) ⟨Nat.zero_le _, Nat.zero_le _⟩ dX6_limited_6 ?_
  refine z_istore (pc := 9) (lv' := [(4, .int (sSt σ b (14 + a))), (0, .ref (g.1 95)), (1, .int (nI b)), (2, .int (nI a)), (3, .int v)]) hC dX6_limited_9 (by decide) rfl ?_
  refine z_aload_n (pc := 11) hC 1 dX6_limited_11 rfl rfl z_isr_r ?_
  refine z_iload_n (pc := 12) hC 2 dX6_limited_12 rfl rfl ?_
  refine z_bipush (pc := 13) (v := 12) hC dX6_limited_13 rfl ?_
  refine z_iload_n (pc := 15) hC 3 dX6_limited_15 rfl rfl ?_
  refine z_iadd (pc := 16) hC dX6_limited_16 ?_
  refine z_cV (pc := 17) (st := []) hC [.int (nI b), .int (12 + (nI a))] (kX6_of C.2.1 g N I P J hm b (12 + a) he (by omega) (12 + (nI a)) (nI_add 12 a)) rfl (z_lt hC (by decide)) rfl zkX6_of zm_4_162 ⟨rfl, rfl⟩ rfl rfl hRm ⟨Nat.le_of_ble_eq_true rfl, Nat.le_of_ble_eq_true rfl⟩ (Nat.le_of_ble_eq_true rfl) ⟨Nat.zero_le _, Nat.zero_le _⟩ dX6_limited_17 ?_
  refine z_istore (pc := 20) (lv' := [(5, .int (sSt σ b (12 + a))), (4, .int (sSt σ b (14 + a))), (0, .ref (g.1 95)), (1, .int (nI b)), (2, .int (nI a)), (3, .int v)]) hC dX6_limited_20 (by decide) rfl ?_
  refine z_iload_n (pc := 22) hC 5 dX6_limited_22 rfl rfl ?_
  refine z_iload (pc := 23) hC 1 dX6_limited_23 rfl ?_
  refine z_icmp_ge (pc := 25) (tgt := 32) hC dX6_limited_25 (by decide) (fun h25 => ?_) (fun h25 => ?_)
  · skip
    have g25 := Int32.not_lt.mpr h25
    refine z_iload (pc := 32) hC 1 dX6_limited_32 rfl ?_
    refine z_istore (pc := 34) (lv' := [(6, .int (sSt σ b (14 + a))), (5, .int (sSt σ b (12 + a))), (4, .int (sSt σ b (14 + a))), (0, .ref (g.1 95)), (1, .int (nI b)), (2, .int (nI a)), (3, .int v)]) hC dX6_limited_34 (by decide) rfl ?_
    refine z_iload (pc := 36) hC 0 dX6_limited_36 rfl ?_
    refine z_iload (pc := 38) hC 1 dX6_limited_38 rfl ?_
    refine z_icmp_le (pc := 40) (tgt := 48) hC dX6_limited_40 (by decide) (fun h40 => ?_) (fun h40 => ?_)
    · skip
      have g40 := Int32.not_lt.mpr h40
      refine z_iload (pc := 48) hC 1 dX6_limited_48 rfl ?_
      exact z_iret (pc := 50) hC hE dX6_limited_50 (zMu_i (by unfold zlim; simp [h25, g25, h40, g40]; try rfl))
    · skip
      have g40 := Int32.not_le.mp h40
      refine z_iload (pc := 43) hC 0 dX6_limited_43 rfl ?_
      refine z_goto (pc := 45) (tgt := 50) hC dX6_limited_45 (by decide) ?_
      exact z_iret (pc := 50) hC hE dX6_limited_50 (zMu_i (by unfold zlim; simp [h25, g25, h40, g40]; try rfl))
  · skip
    have g25 := Int32.not_le.mp h25
    refine z_iload_n (pc := 28) hC 5 dX6_limited_28 rfl rfl ?_
    refine z_goto (pc := 29) (tgt := 34) hC dX6_limited_29 (by decide) ?_
    refine z_istore (pc := 34) (lv' := [(6, .int v), (5, .int (sSt σ b (12 + a))), (4, .int (sSt σ b (14 + a))), (0, .ref (g.1 95)), (1, .int (nI b)), (2, .int (nI a)), (3, .int v)]) hC dX6_limited_34 (by decide) rfl ?_
    refine z_iload (pc := 36) hC 0 dX6_limited_36 rfl ?_
    refine z_iload (pc := 38) hC 1 dX6_limited_38 rfl ?_
    refine z_icmp_le (pc := 40) (tgt := 48) hC dX6_limited_40 (by decide) (fun h40 => ?_) (fun h40 => ?_)
    · skip
      have g40 := Int32.not_lt.mpr h40
      refine z_iload (pc := 48) hC 1 dX6_limited_48 rfl ?_
      exact z_iret (pc := 50) hC hE dX6_limited_50 (zMu_i (by unfold zlim; simp [h25, g25, h40, g40]; try rfl))
    · skip
      have g40 := Int32.not_le.mp h40
      refine z_iload (pc := 43) hC 0 dX6_limited_43 rfl ?_
      refine z_goto (pc := 45) (tgt := 50) hC dX6_limited_45 (by decide) ?_
      exact z_iret (pc := 50) hC hE dX6_limited_50 (zMu_i (by unfold zlim; simp [h25, g25, h40, g40]; try rfl))
set_option maxHeartbeats 4000000 in
set_option maxRecDepth 100000 in
theorem kX6_inner (lx : Launch) (g : zG) (N : Nat) (I : Nat → Nat → Int32) (P : Nat → Nat → Option Nat) (J : Nat → Nat → Int64) {σ : zS} (hm : zMd σ I) (b a : Nat) (he : sEx σ b = true) (ha : a < 2) (W : Int32) (hW : I 102 (2 * b + a) = W) : z_Ct lx yX6_inner (zT yX6_inner cX6_inner 3 (Option.some FieldType.int)) ({ frames := 1, cells := 0, slots := 0, locals := 22 } : Room) g N I P J [.ref (g.1 95), .int (nI b), .int (nI a)] (zMu (some (.int (sIn W (sSt σ b 5)))) I P J) 0 0 := by
  refine z_of (by decide) (Nat.le_of_ble_eq_true rfl) (lv0 := [(0, .ref (g.1 95)), (1, .int (nI b)), (2, .int (nI a))]) rfl ?_
  intro C hlx hC hE hRm
  have hC : zX C cX6_inner 3 RX6 (zT yX6_inner cX6_inner 3 (Option.some FieldType.int)) g N := hC
  refine z_aload_n (pc := 0) hC 0 dX6_inner_0 rfl rfl z_isr_r ?_
  refine z_gF (pc := 1) hC 6 8 (t := 102) rfl (z_lt hC (by decide)) rfl inX6 (by decide) rfl zm_4_81 rfl dX6_inner_1 ?_
  refine z_iconst (pc := 4) (v := 2) hC dX6_inner_4 rfl ?_
  refine z_iload_n (pc := 5) hC 1 dX6_inner_5 rfl rfl ?_
  refine z_imul (pc := 6) hC dX6_inner_6 ?_
  refine z_iload_n (pc := 7) hC 2 dX6_inner_7 rfl rfl ?_
  refine z_iadd (pc := 8) hC dX6_inner_8 ?_
  refine z_iaN (pc := 9) hC (2 * b + a) (x := W) rfl (z_lt hC (by decide)) (zix2 b a) (by have := (hm.lt he).2; omega) (by decide) hW dX6_inner_9 ?_
  refine z_iconst (pc := 10) (v := 2) hC dX6_inner_10 rfl ?_
  refine z_aload_n (pc := 11) hC 0 dX6_inner_11 rfl rfl z_isr_r ?_
  refine z_iload_n (pc := 12) hC 1 dX6_inner_12 rfl rfl ?_
  refine z_iconst (pc := 13) (v := 5) hC dX6_inner_13 rfl ?_
  refine z_cV (pc := 14) (st := [.int 2, .int W]) hC [.int (nI b), .int 5] (kX6_of C.2.1 g N I P J hm b 5 he (by decide) 5 rfl) rfl (z_lt hC (by decide)) rfl zkX6_of zm_4_162 ⟨rfl, rfl⟩ rfl rfl hRm ⟨Nat.le_of_ble_eq_true rfl, Nat.le_of_ble_eq_true rfl⟩ (Nat.le_of_ble_eq_true rfl) ⟨Nat.zero_le _, Nat.zero_le _⟩ dX6_inner_14 ?_
  refine z_imul (pc := 17) hC dX6_inner_17 ?_
  refine z_isub (pc := 18) hC dX6_inner_18 ?_
  refine z_cS (pc := 19) (st := []) hC [.int (W - (2 * (sSt σ b 5)))] (kX6_notNegative C.2.1 g N I P J (W - (2 * (sSt σ b 5)))) zkX6_notNegative zm_5_8 ⟨rfl, rfl⟩ rfl rfl hRm ⟨Nat.le_of_ble_eq_true rfl, Nat.le_of_ble_eq_true rfl⟩ (Nat.le_of_ble_eq_true rfl) ⟨Nat.zero_le _, Nat.zero_le _⟩ dX6_inner_19 ?_
  exact z_iret (pc := 22) hC hE dX6_inner_22 (zMu_i rfl)
set_option maxHeartbeats 4000000 in
set_option maxRecDepth 100000 in
theorem kX6_outer (lx : Launch) (g : zG) (N : Nat) (I : Nat → Nat → Int32) (P : Nat → Nat → Option Nat) (J : Nat → Nat → Int64) {σ : zS} (hm : zMd σ I) (b : Nat) (he : sEx σ b = true) (v : Int32) : z_Ct lx yX6_outer (zT yX6_outer cX6_outer 3 (Option.some FieldType.int)) ({ frames := 1, cells := 0, slots := 0, locals := 22 } : Room) g N I P J [.ref (g.1 95), .int (nI b), .int v] (zMu (some (.int (v + 2 * sSt σ b 6))) I P J) 0 0 := by
  refine z_of (by decide) (Nat.le_of_ble_eq_true rfl) (lv0 := [(0, .ref (g.1 95)), (1, .int (nI b)), (2, .int v)]) rfl ?_
  intro C hlx hC hE hRm
  have hC : zX C cX6_outer 3 RX6 (zT yX6_outer cX6_outer 3 (Option.some FieldType.int)) g N := hC
  refine z_iload_n (pc := 0) hC 2 dX6_outer_0 rfl rfl ?_
  refine z_iconst (pc := 1) (v := 2) hC dX6_outer_1 rfl ?_
  refine z_aload_n (pc := 2) hC 0 dX6_outer_2 rfl rfl z_isr_r ?_
  refine z_iload_n (pc := 3) hC 1 dX6_outer_3 rfl rfl ?_
  refine z_bipush (pc := 4) (v := 6) hC dX6_outer_4 rfl ?_
  refine z_cV (pc := 6) (st := [.int 2, .int v]) hC [.int (nI b), .int 6] (kX6_of C.2.1 g N I P J hm b 6 he (by decide) 6 rfl) rfl (z_lt hC (by decide)) rfl zkX6_of zm_4_162 ⟨rfl, rfl⟩ rfl rfl hRm ⟨Nat.le_of_ble_eq_true rfl, Nat.le_of_ble_eq_true rfl⟩ (Nat.le_of_ble_eq_true rfl) ⟨Nat.zero_le _, Nat.zero_le _⟩ dX6_outer_6 ?_
  refine z_imul (pc := 9) hC dX6_outer_9 ?_
  refine z_iadd (pc := 10) hC dX6_outer_10 ?_
  exact z_iret (pc := 11) hC hE dX6_outer_11 (zMu_i rfl)
set_option maxHeartbeats 4000000 in
set_option maxRecDepth 100000 in
theorem kX6_gapsOf (lx : Launch) (g : zG) (N : Nat) (I : Nat → Nat → Int32) (P : Nat → Nat → Option Nat) (J : Nat → Nat → Int64) {σ : zS} (hm : zMd σ I) (b : Nat) (he : sEx σ b = true) (n : Int32) : z_Ct lx yX6_gapsOf (zT yX6_gapsOf cX6_gapsOf 3 (Option.some FieldType.int)) ({ frames := 1, cells := 0, slots := 0, locals := 22 } : Room) g N I P J [.ref (g.1 95), .int (nI b), .int n] (zMu (some (.int (zgap n (sSt σ b 4)))) I P J) 0 0 := by
  refine z_of (by decide) (Nat.le_of_ble_eq_true rfl) (lv0 := [(0, .ref (g.1 95)), (1, .int (nI b)), (2, .int n)]) rfl ?_
  intro C hlx hC hE hRm
  have hC : zX C cX6_gapsOf 3 RX6 (zT yX6_gapsOf cX6_gapsOf 3 (Option.some FieldType.int)) g N := hC
  refine z_iload_n (pc := 0) hC 2 dX6_gapsOf_0 rfl rfl ?_
  refine z_iconst (pc := 1) (v := 1) hC dX6_gapsOf_1 rfl ?_
  refine z_icmp_le (pc := 2) (tgt := 18) hC dX6_gapsOf_2 (by decide) (fun h2 => ?_) (fun h2 => ?_)
  · skip
    have g2 := Int32.not_lt.mpr h2
    refine z_iconst (pc := 18) (v := 0) hC dX6_gapsOf_18 rfl ?_
    exact z_iret (pc := 19) hC hE dX6_gapsOf_19 (zMu_i (by unfold zgap; rw [if_neg (Int32.not_lt.mpr h2)]))
  · skip
    have g2 := Int32.not_le.mp h2
    refine z_iload_n (pc := 5) hC 2 dX6_gapsOf_5 rfl rfl ?_
    refine z_iconst (pc := 6) (v := 1) hC dX6_gapsOf_6 rfl ?_
    refine z_isub (pc := 7) hC dX6_gapsOf_7 ?_
    refine z_aload_n (pc := 8) hC 0 dX6_gapsOf_8 rfl rfl z_isr_r ?_
    refine z_iload_n (pc := 9) hC 1 dX6_gapsOf_9 rfl rfl ?_
    refine z_iconst (pc := 10) (v := 4) hC dX6_gapsOf_10 rfl ?_
    refine z_cV (pc := 11) (st := [.int (n - 1)]) hC [.int (nI b), .int 4] (kX6_of C.2.1 g N I P J hm b 4 he (by decide) 4 rfl) rfl (z_lt hC (by decide)) rfl zkX6_of zm_4_162 ⟨rfl, rfl⟩ rfl rfl hRm ⟨Nat.le_of_ble_eq_true rfl, Nat.le_of_ble_eq_true rfl⟩ (Nat.le_of_ble_eq_true rfl) ⟨Nat.zero_le _, Nat.zero_le _⟩ dX6_gapsOf_11 ?_
    refine z_imul (pc := 14) hC dX6_gapsOf_14 ?_
    refine z_goto (pc := 15) (tgt := 19) hC dX6_gapsOf_15 (by decide) ?_
    exact z_iret (pc := 19) hC hE dX6_gapsOf_19 (zMu_i (by unfold zgap; rw [if_pos g2]))
set_option maxHeartbeats 4000000 in
set_option maxRecDepth 100000 in
theorem kX6_alignment (lx : Launch) (g : zG) (N : Nat) (I : Nat → Nat → Int32) (P : Nat → Nat → Option Nat) (J : Nat → Nat → Int64) {σ : zS} (hm : zMd σ I) (b : Nat) (he : sEx σ b = true) (h0 : b ≠ 0) : z_Ct lx yX6_alignment (zT yX6_alignment cX6_alignment 2 (Option.some FieldType.int)) ({ frames := 1, cells := 0, slots := 0, locals := 22 } : Room) g N I P J [.ref (g.1 95), .int (nI b)] (zMu (some (.int (sAl σ b))) I P J) 0 0 := by
  refine z_of (by decide) (Nat.le_of_ble_eq_true rfl) (lv0 := [(0, .ref (g.1 95)), (1, .int (nI b))]) rfl ?_
  intro C hlx hC hE hRm
  have hC : zX C cX6_alignment 2 RX6 (zT yX6_alignment cX6_alignment 2 (Option.some FieldType.int)) g N := hC
  refine z_aload_n (pc := 0) hC 0 dX6_alignment_0 rfl rfl z_isr_r ?_
  refine z_iload_n (pc := 1) hC 1 dX6_alignment_1 rfl rfl ?_
  refine z_bipush (pc := 2) (v := 16) hC dX6_alignment_2 rfl ?_
  refine z_cV (pc := 4) (st := []) hC [.int (nI b), .int 16] (kX6_of C.2.1 g N I P J hm b 16 he (by decide) 16 rfl) rfl (z_lt hC (by decide)) rfl zkX6_of zm_4_162 ⟨rfl, rfl⟩ rfl rfl hRm ⟨Nat.le_of_ble_eq_true rfl, Nat.le_of_ble_eq_true rfl⟩ (Nat.le_of_ble_eq_true rfl) ⟨Nat.zero_le _, Nat.zero_le _⟩ dX6_alignment_4 ?_
  refine z_iconst (pc := 7) (v := (-1)) hC dX6_alignment_7 rfl ?_
  refine z_icmp_eq (pc := 8) (tgt := 21) hC dX6_alignment_8 (by decide) (fun h8 => ?_) (fun h8 => ?_)
  · skip
    refine z_aload_n (pc := 21) hC 0 dX6_alignment_21 rfl rfl z_isr_r ?_
    refine z_aload_n (pc := 22) hC 0 dX6_alignment_22 rfl rfl z_isr_r ?_
    refine z_gF (pc := 23) hC 6 0 (t := 96) rfl (z_lt hC (by decide)) rfl inX6 (by decide) rfl zm_4_73 rfl dX6_alignment_23 ?_
    refine z_iconst (pc := 26) (v := 3) hC dX6_alignment_26 rfl ?_
    refine z_iload_n (pc := 27) hC 1 dX6_alignment_27 rfl rfl ?_
    refine z_iadd (pc := 28) hC dX6_alignment_28 ?_
    refine z_iaN (pc := 29) hC (3 + b) (x := nI (sPa σ b)) rfl (z_lt hC (by decide)) (zix3 b) (by have := (hm.lt he).2; omega) (by decide) ((hm.pa he).trans (if_neg h0)) dX6_alignment_29 ?_
    refine z_iconst (pc := 30) (v := 3) hC dX6_alignment_30 rfl ?_
    refine z_cV (pc := 31) (st := []) hC [.int (nI (sPa σ b)), .int 3] (kX6_of C.2.1 g N I P J hm (sPa σ b) 3 (sPa_lt hm.1 he h0).2 (by decide) 3 rfl) rfl (z_lt hC (by decide)) rfl zkX6_of zm_4_162 ⟨rfl, rfl⟩ rfl rfl hRm ⟨Nat.le_of_ble_eq_true rfl, Nat.le_of_ble_eq_true rfl⟩ (Nat.le_of_ble_eq_true rfl) ⟨Nat.zero_le _, Nat.zero_le _⟩ dX6_alignment_31 ?_
    exact z_iret (pc := 34) hC hE dX6_alignment_34 (zMu_i (by unfold sAl; rw [if_pos h8]))
  · skip
    refine z_aload_n (pc := 11) hC 0 dX6_alignment_11 rfl rfl z_isr_r ?_
    refine z_iload_n (pc := 12) hC 1 dX6_alignment_12 rfl rfl ?_
    refine z_bipush (pc := 13) (v := 16) hC dX6_alignment_13 rfl ?_
    refine z_cV (pc := 15) (st := []) hC [.int (nI b), .int 16] (kX6_of C.2.1 g N I P J hm b 16 he (by decide) 16 rfl) rfl (z_lt hC (by decide)) rfl zkX6_of zm_4_162 ⟨rfl, rfl⟩ rfl rfl hRm ⟨Nat.le_of_ble_eq_true rfl, Nat.le_of_ble_eq_true rfl⟩ (Nat.le_of_ble_eq_true rfl) ⟨Nat.zero_le _, Nat.zero_le _⟩ dX6_alignment_15 ?_
    refine z_goto (pc := 18) (tgt := 34) hC dX6_alignment_18 (by decide) ?_
    exact z_iret (pc := 34) hC hE dX6_alignment_34 (zMu_i (by unfold sAl; rw [if_neg h8]))
set_option maxHeartbeats 4000000 in
set_option maxRecDepth 100000 in
theorem kX6_baseOf (lx : Launch) (g : zG) (N : Nat) (I : Nat → Nat → Int32) (P : Nat → Nat → Option Nat) (J : Nat → Nat → Int64) {σ : zS} (hm : zMd σ I) (b a : Nat) (he : sEx σ b = true) (ha : a < 2) (nat : Nat → Int32) (hn : I 101 (2 * b + a) = nat b) : z_Ct lx yX6_baseOf (zT yX6_baseOf cX6_baseOf 3 (Option.some FieldType.int)) ({ frames := 1, cells := 0, slots := 0, locals := 22 } : Room) g N I P J [.ref (g.1 95), .int (nI b), .int (nI a)] (zMu (some (.int (sB σ nat b))) I P J) 0 0 := by
  refine z_of (by decide) (Nat.le_of_ble_eq_true rfl) (lv0 := [(0, .ref (g.1 95)), (1, .int (nI b)), (2, .int (nI a))]) rfl ?_
  intro C hlx hC hE hRm
  have hC : zX C cX6_baseOf 3 RX6 (zT yX6_baseOf cX6_baseOf 3 (Option.some FieldType.int)) g N := hC
  refine z_aload_n (pc := 0) hC 0 dX6_baseOf_0 rfl rfl z_isr_r ?_
  refine z_iload_n (pc := 1) hC 1 dX6_baseOf_1 rfl rfl ?_
  refine z_bipush (pc := 2) (v := 7) hC dX6_baseOf_2 rfl ?_
  refine z_cV (pc := 4) (st := []) hC [.int (nI b), .int 7] (kX6_of C.2.1 g N I P J hm b 7 he (by decide) 7 rfl) rfl (z_lt hC (by decide)) rfl zkX6_of zm_4_162 ⟨rfl, rfl⟩ rfl rfl hRm ⟨Nat.le_of_ble_eq_true rfl, Nat.le_of_ble_eq_true rfl⟩ (Nat.le_of_ble_eq_true rfl) ⟨Nat.zero_le _, Nat.zero_le _⟩ dX6_baseOf_4 ?_
  refine z_iconst (pc := 7) (v := (-1)) hC dX6_baseOf_7 rfl ?_
  refine z_icmp_eq (pc := 8) (tgt := 21) hC dX6_baseOf_8 (by decide) (fun h8 => ?_) (fun h8 => ?_)
  · skip
    refine z_aload_n (pc := 21) hC 0 dX6_baseOf_21 rfl rfl z_isr_r ?_
    refine z_gF (pc := 22) hC 6 7 (t := 101) rfl (z_lt hC (by decide)) rfl inX6 (by decide) rfl zm_4_80 rfl dX6_baseOf_22 ?_
    refine z_iconst (pc := 25) (v := 2) hC dX6_baseOf_25 rfl ?_
    refine z_iload_n (pc := 26) hC 1 dX6_baseOf_26 rfl rfl ?_
    refine z_imul (pc := 27) hC dX6_baseOf_27 ?_
    refine z_iload_n (pc := 28) hC 2 dX6_baseOf_28 rfl rfl ?_
    refine z_iadd (pc := 29) hC dX6_baseOf_29 ?_
    refine z_iaN (pc := 30) hC (2 * b + a) (x := nat b) rfl (z_lt hC (by decide)) (zix2 b a) (by have := (hm.lt he).2; omega) (by decide) hn dX6_baseOf_30 ?_
    exact z_iret (pc := 31) hC hE dX6_baseOf_31 (zMu_i (by unfold sB; rw [if_pos h8]))
  · skip
    refine z_aload_n (pc := 11) hC 0 dX6_baseOf_11 rfl rfl z_isr_r ?_
    refine z_iload_n (pc := 12) hC 1 dX6_baseOf_12 rfl rfl ?_
    refine z_bipush (pc := 13) (v := 7) hC dX6_baseOf_13 rfl ?_
    refine z_cV (pc := 15) (st := []) hC [.int (nI b), .int 7] (kX6_of C.2.1 g N I P J hm b 7 he (by decide) 7 rfl) rfl (z_lt hC (by decide)) rfl zkX6_of zm_4_162 ⟨rfl, rfl⟩ rfl rfl hRm ⟨Nat.le_of_ble_eq_true rfl, Nat.le_of_ble_eq_true rfl⟩ (Nat.le_of_ble_eq_true rfl) ⟨Nat.zero_le _, Nat.zero_le _⟩ dX6_baseOf_15 ?_
    refine z_goto (pc := 18) (tgt := 31) hC dX6_baseOf_18 (by decide) ?_
    exact z_iret (pc := 31) hC hE dX6_baseOf_31 (zMu_i (by unfold sB; rw [if_neg h8]))
set_option maxHeartbeats 4000000 in
set_option maxRecDepth 100000 in
theorem kX6_startOf (lx : Launch) (g : zG) (N : Nat) (I : Nat → Nat → Int32) (P : Nat → Nat → Option Nat) (J : Nat → Nat → Int64) {σ : zS} (hm : zMd σ I) (b a : Nat) (he : sEx σ b = true) (ha : a < 2) (nat : Nat → Int32) (hn : I 101 (2 * b + a) = nat b) : z_Ct lx yX6_startOf (zT yX6_startOf cX6_startOf 3 (Option.some FieldType.int)) ({ frames := 2, cells := 0, slots := 0, locals := 48 } : Room) g N I P J [.ref (g.1 95), .int (nI b), .int (nI a)] (zMu (some (.int (zlim (sB σ nat b) (sSt σ b (12 + a)) (sSt σ b (14 + a))))) I P J) 0 0 := by
  refine z_of (by decide) (Nat.le_of_ble_eq_true rfl) (lv0 := [(0, .ref (g.1 95)), (1, .int (nI b)), (2, .int (nI a))]) rfl ?_
  intro C hlx hC hE hRm
  have hC : zX C cX6_startOf 3 RX6 (zT yX6_startOf cX6_startOf 3 (Option.some FieldType.int)) g N := hC
  refine z_aload_n (pc := 0) hC 0 dX6_startOf_0 rfl rfl z_isr_r ?_
  refine z_iload_n (pc := 1) hC 1 dX6_startOf_1 rfl rfl ?_
  refine z_iload_n (pc := 2) hC 2 dX6_startOf_2 rfl rfl ?_
  refine z_aload_n (pc := 3) hC 0 dX6_startOf_3 rfl rfl z_isr_r ?_
  refine z_iload_n (pc := 4) hC 1 dX6_startOf_4 rfl rfl ?_
  refine z_iload_n (pc := 5) hC 2 dX6_startOf_5 rfl rfl ?_
  refine z_cV (pc := 6) (st := [.int (nI a), .int (nI b), .ref (g.1 95)]) hC [.int (nI b), .int (nI a)] (kX6_baseOf C.2.1 g N I P J hm b a he ha nat hn) rfl (z_lt hC (by decide)) rfl zkX6_baseOf zm_5_31 ⟨rfl, rfl⟩ rfl rfl hRm ⟨Nat.le_of_ble_eq_true rfl, Nat.le_of_ble_eq_true rfl⟩ (Nat.le_of_ble_eq_true rfl) ⟨Nat.zero_le _, Nat.zero_le _⟩ dX6_startOf_6 ?_
  refine z_cV (pc := 9) (st := []) hC [.int (nI b), .int (nI a), .int (sB σ nat b)] (kX6_limited C.2.1 g N I P J hm b a he ha (sB σ nat b)) rfl (z_lt hC (by decide)) rfl zkX6_limited zm_4_232 ⟨rfl, rfl⟩ rfl rfl hRm ⟨Nat.le_of_ble_eq_true rfl, Nat.le_of_ble_eq_true rfl⟩ (Nat.le_of_ble_eq_true rfl) ⟨Nat.zero_le _, Nat.zero_le _⟩ dX6_startOf_9 ?_
  exact z_iret (pc := 12) hC hE dX6_startOf_12 (zMu_i rfl)
end ZM1
