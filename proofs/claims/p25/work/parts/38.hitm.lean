section ZHM2
theorem zkX2_kidsOverflow : z_pkS yX2_kidsOverflow cX2_kidsOverflow 4 (Option.some FieldType.int) 1 := ⟨zm_3_101, zm_1_4, zm_3_102, by decide, by decide, by decide +kernel⟩
theorem zkX2_textOverflow : z_pkS yX2_textOverflow cX2_textOverflow 3 (Option.some FieldType.int) 1 := ⟨zm_3_104, zm_1_4, zm_3_105, by decide, by decide, by decide +kernel⟩
theorem zkX2_topmostAt : z_pkV yX2_topmostAt cX2_topmostAt 6 (Option.some FieldType.int) RX2 2 := ⟨zm_3_111, zm_3_112, zm_1_4, zm_3_113, rfl, by decide, by decide, by decide +kernel⟩
theorem zkX2_paintedAfter : z_pkS yX2_paintedAfter cX2_paintedAfter 2 (Option.some (FieldType.object "FlexibleBoxes$Box")) 1 := ⟨zm_3_119, zm_1_4, zm_3_120, by decide, by decide, by decide +kernel⟩
theorem zkX2_narrowestFor : z_pkV yX2_narrowestFor cX2_narrowestFor 4 (Option.some FieldType.int) RX2 2 := ⟨zm_3_127, zm_3_128, zm_1_4, zm_3_129, rfl, by decide, by decide, by decide +kernel⟩
theorem zkX2_linesVary : z_pkS yX2_linesVary cX2_linesVary 1 (Option.some FieldType.boolean) 1 := ⟨zm_3_131, zm_1_4, zm_3_132, by decide, by decide, by decide +kernel⟩
theorem zkX2_linesAt : z_pkV yX2_linesAt cX2_linesAt 4 (Option.some FieldType.int) RX2 2 := ⟨zm_3_135, zs_X2_linesAt, zm_1_4, zm_3_136, rfl, by decide, by decide, by decide +kernel⟩
set_option maxHeartbeats 4000000 in
set_option maxRecDepth 100000 in
theorem kX2_kidsOverflow (lx : Launch) (g : zG) (N : Nat) (I : Nat → Nat → Int32) (P : Nat → Nat → Option Nat) (J : Nat → Nat → Int64) {σ : zS} (ht : zTr σ I P) (ha : zAr σ I P) (p : Nat) (he : sEx σ p = true) (hs : sSh σ p = true) : z_Ct lx yX2_kidsOverflow (zT yX2_kidsOverflow cX2_kidsOverflow 4 (Option.some FieldType.int)) ({ frames := 1, cells := 0, slots := 0, locals := 21 } : Room) g N I P J [.ref (g.1 p)] (zMu (some (.int (sOv σ p))) I P J) 0 0 := by
  refine z_of (by decide) (Nat.le_of_ble_eq_true rfl) (lv0 := [(0, .ref (g.1 p))]) rfl ?_
  intro C hlx hC hE hRm
  have hC : zX C cX2_kidsOverflow 4 RX2 (zT yX2_kidsOverflow cX2_kidsOverflow 4 (Option.some FieldType.int)) g N := hC
  refine z_iconst (pc := 0) (v := 0) hC dX2_kidsOverflow_0 rfl ?_
  refine z_istore_n (pc := 1) (lv' := [(1, .int 0), (0, .ref (g.1 p))]) hC dX2_kidsOverflow_1 rfl (by decide) rfl ?_
  refine z_iconst (pc := 2) (v := 0) hC dX2_kidsOverflow_2 rfl ?_
  refine z_istore_n (pc := 3) (lv' := [(2, .int 0), (1, .int 0), (0, .ref (g.1 p))]) hC dX2_kidsOverflow_3 rfl (by decide) rfl ?_
  refine z_aload_n (pc := 4) hC 2 dX2_kidsOverflow_4 rfl rfl z_isr_r ?_
  refine z_gP (pc := 5) hC 0 6 (v := va_rf (Option.map g.1 ((sKids σ p)[0]?))) (z_shb (zTr_lt ht he)) (z_ltb hC (zTr_lt ht he)) rfl inX0 (by decide) rfl zm_1_52 (by rw [(zLk_seg ha.1 (zTr_lt ht he)).2]) dX2_kidsOverflow_5 ?_
  refine z_astore_n (pc := 8) (lv' := [(3, va_rf (Option.map g.1 ((sKids σ p)[0]?))), (2, .int 0), (1, .int 0), (0, .ref (g.1 p))]) hC dX2_kidsOverflow_8 rfl (by decide) (z_isr_o _) rfl ?_
  have L9 : ∀ (zf : Nat) (d : Nat) (hd : d ≤ kn σ p), kn σ p - d < zf → zJ C g N 4 0 0 I P J 9 [(3, va_rf (Option.map g.1 ((sKids σ p)[d]?))), (2, .int (zB2 (zor (sOvY σ p) d))), (1, .int (zB (zor (sOvX σ p) d))), (0, .ref (g.1 p))] [] := by
    intro zf
    induction zf with
    | zero =>
      intro d hd hn2
      exact absurd hn2 (Nat.not_lt_zero _)
    | succ zf ih =>
      intro d hd hn2
      refine z_aload_n (pc := 9) hC 0 dX2_kidsOverflow_9 rfl rfl (z_isr_o _) ?_
      refine z_ifnull (pc := 10) (tgt := 93) hC dX2_kidsOverflow_10 (by decide) (fun h10 => ?_) (fun a10 h10 => ?_)
      · skip
        rw [h10]
        show zJ C g N 4 0 0 I P J 93 [(3, .null), (2, .int (zB2 (zor (sOvY σ p) d))), (1, .int (zB (zor (sOvX σ p) d))), (0, .ref (g.1 p))] []
        have ed : d = kn σ p := Nat.le_antisymm hd (List.getElem?_eq_none_iff.mp h10)
        refine z_iload_n (pc := 93) hC 2 dX2_kidsOverflow_93 rfl rfl ?_
        refine z_iload_n (pc := 94) hC 1 dX2_kidsOverflow_94 rfl rfl ?_
        refine z_iadd (pc := 95) hC dX2_kidsOverflow_95 ?_
        exact z_iret (pc := 96) hC hE dX2_kidsOverflow_96 (zMu_i (by rw [ed]; rfl))
      · skip
        rw [h10]
        show zJ C g N 4 0 0 I P J 13 [(3, .ref (g.1 a10)), (2, .int (zB2 (zor (sOvY σ p) d))), (1, .int (zB (zor (sOvX σ p) d))), (0, .ref (g.1 p))] []
        obtain ⟨hkd10, hik10, hmem10⟩ := sKids_get h10
        have hx10 := sKids_lt ht.1 hmem10
        have hs10 := sKids_sh ht.1 hs hmem10
        refine z_aload_n (pc := 13) hC 0 dX2_kidsOverflow_13 rfl rfl z_isr_r ?_
        refine z_gI (pc := 14) hC 0 12 (x := sX σ a10) (z_shb (zTr_lt ht hx10.2.2.1)) (z_ltb hC (zTr_lt ht hx10.2.2.1)) rfl inX0 (by decide) rfl zm_1_67 (ha.2 a10 hs10).2.2.1 dX2_kidsOverflow_14 ?_
        refine z_aload_n (pc := 17) hC 0 dX2_kidsOverflow_17 rfl rfl z_isr_r ?_
        refine z_gI (pc := 18) hC 0 14 (x := sWD σ a10) (z_shb (zTr_lt ht hx10.2.2.1)) (z_ltb hC (zTr_lt ht hx10.2.2.1)) rfl inX0 (by decide) rfl zm_1_72 (ha.2 a10 hs10).2.2.2.2.1 dX2_kidsOverflow_18 ?_
        refine z_iadd (pc := 21) hC dX2_kidsOverflow_21 ?_
        refine z_aload_n (pc := 22) hC 0 dX2_kidsOverflow_22 rfl rfl z_isr_r ?_
        refine z_bipush (pc := 23) (v := 6) hC dX2_kidsOverflow_23 rfl ?_
        refine z_cV (pc := 25) (st := [.int ((sX σ a10) + (sWD σ a10))]) hC [.int 6] (kX0_of C.2.1 g N I P J a10 6 (zTr_lt ht hx10.2.2.1) (by decide) 6 rfl (sSt σ a10 6) (zTr_st ht hx10.2.2.1 (by decide))) (z_shb (zTr_lt ht hx10.2.2.1)) (z_ltb hC (zTr_lt ht hx10.2.2.1)) rfl zkX0_of zm_2_125 ⟨rfl, rfl⟩ rfl rfl hRm ⟨Nat.le_of_ble_eq_true rfl, Nat.le_of_ble_eq_true rfl⟩ (Nat.le_of_ble_eq_true rfl) ⟨Nat.zero_le _, Nat.zero_le _⟩ dX2_kidsOverflow_25 ?_
        refine z_iadd (pc := 28) hC dX2_kidsOverflow_28 ?_
        refine z_aload_n (pc := 29) hC 3 dX2_kidsOverflow_29 rfl rfl z_isr_r ?_
        refine z_gI (pc := 30) hC 0 12 (x := sX σ p) (z_shb (zTr_lt ht he)) (z_ltb hC (zTr_lt ht he)) rfl inX0 (by decide) rfl zm_1_67 (ha.2 p hs).2.2.1 dX2_kidsOverflow_30 ?_
        refine z_aload_n (pc := 33) hC 3 dX2_kidsOverflow_33 rfl rfl z_isr_r ?_
        refine z_gI (pc := 34) hC 0 14 (x := sWD σ p) (z_shb (zTr_lt ht he)) (z_ltb hC (zTr_lt ht he)) rfl inX0 (by decide) rfl zm_1_72 (ha.2 p hs).2.2.2.2.1 dX2_kidsOverflow_34 ?_
        refine z_iadd (pc := 37) hC dX2_kidsOverflow_37 ?_
        refine z_aload_n (pc := 38) hC 3 dX2_kidsOverflow_38 rfl rfl z_isr_r ?_
        refine z_iconst (pc := 39) (v := 5) hC dX2_kidsOverflow_39 rfl ?_
        refine z_cV (pc := 40) (st := [.int ((sX σ p) + (sWD σ p)), .int (((sX σ a10) + (sWD σ a10)) + (sSt σ a10 6))]) hC [.int 5] (kX0_of C.2.1 g N I P J p 5 (zTr_lt ht he) (by decide) 5 rfl (sSt σ p 5) (zTr_st ht he (by decide))) (z_shb (zTr_lt ht he)) (z_ltb hC (zTr_lt ht he)) rfl zkX0_of zm_2_125 ⟨rfl, rfl⟩ rfl rfl hRm ⟨Nat.le_of_ble_eq_true rfl, Nat.le_of_ble_eq_true rfl⟩ (Nat.le_of_ble_eq_true rfl) ⟨Nat.zero_le _, Nat.zero_le _⟩ dX2_kidsOverflow_40 ?_
        refine z_isub (pc := 43) hC dX2_kidsOverflow_43 ?_
        refine z_icmp_le (pc := 44) (tgt := 49) hC dX2_kidsOverflow_44 (by decide) (fun h44 => ?_) (fun h44 => ?_)
        · skip
          have g44 := Int32.not_lt.mpr h44
          refine z_aload_n (pc := 49) hC 0 dX2_kidsOverflow_49 rfl rfl z_isr_r ?_
          refine z_gI (pc := 50) hC 0 13 (x := sY σ a10) (z_shb (zTr_lt ht hx10.2.2.1)) (z_ltb hC (zTr_lt ht hx10.2.2.1)) rfl inX0 (by decide) rfl zm_1_70 (ha.2 a10 hs10).2.2.2.1 dX2_kidsOverflow_50 ?_
          refine z_aload_n (pc := 53) hC 0 dX2_kidsOverflow_53 rfl rfl z_isr_r ?_
          refine z_gI (pc := 54) hC 0 15 (x := sHT σ a10) (z_shb (zTr_lt ht hx10.2.2.1)) (z_ltb hC (zTr_lt ht hx10.2.2.1)) rfl inX0 (by decide) rfl zm_1_75 (ha.2 a10 hs10).2.2.2.2.2.1 dX2_kidsOverflow_54 ?_
          refine z_iadd (pc := 57) hC dX2_kidsOverflow_57 ?_
          refine z_aload_n (pc := 58) hC 0 dX2_kidsOverflow_58 rfl rfl z_isr_r ?_
          refine z_bipush (pc := 59) (v := 6) hC dX2_kidsOverflow_59 rfl ?_
          refine z_cV (pc := 61) (st := [.int ((sY σ a10) + (sHT σ a10))]) hC [.int 6] (kX0_of C.2.1 g N I P J a10 6 (zTr_lt ht hx10.2.2.1) (by decide) 6 rfl (sSt σ a10 6) (zTr_st ht hx10.2.2.1 (by decide))) (z_shb (zTr_lt ht hx10.2.2.1)) (z_ltb hC (zTr_lt ht hx10.2.2.1)) rfl zkX0_of zm_2_125 ⟨rfl, rfl⟩ rfl rfl hRm ⟨Nat.le_of_ble_eq_true rfl, Nat.le_of_ble_eq_true rfl⟩ (Nat.le_of_ble_eq_true rfl) ⟨Nat.zero_le _, Nat.zero_le _⟩ dX2_kidsOverflow_61 ?_
          refine z_iadd (pc := 64) hC dX2_kidsOverflow_64 ?_
          refine z_aload_n (pc := 65) hC 3 dX2_kidsOverflow_65 rfl rfl z_isr_r ?_
          refine z_gI (pc := 66) hC 0 13 (x := sY σ p) (z_shb (zTr_lt ht he)) (z_ltb hC (zTr_lt ht he)) rfl inX0 (by decide) rfl zm_1_70 (ha.2 p hs).2.2.2.1 dX2_kidsOverflow_66 ?_
          refine z_aload_n (pc := 69) hC 3 dX2_kidsOverflow_69 rfl rfl z_isr_r ?_
          refine z_gI (pc := 70) hC 0 15 (x := sHT σ p) (z_shb (zTr_lt ht he)) (z_ltb hC (zTr_lt ht he)) rfl inX0 (by decide) rfl zm_1_75 (ha.2 p hs).2.2.2.2.2.1 dX2_kidsOverflow_70 ?_
          refine z_iadd (pc := 73) hC dX2_kidsOverflow_73 ?_
          refine z_aload_n (pc := 74) hC 3 dX2_kidsOverflow_74 rfl rfl z_isr_r ?_
          refine z_iconst (pc := 75) (v := 5) hC dX2_kidsOverflow_75 rfl ?_
          refine z_cV (pc := 76) (st := [.int ((sY σ p) + (sHT σ p)), .int (((sY σ a10) + (sHT σ a10)) + (sSt σ a10 6))]) hC [.int 5] (kX0_of C.2.1 g N I P J p 5 (zTr_lt ht he) (by decide) 5 rfl (sSt σ p 5) (zTr_st ht he (by decide))) (z_shb (zTr_lt ht he)) (z_ltb hC (zTr_lt ht he)) rfl zkX0_of zm_2_125 ⟨rfl, rfl⟩ rfl rfl hRm ⟨Nat.le_of_ble_eq_true rfl, Nat.le_of_ble_eq_true rfl⟩ (Nat.le_of_ble_eq_true rfl) ⟨Nat.zero_le _, Nat.zero_le _⟩ dX2_kidsOverflow_76 ?_
          refine z_isub (pc := 79) hC dX2_kidsOverflow_79 ?_
          refine z_icmp_le (pc := 80) (tgt := 85) hC dX2_kidsOverflow_80 (by decide) (fun h80 => ?_) (fun h80 => ?_)
          · skip
            have g80 := Int32.not_lt.mpr h80
            refine z_aload_n (pc := 85) hC 0 dX2_kidsOverflow_85 rfl rfl z_isr_r ?_
            refine z_gP (pc := 86) hC 0 7 (v := va_rf (Option.map g.1 ((sKids σ p)[d + 1]?))) (z_shb (zTr_lt ht hx10.2.2.1)) (z_ltb hC (zTr_lt ht hx10.2.2.1)) rfl inX0 (by decide) rfl zm_1_55 (by rw [(zLk_seg ha.1 (zTr_lt ht he)).1 d a10 h10]) dX2_kidsOverflow_86 ?_
            refine z_astore_n (pc := 89) (lv' := [(3, va_rf (Option.map g.1 ((sKids σ p)[d + 1]?))), (2, .int (zB2 (zor (sOvY σ p) d))), (1, .int (zB (zor (sOvX σ p) d))), (0, .ref (g.1 p))]) hC dX2_kidsOverflow_89 rfl (by decide) (z_isr_o _) rfl ?_
            refine z_goto (pc := 90) (tgt := 9) hC dX2_kidsOverflow_90 (by decide) ?_
            have K := ih (d + 1) (by omega) (by omega)
            rw [show zor (sOvX σ p) (d + 1) = zor (sOvX σ p) d from zor_f (decide_eq_false (by rw [hkd10]; exact Int32.not_lt.mpr h44)), show zor (sOvY σ p) (d + 1) = zor (sOvY σ p) d from zor_f (decide_eq_false (by rw [hkd10]; exact Int32.not_lt.mpr h80))] at K
            exact K
          · skip
            have g80 := Int32.not_le.mp h80
            refine z_iconst (pc := 83) (v := 2) hC dX2_kidsOverflow_83 rfl ?_
            refine z_istore_n (pc := 84) (lv' := [(2, .int 2), (3, .ref (g.1 a10)), (1, .int (zB (zor (sOvX σ p) d))), (0, .ref (g.1 p))]) hC dX2_kidsOverflow_84 rfl (by decide) rfl ?_
            refine z_aload_n (pc := 85) hC 1 dX2_kidsOverflow_85 rfl rfl z_isr_r ?_
            refine z_gP (pc := 86) hC 0 7 (v := va_rf (Option.map g.1 ((sKids σ p)[d + 1]?))) (z_shb (zTr_lt ht hx10.2.2.1)) (z_ltb hC (zTr_lt ht hx10.2.2.1)) rfl inX0 (by decide) rfl zm_1_55 (by rw [(zLk_seg ha.1 (zTr_lt ht he)).1 d a10 h10]) dX2_kidsOverflow_86 ?_
            refine z_astore_n (pc := 89) (lv' := [(3, va_rf (Option.map g.1 ((sKids σ p)[d + 1]?))), (2, .int 2), (1, .int (zB (zor (sOvX σ p) d))), (0, .ref (g.1 p))]) hC dX2_kidsOverflow_89 rfl (by decide) (z_isr_o _) rfl ?_
            refine z_goto (pc := 90) (tgt := 9) hC dX2_kidsOverflow_90 (by decide) ?_
            have K := ih (d + 1) (by omega) (by omega)
            rw [show zor (sOvX σ p) (d + 1) = zor (sOvX σ p) d from zor_f (decide_eq_false (by rw [hkd10]; exact Int32.not_lt.mpr h44)), show zor (sOvY σ p) (d + 1) = true from zor_t (decide_eq_true (by rw [hkd10]; exact g80))] at K
            exact K
        · skip
          have g44 := Int32.not_le.mp h44
          refine z_iconst (pc := 47) (v := 1) hC dX2_kidsOverflow_47 rfl ?_
          refine z_istore_n (pc := 48) (lv' := [(1, .int 1), (3, .ref (g.1 a10)), (2, .int (zB2 (zor (sOvY σ p) d))), (0, .ref (g.1 p))]) hC dX2_kidsOverflow_48 rfl (by decide) rfl ?_
          refine z_aload_n (pc := 49) hC 1 dX2_kidsOverflow_49 rfl rfl z_isr_r ?_
          refine z_gI (pc := 50) hC 0 13 (x := sY σ a10) (z_shb (zTr_lt ht hx10.2.2.1)) (z_ltb hC (zTr_lt ht hx10.2.2.1)) rfl inX0 (by decide) rfl zm_1_70 (ha.2 a10 hs10).2.2.2.1 dX2_kidsOverflow_50 ?_
          refine z_aload_n (pc := 53) hC 1 dX2_kidsOverflow_53 rfl rfl z_isr_r ?_
          refine z_gI (pc := 54) hC 0 15 (x := sHT σ a10) (z_shb (zTr_lt ht hx10.2.2.1)) (z_ltb hC (zTr_lt ht hx10.2.2.1)) rfl inX0 (by decide) rfl zm_1_75 (ha.2 a10 hs10).2.2.2.2.2.1 dX2_kidsOverflow_54 ?_
          refine z_iadd (pc := 57) hC dX2_kidsOverflow_57 ?_
          refine z_aload_n (pc := 58) hC 1 dX2_kidsOverflow_58 rfl rfl z_isr_r ?_
          refine z_bipush (pc := 59) (v := 6) hC dX2_kidsOverflow_59 rfl ?_
          refine z_cV (pc := 61) (st := [.int ((sY σ a10) + (sHT σ a10))]) hC [.int 6] (kX0_of C.2.1 g N I P J a10 6 (zTr_lt ht hx10.2.2.1) (by decide) 6 rfl (sSt σ a10 6) (zTr_st ht hx10.2.2.1 (by decide))) (z_shb (zTr_lt ht hx10.2.2.1)) (z_ltb hC (zTr_lt ht hx10.2.2.1)) rfl zkX0_of zm_2_125 ⟨rfl, rfl⟩ rfl rfl hRm ⟨Nat.le_of_ble_eq_true rfl, Nat.le_of_ble_eq_true rfl⟩ (Nat.le_of_ble_eq_true rfl) ⟨Nat.zero_le _, Nat.zero_le _⟩ dX2_kidsOverflow_61 ?_
          refine z_iadd (pc := 64) hC dX2_kidsOverflow_64 ?_
          refine z_aload_n (pc := 65) hC 3 dX2_kidsOverflow_65 rfl rfl z_isr_r ?_
          refine z_gI (pc := 66) hC 0 13 (x := sY σ p) (z_shb (zTr_lt ht he)) (z_ltb hC (zTr_lt ht he)) rfl inX0 (by decide) rfl zm_1_70 (ha.2 p hs).2.2.2.1 dX2_kidsOverflow_66 ?_
          refine z_aload_n (pc := 69) hC 3 dX2_kidsOverflow_69 rfl rfl z_isr_r ?_
          refine z_gI (pc := 70) hC 0 15 (x := sHT σ p) (z_shb (zTr_lt ht he)) (z_ltb hC (zTr_lt ht he)) rfl inX0 (by decide) rfl zm_1_75 (ha.2 p hs).2.2.2.2.2.1 dX2_kidsOverflow_70 ?_
          refine z_iadd (pc := 73) hC dX2_kidsOverflow_73 ?_
          refine z_aload_n (pc := 74) hC 3 dX2_kidsOverflow_74 rfl rfl z_isr_r ?_
          refine z_iconst (pc := 75) (v := 5) hC dX2_kidsOverflow_75 rfl ?_
          refine z_cV (pc := 76) (st := [.int ((sY σ p) + (sHT σ p)), .int (((sY σ a10) + (sHT σ a10)) + (sSt σ a10 6))]) hC [.int 5] (kX0_of C.2.1 g N I P J p 5 (zTr_lt ht he) (by decide) 5 rfl (sSt σ p 5) (zTr_st ht he (by decide))) (z_shb (zTr_lt ht he)) (z_ltb hC (zTr_lt ht he)) rfl zkX0_of zm_2_125 ⟨rfl, rfl⟩ rfl rfl hRm ⟨Nat.le_of_ble_eq_true rfl, Nat.le_of_ble_eq_true rfl⟩ (Nat.le_of_ble_eq_true rfl) ⟨Nat.zero_le _, Nat.zero_le _⟩ dX2_kidsOverflow_76 ?_
          refine z_isub (pc := 79) hC dX2_kidsOverflow_79 ?_
          refine z_icmp_le (pc := 80) (tgt := 85) hC dX2_kidsOverflow_80 (by decide) (fun h80 => ?_) (fun h80 => ?_)
          · skip
            have g80 := Int32.not_lt.mpr h80
            refine z_aload_n (pc := 85) hC 1 dX2_kidsOverflow_85 rfl rfl z_isr_r ?_
            refine z_gP (pc := 86) hC 0 7 (v := va_rf (Option.map g.1 ((sKids σ p)[d + 1]?))) (z_shb (zTr_lt ht hx10.2.2.1)) (z_ltb hC (zTr_lt ht hx10.2.2.1)) rfl inX0 (by decide) rfl zm_1_55 (by rw [(zLk_seg ha.1 (zTr_lt ht he)).1 d a10 h10]) dX2_kidsOverflow_86 ?_
            refine z_astore_n (pc := 89) (lv' := [(3, va_rf (Option.map g.1 ((sKids σ p)[d + 1]?))), (1, .int 1), (2, .int (zB2 (zor (sOvY σ p) d))), (0, .ref (g.1 p))]) hC dX2_kidsOverflow_89 rfl (by decide) (z_isr_o _) rfl ?_
            refine z_goto (pc := 90) (tgt := 9) hC dX2_kidsOverflow_90 (by decide) ?_
            refine z_lvs (lv' := [(3, va_rf (Option.map g.1 ((sKids σ p)[d + 1]?))), (2, .int (zB2 (zor (sOvY σ p) d))), (1, .int 1), (0, .ref (g.1 p))]) [0, 2, 1, 3] rfl ?_
            have K := ih (d + 1) (by omega) (by omega)
            rw [show zor (sOvX σ p) (d + 1) = true from zor_t (decide_eq_true (by rw [hkd10]; exact g44)), show zor (sOvY σ p) (d + 1) = zor (sOvY σ p) d from zor_f (decide_eq_false (by rw [hkd10]; exact Int32.not_lt.mpr h80))] at K
            exact K
          · skip
            have g80 := Int32.not_le.mp h80
            refine z_iconst (pc := 83) (v := 2) hC dX2_kidsOverflow_83 rfl ?_
            refine z_istore_n (pc := 84) (lv' := [(2, .int 2), (1, .int 1), (3, .ref (g.1 a10)), (0, .ref (g.1 p))]) hC dX2_kidsOverflow_84 rfl (by decide) rfl ?_
            refine z_aload_n (pc := 85) hC 2 dX2_kidsOverflow_85 rfl rfl z_isr_r ?_
            refine z_gP (pc := 86) hC 0 7 (v := va_rf (Option.map g.1 ((sKids σ p)[d + 1]?))) (z_shb (zTr_lt ht hx10.2.2.1)) (z_ltb hC (zTr_lt ht hx10.2.2.1)) rfl inX0 (by decide) rfl zm_1_55 (by rw [(zLk_seg ha.1 (zTr_lt ht he)).1 d a10 h10]) dX2_kidsOverflow_86 ?_
            refine z_astore_n (pc := 89) (lv' := [(3, va_rf (Option.map g.1 ((sKids σ p)[d + 1]?))), (2, .int 2), (1, .int 1), (0, .ref (g.1 p))]) hC dX2_kidsOverflow_89 rfl (by decide) (z_isr_o _) rfl ?_
            refine z_goto (pc := 90) (tgt := 9) hC dX2_kidsOverflow_90 (by decide) ?_
            have K := ih (d + 1) (by omega) (by omega)
            rw [show zor (sOvX σ p) (d + 1) = true from zor_t (decide_eq_true (by rw [hkd10]; exact g44)), show zor (sOvY σ p) (d + 1) = true from zor_t (decide_eq_true (by rw [hkd10]; exact g80))] at K
            exact K
  exact L9 (kn σ p + 1) 0 (Nat.zero_le _) (by omega)
set_option maxHeartbeats 4000000 in
set_option maxRecDepth 100000 in
theorem kX2_textOverflow (lx : Launch) (g : zG) (N : Nat) (I : Nat → Nat → Int32) (P : Nat → Nat → Option Nat) (J : Nat → Nat → Int64) {σ : zS} (ht : zTr σ I P) (ha : zAr σ I P) (p : Nat) (he : sEx σ p = true) (hs : sSh σ p = true) : z_Ct lx yX2_textOverflow (zT yX2_textOverflow cX2_textOverflow 3 (Option.some FieldType.int)) ({ frames := 2, cells := 0, slots := 0, locals := 41 } : Room) g N I P J [.ref (g.1 p)] (zMu (some (.int (sOvT σ p))) I P J) 0 0 := by
  refine z_of (by decide) (Nat.le_of_ble_eq_true rfl) (lv0 := [(0, .ref (g.1 p))]) rfl ?_
  intro C hlx hC hE hRm
  have hC : zX C cX2_textOverflow 3 RX2 (zT yX2_textOverflow cX2_textOverflow 3 (Option.some FieldType.int)) g N := hC
  refine z_aload_n (pc := 0) hC 0 dX2_textOverflow_0 rfl rfl z_isr_r ?_
  refine z_bipush (pc := 1) (v := 19) hC dX2_textOverflow_1 rfl ?_
  refine z_cV (pc := 3) (st := []) hC [.int 19] (kX0_of C.2.1 g N I P J p 19 (zTr_lt ht he) (by decide) 19 rfl (sSt σ p 19) (zTr_st ht he (by decide))) (z_shb (zTr_lt ht he)) (z_ltb hC (zTr_lt ht he)) rfl zkX0_of zm_2_125 ⟨rfl, rfl⟩ rfl rfl hRm ⟨Nat.le_of_ble_eq_true rfl, Nat.le_of_ble_eq_true rfl⟩ (Nat.le_of_ble_eq_true rfl) ⟨Nat.zero_le _, Nat.zero_le _⟩ dX2_textOverflow_3 ?_
  refine z_if_le (pc := 6) (tgt := 22) hC dX2_textOverflow_6 (by decide) (fun h6 => ?_) (fun h6 => ?_)
  · skip
    have g6 := Int32.not_lt.mpr h6
    refine z_iconst (pc := 22) (v := 0) hC dX2_textOverflow_22 rfl ?_
    refine z_istore_n (pc := 23) (lv' := [(1, .int 0), (0, .ref (g.1 p))]) hC dX2_textOverflow_23 rfl (by decide) rfl ?_
    refine z_bipush (pc := 24) (v := 16) hC dX2_textOverflow_24 rfl ?_
    refine z_aload_n (pc := 26) hC 1 dX2_textOverflow_26 rfl rfl z_isr_r ?_
    refine z_gI (pc := 27) hC 0 16 (x := sLC σ (sNW σ) p (sWD σ p)) (z_shb (zTr_lt ht he)) (z_ltb hC (zTr_lt ht he)) rfl inX0 (by decide) rfl zm_1_78 (ha.2 p hs).2.2.2.2.2.2.1 dX2_textOverflow_27 ?_
    refine z_imul (pc := 30) hC dX2_textOverflow_30 ?_
    refine z_aload_n (pc := 31) hC 1 dX2_textOverflow_31 rfl rfl z_isr_r ?_
    refine z_cV (pc := 32) (st := [.int (16 * (sLC σ (sNW σ) p (sWD σ p)))]) hC [] (kSX0_innerHeight C.2.1 g N I P J ht p he (sHT σ p) (ha.2 p hs).2.2.2.2.2.1) (z_shb (zTr_lt ht he)) (z_ltb hC (zTr_lt ht he)) rfl zkX0_innerHeight zm_3_7 ⟨rfl, rfl⟩ rfl rfl hRm ⟨Nat.le_of_ble_eq_true rfl, Nat.le_of_ble_eq_true rfl⟩ (Nat.le_of_ble_eq_true rfl) ⟨Nat.zero_le _, Nat.zero_le _⟩ dX2_textOverflow_32 ?_
    refine z_icmp_le (pc := 35) (tgt := 42) hC dX2_textOverflow_35 (by decide) (fun h35 => ?_) (fun h35 => ?_)
    · skip
      have g35 := Int32.not_lt.mpr h35
      refine z_iconst (pc := 42) (v := 0) hC dX2_textOverflow_42 rfl ?_
      refine z_istore_n (pc := 43) (lv' := [(2, .int 0), (1, .int 0), (0, .ref (g.1 p))]) hC dX2_textOverflow_43 rfl (by decide) rfl ?_
      refine z_iload_n (pc := 44) hC 1 dX2_textOverflow_44 rfl rfl ?_
      refine z_if_eq (pc := 45) (tgt := 52) hC dX2_textOverflow_45 (by decide) (fun h45 => ?_) (fun h45 => ?_)
      · skip
        refine z_iconst (pc := 52) (v := 0) hC dX2_textOverflow_52 rfl ?_
        refine z_iload_n (pc := 53) hC 0 dX2_textOverflow_53 rfl rfl ?_
        refine z_if_eq (pc := 54) (tgt := 61) hC dX2_textOverflow_54 (by decide) (fun h54 => ?_) (fun h54 => ?_)
        · skip
          refine z_iconst (pc := 61) (v := 0) hC dX2_textOverflow_61 rfl ?_
          refine z_iadd (pc := 62) hC dX2_textOverflow_62 ?_
          exact z_iret (pc := 63) hC hE dX2_textOverflow_63 (zMu_i (by unfold sOvT; rw [decide_eq_false (fun q : 0 < sSt σ p 19 ∧ sIn (sWD σ p) (sSt σ p 5) < 8 => Int32.not_lt.mpr h6 q.1)]; rw [decide_eq_false (Int32.not_lt.mpr h35)]; rfl))
        · skip
          exact absurd rfl h54
      · skip
        exact absurd rfl h45
    · skip
      have g35 := Int32.not_le.mp h35
      refine z_iconst (pc := 38) (v := 1) hC dX2_textOverflow_38 rfl ?_
      refine z_goto (pc := 39) (tgt := 43) hC dX2_textOverflow_39 (by decide) ?_
      refine z_istore_n (pc := 43) (lv' := [(2, .int 1), (1, .int 0), (0, .ref (g.1 p))]) hC dX2_textOverflow_43 rfl (by decide) rfl ?_
      refine z_iload_n (pc := 44) hC 1 dX2_textOverflow_44 rfl rfl ?_
      refine z_if_eq (pc := 45) (tgt := 52) hC dX2_textOverflow_45 (by decide) (fun h45 => ?_) (fun h45 => ?_)
      · skip
        refine z_iconst (pc := 52) (v := 0) hC dX2_textOverflow_52 rfl ?_
        refine z_iload_n (pc := 53) hC 0 dX2_textOverflow_53 rfl rfl ?_
        refine z_if_eq (pc := 54) (tgt := 61) hC dX2_textOverflow_54 (by decide) (fun h54 => ?_) (fun h54 => ?_)
        · skip
          exact absurd h54 (by decide)
        · skip
          refine z_iconst (pc := 57) (v := 2) hC dX2_textOverflow_57 rfl ?_
          refine z_goto (pc := 58) (tgt := 62) hC dX2_textOverflow_58 (by decide) ?_
          refine z_iadd (pc := 62) hC dX2_textOverflow_62 ?_
          exact z_iret (pc := 63) hC hE dX2_textOverflow_63 (zMu_i (by unfold sOvT; rw [decide_eq_false (fun q : 0 < sSt σ p 19 ∧ sIn (sWD σ p) (sSt σ p 5) < 8 => Int32.not_lt.mpr h6 q.1)]; rw [decide_eq_true g35]; rfl))
      · skip
        exact absurd rfl h45
  · skip
    have g6 := Int32.not_le.mp h6
    refine z_aload_n (pc := 9) hC 0 dX2_textOverflow_9 rfl rfl z_isr_r ?_
    refine z_cV (pc := 10) (st := []) hC [] (kSX0_innerWidth C.2.1 g N I P J ht p he (sWD σ p) (ha.2 p hs).2.2.2.2.1) (z_shb (zTr_lt ht he)) (z_ltb hC (zTr_lt ht he)) rfl zkX0_innerWidth zm_2_154 ⟨rfl, rfl⟩ rfl rfl hRm ⟨Nat.le_of_ble_eq_true rfl, Nat.le_of_ble_eq_true rfl⟩ (Nat.le_of_ble_eq_true rfl) ⟨Nat.zero_le _, Nat.zero_le _⟩ dX2_textOverflow_10 ?_
    refine z_bipush (pc := 13) (v := 8) hC dX2_textOverflow_13 rfl ?_
    refine z_icmp_ge (pc := 15) (tgt := 22) hC dX2_textOverflow_15 (by decide) (fun h15 => ?_) (fun h15 => ?_)
    · skip
      have g15 := Int32.not_lt.mpr h15
      refine z_iconst (pc := 22) (v := 0) hC dX2_textOverflow_22 rfl ?_
      refine z_istore_n (pc := 23) (lv' := [(1, .int 0), (0, .ref (g.1 p))]) hC dX2_textOverflow_23 rfl (by decide) rfl ?_
      refine z_bipush (pc := 24) (v := 16) hC dX2_textOverflow_24 rfl ?_
      refine z_aload_n (pc := 26) hC 1 dX2_textOverflow_26 rfl rfl z_isr_r ?_
      refine z_gI (pc := 27) hC 0 16 (x := sLC σ (sNW σ) p (sWD σ p)) (z_shb (zTr_lt ht he)) (z_ltb hC (zTr_lt ht he)) rfl inX0 (by decide) rfl zm_1_78 (ha.2 p hs).2.2.2.2.2.2.1 dX2_textOverflow_27 ?_
      refine z_imul (pc := 30) hC dX2_textOverflow_30 ?_
      refine z_aload_n (pc := 31) hC 1 dX2_textOverflow_31 rfl rfl z_isr_r ?_
      refine z_cV (pc := 32) (st := [.int (16 * (sLC σ (sNW σ) p (sWD σ p)))]) hC [] (kSX0_innerHeight C.2.1 g N I P J ht p he (sHT σ p) (ha.2 p hs).2.2.2.2.2.1) (z_shb (zTr_lt ht he)) (z_ltb hC (zTr_lt ht he)) rfl zkX0_innerHeight zm_3_7 ⟨rfl, rfl⟩ rfl rfl hRm ⟨Nat.le_of_ble_eq_true rfl, Nat.le_of_ble_eq_true rfl⟩ (Nat.le_of_ble_eq_true rfl) ⟨Nat.zero_le _, Nat.zero_le _⟩ dX2_textOverflow_32 ?_
      refine z_icmp_le (pc := 35) (tgt := 42) hC dX2_textOverflow_35 (by decide) (fun h35 => ?_) (fun h35 => ?_)
      · skip
        have g35 := Int32.not_lt.mpr h35
        refine z_iconst (pc := 42) (v := 0) hC dX2_textOverflow_42 rfl ?_
        refine z_istore_n (pc := 43) (lv' := [(2, .int 0), (1, .int 0), (0, .ref (g.1 p))]) hC dX2_textOverflow_43 rfl (by decide) rfl ?_
        refine z_iload_n (pc := 44) hC 1 dX2_textOverflow_44 rfl rfl ?_
        refine z_if_eq (pc := 45) (tgt := 52) hC dX2_textOverflow_45 (by decide) (fun h45 => ?_) (fun h45 => ?_)
        · skip
          refine z_iconst (pc := 52) (v := 0) hC dX2_textOverflow_52 rfl ?_
          refine z_iload_n (pc := 53) hC 0 dX2_textOverflow_53 rfl rfl ?_
          refine z_if_eq (pc := 54) (tgt := 61) hC dX2_textOverflow_54 (by decide) (fun h54 => ?_) (fun h54 => ?_)
          · skip
            refine z_iconst (pc := 61) (v := 0) hC dX2_textOverflow_61 rfl ?_
            refine z_iadd (pc := 62) hC dX2_textOverflow_62 ?_
            exact z_iret (pc := 63) hC hE dX2_textOverflow_63 (zMu_i (by unfold sOvT; rw [decide_eq_false (fun q : 0 < sSt σ p 19 ∧ sIn (sWD σ p) (sSt σ p 5) < 8 => Int32.not_lt.mpr h15 q.2)]; rw [decide_eq_false (Int32.not_lt.mpr h35)]; rfl))
          · skip
            exact absurd rfl h54
        · skip
          exact absurd rfl h45
      · skip
        have g35 := Int32.not_le.mp h35
        refine z_iconst (pc := 38) (v := 1) hC dX2_textOverflow_38 rfl ?_
        refine z_goto (pc := 39) (tgt := 43) hC dX2_textOverflow_39 (by decide) ?_
        refine z_istore_n (pc := 43) (lv' := [(2, .int 1), (1, .int 0), (0, .ref (g.1 p))]) hC dX2_textOverflow_43 rfl (by decide) rfl ?_
        refine z_iload_n (pc := 44) hC 1 dX2_textOverflow_44 rfl rfl ?_
        refine z_if_eq (pc := 45) (tgt := 52) hC dX2_textOverflow_45 (by decide) (fun h45 => ?_) (fun h45 => ?_)
        · skip
          refine z_iconst (pc := 52) (v := 0) hC dX2_textOverflow_52 rfl ?_
          refine z_iload_n (pc := 53) hC 0 dX2_textOverflow_53 rfl rfl ?_
          refine z_if_eq (pc := 54) (tgt := 61) hC dX2_textOverflow_54 (by decide) (fun h54 => ?_) (fun h54 => ?_)
          · skip
            exact absurd h54 (by decide)
          · skip
            refine z_iconst (pc := 57) (v := 2) hC dX2_textOverflow_57 rfl ?_
            refine z_goto (pc := 58) (tgt := 62) hC dX2_textOverflow_58 (by decide) ?_
            refine z_iadd (pc := 62) hC dX2_textOverflow_62 ?_
            exact z_iret (pc := 63) hC hE dX2_textOverflow_63 (zMu_i (by unfold sOvT; rw [decide_eq_false (fun q : 0 < sSt σ p 19 ∧ sIn (sWD σ p) (sSt σ p 5) < 8 => Int32.not_lt.mpr h15 q.2)]; rw [decide_eq_true g35]; rfl))
        · skip
          exact absurd rfl h45
    · skip
      have g15 := Int32.not_le.mp h15
      refine z_iconst (pc := 18) (v := 1) hC dX2_textOverflow_18 rfl ?_
      refine z_goto (pc := 19) (tgt := 23) hC dX2_textOverflow_19 (by decide) ?_
      refine z_istore_n (pc := 23) (lv' := [(1, .int 1), (0, .ref (g.1 p))]) hC dX2_textOverflow_23 rfl (by decide) rfl ?_
      refine z_bipush (pc := 24) (v := 16) hC dX2_textOverflow_24 rfl ?_
      refine z_aload_n (pc := 26) hC 1 dX2_textOverflow_26 rfl rfl z_isr_r ?_
      refine z_gI (pc := 27) hC 0 16 (x := sLC σ (sNW σ) p (sWD σ p)) (z_shb (zTr_lt ht he)) (z_ltb hC (zTr_lt ht he)) rfl inX0 (by decide) rfl zm_1_78 (ha.2 p hs).2.2.2.2.2.2.1 dX2_textOverflow_27 ?_
      refine z_imul (pc := 30) hC dX2_textOverflow_30 ?_
      refine z_aload_n (pc := 31) hC 1 dX2_textOverflow_31 rfl rfl z_isr_r ?_
      refine z_cV (pc := 32) (st := [.int (16 * (sLC σ (sNW σ) p (sWD σ p)))]) hC [] (kSX0_innerHeight C.2.1 g N I P J ht p he (sHT σ p) (ha.2 p hs).2.2.2.2.2.1) (z_shb (zTr_lt ht he)) (z_ltb hC (zTr_lt ht he)) rfl zkX0_innerHeight zm_3_7 ⟨rfl, rfl⟩ rfl rfl hRm ⟨Nat.le_of_ble_eq_true rfl, Nat.le_of_ble_eq_true rfl⟩ (Nat.le_of_ble_eq_true rfl) ⟨Nat.zero_le _, Nat.zero_le _⟩ dX2_textOverflow_32 ?_
      refine z_icmp_le (pc := 35) (tgt := 42) hC dX2_textOverflow_35 (by decide) (fun h35 => ?_) (fun h35 => ?_)
      · skip
        have g35 := Int32.not_lt.mpr h35
        refine z_iconst (pc := 42) (v := 0) hC dX2_textOverflow_42 rfl ?_
        refine z_istore_n (pc := 43) (lv' := [(2, .int 0), (1, .int 1), (0, .ref (g.1 p))]) hC dX2_textOverflow_43 rfl (by decide) rfl ?_
        refine z_iload_n (pc := 44) hC 1 dX2_textOverflow_44 rfl rfl ?_
        refine z_if_eq (pc := 45) (tgt := 52) hC dX2_textOverflow_45 (by decide) (fun h45 => ?_) (fun h45 => ?_)
        · skip
          exact absurd h45 (by decide)
        · skip
          refine z_iconst (pc := 48) (v := 1) hC dX2_textOverflow_48 rfl ?_
          refine z_goto (pc := 49) (tgt := 53) hC dX2_textOverflow_49 (by decide) ?_
          refine z_iload_n (pc := 53) hC 0 dX2_textOverflow_53 rfl rfl ?_
          refine z_if_eq (pc := 54) (tgt := 61) hC dX2_textOverflow_54 (by decide) (fun h54 => ?_) (fun h54 => ?_)
          · skip
            refine z_iconst (pc := 61) (v := 0) hC dX2_textOverflow_61 rfl ?_
            refine z_iadd (pc := 62) hC dX2_textOverflow_62 ?_
            exact z_iret (pc := 63) hC hE dX2_textOverflow_63 (zMu_i (by unfold sOvT; rw [decide_eq_true (⟨g6, g15⟩ : 0 < sSt σ p 19 ∧ sIn (sWD σ p) (sSt σ p 5) < 8)]; rw [decide_eq_false (Int32.not_lt.mpr h35)]; rfl))
          · skip
            exact absurd rfl h54
      · skip
        have g35 := Int32.not_le.mp h35
        refine z_iconst (pc := 38) (v := 1) hC dX2_textOverflow_38 rfl ?_
        refine z_goto (pc := 39) (tgt := 43) hC dX2_textOverflow_39 (by decide) ?_
        refine z_istore_n (pc := 43) (lv' := [(2, .int 1), (1, .int 1), (0, .ref (g.1 p))]) hC dX2_textOverflow_43 rfl (by decide) rfl ?_
        refine z_iload_n (pc := 44) hC 1 dX2_textOverflow_44 rfl rfl ?_
        refine z_if_eq (pc := 45) (tgt := 52) hC dX2_textOverflow_45 (by decide) (fun h45 => ?_) (fun h45 => ?_)
        · skip
          exact absurd h45 (by decide)
        · skip
          refine z_iconst (pc := 48) (v := 1) hC dX2_textOverflow_48 rfl ?_
          refine z_goto (pc := 49) (tgt := 53) hC dX2_textOverflow_49 (by decide) ?_
          refine z_iload_n (pc := 53) hC 0 dX2_textOverflow_53 rfl rfl ?_
          refine z_if_eq (pc := 54) (tgt := 61) hC dX2_textOverflow_54 (by decide) (fun h54 => ?_) (fun h54 => ?_)
          · skip
            exact absurd h54 (by decide)
          · skip
            refine z_iconst (pc := 57) (v := 2) hC dX2_textOverflow_57 rfl ?_
            refine z_goto (pc := 58) (tgt := 62) hC dX2_textOverflow_58 (by decide) ?_
            refine z_iadd (pc := 62) hC dX2_textOverflow_62 ?_
            exact z_iret (pc := 63) hC hE dX2_textOverflow_63 (zMu_i (by unfold sOvT; rw [decide_eq_true (⟨g6, g15⟩ : 0 < sSt σ p 19 ∧ sIn (sWD σ p) (sSt σ p 5) < 8)]; rw [decide_eq_true g35]; rfl))
theorem zNk_S {σ : zS} {I : Nat → Nat → Int32} {P : Nat → Nat → Option Nat} (ht : zTr σ I P) (hl : zLk σ I P) {c : Nat} (hs : sSh σ c = true) : P c 7 = sNk σ c := by
  unfold sNk
  by_cases h0 : c = 0
  · rw [if_pos h0, h0]; exact hl.2
  · have q := sKid_at ht.1 hs h0
    rw [if_neg h0]
    exact (zLk_seg hl (Nat.lt_trans q.2.1 (sSh_ex ht.1 hs).1)).1 _ _ q.1
theorem zPp_S {σ : zS} {I : Nat → Nat → Int32} {P : Nat → Nat → Option Nat} (ht : zTr σ I P) {c : Nat} (hs : sSh σ c = true) : P c 3 = sPp σ c := by
  unfold sPp
  by_cases h0 : c = 0
  · rw [if_pos h0, h0]; exact ht.2.2.2.2.1
  · rw [if_neg h0]
    exact ht.2.2.2.1 c (sSh_ex ht.1 hs).2 h0
theorem zaf_n {σ : zS} (hw : sWF σ) {c d : Nat} (hs : sSh σ c = true) (h : sNk σ c = some d) : sAf σ c = some d := by
  have h0 : c ≠ 0 := fun e => by
    unfold sNk at h
    rw [if_pos e] at h
    cases h
  rw [sAf_fix hw (sSh_ex hw hs).2 (sSh_ex hw hs).1 h0, h]
  rfl
theorem zaf_s {σ : zS} (hw : sWF σ) {b c : Nat} (hs : sSh σ c = true) (h : sNk σ c = none) (hc : sAf σ c = sAf σ b) : (∀ d, sPp σ c = some d → sSh σ d = true ∧ sAf σ d = sAf σ b) ∧ (sPp σ c = none → sAf σ b = none) := by
  unfold sPp
  by_cases h0 : c = 0
  · rw [if_pos h0]
    exact ⟨fun d hd => (by cases hd), fun _ => (by rw [← hc, h0]; rfl)⟩
  · rw [if_neg h0]
    refine ⟨fun d hd => ?_, fun q => by cases q⟩
    cases hd
    refine ⟨(sKid_at hw hs h0).2.2, ?_⟩
    rw [← hc, sAf_fix hw (sSh_ex hw hs).2 (sSh_ex hw hs).1 h0, h]
    rfl
theorem zaf_m {σ : zS} (hw : sWF σ) {c : Nat} (hs : sSh σ c = true) : ((sPp σ c).elim 0 fun d => d + 1) < c + 1 := by
  unfold sPp
  by_cases h0 : c = 0
  · rw [if_pos h0]; exact Nat.succ_pos _
  · rw [if_neg h0]
    have := (sKid_at hw hs h0).2.1
    show sPa σ c + 1 < c + 1
    omega
theorem zcov_S {σ : zS} {I : Nat → Nat → Int32} {P : Nat → Nat → Option Nat} (ha : zAr σ I P) {c : Nat} (hs : sSh σ c = true) (px py : Int32) : zcov I c px py = scov σ px py c := by
  have q := ha.2 c hs
  unfold zcov scov
  rw [q.2.2.1, q.2.2.2.1, q.2.2.2.2.1, q.2.2.2.2.2.1]
set_option maxHeartbeats 4000000 in
set_option maxRecDepth 100000 in
theorem kX2_paintedAfter (lx : Launch) (g : zG) (N : Nat) (I : Nat → Nat → Int32) (P : Nat → Nat → Option Nat) (J : Nat → Nat → Int64) {σ : zS} (ht : zTr σ I P) (ha : zAr σ I P) (b : Nat) (he : sEx σ b = true) (hs : sSh σ b = true) : z_Ct lx yX2_paintedAfter (zT yX2_paintedAfter cX2_paintedAfter 2 (Option.some (FieldType.object "FlexibleBoxes$Box"))) ({ frames := 0, cells := 0, slots := 0, locals := 0 } : Room) g N I P J [.ref (g.1 b)] (zMu (some (va_rf (Option.map g.1 (sNx σ b)))) I P J) 0 0 := by
  refine z_of (by decide) (Nat.le_of_ble_eq_true rfl) (lv0 := [(0, .ref (g.1 b))]) rfl ?_
  intro C hlx hC hE hRm
  have hC : zX C cX2_paintedAfter 2 RX2 (zT yX2_paintedAfter cX2_paintedAfter 2 (Option.some (FieldType.object "FlexibleBoxes$Box"))) g N := hC
  refine z_aload_n (pc := 0) hC 0 dX2_paintedAfter_0 rfl rfl z_isr_r ?_
  refine z_gP (pc := 1) hC 0 6 (v := va_rf (Option.map g.1 ((sKids σ b)[0]?))) (z_shb (zTr_lt ht he)) (z_ltb hC (zTr_lt ht he)) rfl inX0 (by decide) rfl zm_1_52 (by rw [(zLk_seg ha.1 (zTr_lt ht he)).2]) dX2_paintedAfter_1 ?_
  refine z_ifnull (pc := 4) (tgt := 12) hC dX2_paintedAfter_4 (by decide) (fun h4 => ?_) (fun a4 h4 => ?_)
  · skip
    refine z_aload_n (pc := 12) hC 0 dX2_paintedAfter_12 rfl rfl z_isr_r ?_
    refine z_astore_n (pc := 13) (lv' := [(1, .ref (g.1 b)), (0, .ref (g.1 b))]) hC dX2_paintedAfter_13 rfl (by decide) z_isr_r rfl ?_
    have L14 : ∀ (zf : Nat) (o : Option Nat) (hi : (∀ c, o = some c → sSh σ c = true ∧ sAf σ c = sAf σ b) ∧ (o = none → sAf σ b = none)), (o.elim 0 fun c => c + 1) < zf → zJ C g N 2 0 0 I P J 14 [(1, va_rf (Option.map g.1 o)), (0, .ref (g.1 b))] [] := by
      intro zf
      induction zf with
      | zero =>
        intro o hi hn2
        exact absurd hn2 (Nat.not_lt_zero _)
      | succ zf ih =>
        intro o hi hn2
        refine z_aload_n (pc := 14) hC 0 dX2_paintedAfter_14 rfl rfl (z_isr_o _) ?_
        refine z_ifnull (pc := 15) (tgt := 33) hC dX2_paintedAfter_15 (by decide) (fun h15 => ?_) (fun a15 h15 => ?_)
        · skip
          rw [h15]
          show zJ C g N 2 0 0 I P J 33 [(1, .null), (0, .ref (g.1 b))] []
          refine z_aload_n (pc := 33) hC 0 dX2_paintedAfter_33 rfl rfl z_isr_n ?_
          refine z_ifnonnullN (pc := 34) hC dX2_paintedAfter_34 ?_
          refine z_null (pc := 37) hC dX2_paintedAfter_37 ?_
          refine z_goto (pc := 38) (tgt := 45) hC dX2_paintedAfter_38 (by decide) ?_
          exact z_aret (pc := 45) hC hE z_isr_n dX2_paintedAfter_45 (zMu_i (by unfold sNx; rw [h4, hi.2 h15]; rfl))
        · skip
          rw [h15]
          show zJ C g N 2 0 0 I P J 18 [(1, .ref (g.1 a15)), (0, .ref (g.1 b))] []
          obtain ⟨hs15, ho15⟩ := hi.1 a15 h15
          refine z_aload_n (pc := 18) hC 0 dX2_paintedAfter_18 rfl rfl z_isr_r ?_
          refine z_gP (pc := 19) hC 0 7 (v := va_rf (Option.map g.1 (sNk σ a15))) (z_shb (zTr_lt ht (sSh_ex ht.1 hs15).2)) (z_ltb hC (zTr_lt ht (sSh_ex ht.1 hs15).2)) rfl inX0 (by decide) rfl zm_1_55 (by rw [zNk_S ht ha.1 hs15]) dX2_paintedAfter_19 ?_
          refine z_ifnonnull (pc := 22) (tgt := 33) hC dX2_paintedAfter_22 (by decide) (fun a22 h22 => ?_) (fun h22 => ?_)
          · skip
            refine z_aload_n (pc := 33) hC 0 dX2_paintedAfter_33 rfl rfl z_isr_r ?_
            refine z_ifnonnullR (pc := 34) (tgt := 41) hC dX2_paintedAfter_34 (by decide) ?_
            refine z_aload_n (pc := 41) hC 0 dX2_paintedAfter_41 rfl rfl z_isr_r ?_
            refine z_gP (pc := 42) hC 0 7 (v := va_rf (Option.map g.1 (sNk σ a15))) (z_shb (zTr_lt ht (sSh_ex ht.1 hs15).2)) (z_ltb hC (zTr_lt ht (sSh_ex ht.1 hs15).2)) rfl inX0 (by decide) rfl zm_1_55 (by rw [zNk_S ht ha.1 hs15]) dX2_paintedAfter_42 ?_
            exact z_aret (pc := 45) hC hE (z_isr_o _) dX2_paintedAfter_45 (zMu_i (by unfold sNx; rw [h4, ← ho15, zaf_n ht.1 hs15 h22, h22]; rfl))
          · skip
            refine z_aload_n (pc := 25) hC 0 dX2_paintedAfter_25 rfl rfl z_isr_r ?_
            refine z_gP (pc := 26) hC 0 3 (v := va_rf (Option.map g.1 (sPp σ a15))) (z_shb (zTr_lt ht (sSh_ex ht.1 hs15).2)) (z_ltb hC (zTr_lt ht (sSh_ex ht.1 hs15).2)) rfl inX0 (by decide) rfl zm_1_44 (by rw [zPp_S ht hs15]) dX2_paintedAfter_26 ?_
            refine z_astore_n (pc := 29) (lv' := [(1, va_rf (Option.map g.1 (sPp σ a15))), (0, .ref (g.1 b))]) hC dX2_paintedAfter_29 rfl (by decide) (z_isr_o _) rfl ?_
            refine z_goto (pc := 30) (tgt := 14) hC dX2_paintedAfter_30 (by decide) ?_
            exact ih (sPp σ a15) (zaf_s ht.1 hs15 h22 ho15) (by have := zaf_m ht.1 hs15; have e : (o.elim 0 fun c => c + 1) = a15 + 1 := (by rw [h15]; rfl); omega)
    exact L14 (b + 2) (some b) ⟨fun c hc => by cases hc; exact ⟨hs, rfl⟩, fun h => by cases h⟩ (by show b + 1 < b + 2; omega)
  · skip
    refine z_aload_n (pc := 7) hC 0 dX2_paintedAfter_7 rfl rfl z_isr_r ?_
    refine z_gP (pc := 8) hC 0 6 (v := va_rf (Option.map g.1 ((sKids σ b)[0]?))) (z_shb (zTr_lt ht he)) (z_ltb hC (zTr_lt ht he)) rfl inX0 (by decide) rfl zm_1_52 (by rw [(zLk_seg ha.1 (zTr_lt ht he)).2]) dX2_paintedAfter_8 ?_
    exact z_aret (pc := 11) hC hE (z_isr_o _) dX2_paintedAfter_11 (zMu_i (by unfold sNx; rw [h4]; rfl))
set_option maxHeartbeats 4000000 in
set_option maxRecDepth 100000 in
theorem kX2_topmostAt (lx : Launch) (g : zG) (N : Nat) (I : Nat → Nat → Int32) (P : Nat → Nat → Option Nat) (J : Nat → Nat → Int64) {σ : zS} (ht : zTr σ I P) (ha : zAr σ I P) (px py : Int32) : z_Ct lx yX2_topmostAt (zT yX2_topmostAt cX2_topmostAt 6 (Option.some FieldType.int)) ({ frames := 1, cells := 0, slots := 0, locals := 22 } : Room) g N I P J [.ref (g.1 82), .int px, .int py] (zMu (some (.int (sHit σ px py))) I P J) 0 0 := by
  refine z_of (by decide) (Nat.le_of_ble_eq_true rfl) (lv0 := [(0, .ref (g.1 82)), (1, .int px), (2, .int py)]) rfl ?_
  intro C hlx hC hE hRm
  have hC : zX C cX2_topmostAt 6 RX2 (zT yX2_topmostAt cX2_topmostAt 6 (Option.some FieldType.int)) g N := hC
  refine z_iconst (pc := 0) (v := (-1)) hC dX2_topmostAt_0 rfl ?_
  refine z_istore_n (pc := 1) (lv' := [(3, .int (-1)), (0, .ref (g.1 82)), (1, .int px), (2, .int py)]) hC dX2_topmostAt_1 rfl (by decide) rfl ?_
  refine z_aload_n (pc := 2) hC 1 dX2_topmostAt_2 rfl rfl z_isr_r ?_
  refine z_gF (pc := 3) hC 2 0 (t := 81) rfl (z_lt hC (by decide)) rfl inX2 (by decide) rfl zm_1_194 rfl dX2_topmostAt_3 ?_
  refine z_gF (pc := 6) hC 4 1 (t := 0) rfl (z_lt hC (by decide)) rfl inX4 (by decide) rfl zm_1_128 rfl dX2_topmostAt_6 ?_
  refine z_astore (pc := 9) (lv' := [(4, .ref (g.1 0)), (3, .int (-1)), (0, .ref (g.1 82)), (1, .int px), (2, .int py)]) hC dX2_topmostAt_9 (by decide) z_isr_r rfl ?_
  refine z_iconst (pc := 11) (v := 0) hC dX2_topmostAt_11 rfl ?_
  refine z_istore (pc := 12) (lv' := [(5, .int 0), (4, .ref (g.1 0)), (3, .int (-1)), (0, .ref (g.1 82)), (1, .int px), (2, .int py)]) hC dX2_topmostAt_12 (by decide) rfl ?_
  have L14 : ∀ (zf : Nat) (k : Nat) (hk : k ≤ 40), 40 - k < zf → zJ C g N 6 0 0 I P J 14 [(5, .int (nI k)), (4, va_rf (Option.map g.1 ((sPr σ 0)[k]?))), (3, .int (zlast (scov σ px py) (sPr σ 0) k)), (0, .ref (g.1 82)), (1, .int px), (2, .int py)] [] := by
    intro zf
    induction zf with
    | zero =>
      intro k hk hn2
      exact absurd hn2 (Nat.not_lt_zero _)
    | succ zf ih =>
      intro k hk hn2
      refine z_iload (pc := 14) hC 0 dX2_topmostAt_14 rfl ?_
      refine z_bipush (pc := 16) (v := 40) hC dX2_topmostAt_16 rfl ?_
      refine z_icmp_ge (pc := 18) (tgt := 55) hC dX2_topmostAt_18 (by decide) (fun h18 => ?_) (fun h18 => ?_)
      · skip
        have g18 := Int32.not_lt.mpr h18
        have ek : k = 40 := Nat.le_antisymm hk (zc_ge (n := 40) h18 (by omega) (by decide))
        refine z_iload_n (pc := 55) hC 2 dX2_topmostAt_55 rfl rfl ?_
        exact z_iret (pc := 56) hC hE dX2_topmostAt_56 (zMu_i (by rw [ek]; rfl))
      · skip
        have g18 := Int32.not_le.mp h18
        have hk40 : k < 40 := zc_lt (n := 40) h18 (by omega) (by decide)
        refine z_aload (pc := 21) hC 1 dX2_topmostAt_21 rfl (z_isr_o _) ?_
        refine z_ifnull (pc := 23) (tgt := 55) hC dX2_topmostAt_23 (by decide) (fun h23 => ?_) (fun a23 h23 => ?_)
        · skip
          rw [h23]
          show zJ C g N 6 0 0 I P J 55 [(5, .int (nI k)), (4, .null), (3, .int (zlast (scov σ px py) (sPr σ 0) k)), (0, .ref (g.1 82)), (1, .int px), (2, .int py)] []
          refine z_iload_n (pc := 55) hC 2 dX2_topmostAt_55 rfl rfl ?_
          exact z_iret (pc := 56) hC hE dX2_topmostAt_56 (zMu_i (by unfold sHit; rw [show 40 = k + (40 - k) by omega, zlast_end h23]))
        · skip
          rw [h23]
          show zJ C g N 6 0 0 I P J 26 [(5, .int (nI k)), (4, .ref (g.1 a23)), (3, .int (zlast (scov σ px py) (sPr σ 0) k)), (0, .ref (g.1 82)), (1, .int px), (2, .int py)] []
          obtain ⟨hs23, hx23⟩ := sPr_at ht.1 h23
          refine z_aload (pc := 26) hC 1 dX2_topmostAt_26 rfl z_isr_r ?_
          refine z_iload_n (pc := 28) hC 4 dX2_topmostAt_28 rfl rfl ?_
          refine z_iload_n (pc := 29) hC 5 dX2_topmostAt_29 rfl rfl ?_
          have k30 := kX0_covers C.2.1 g N I P J a23 (sSh_ex ht.1 hs23).1 px py
          rw [zcov_S ha hs23] at k30
          refine z_cV (pc := 30) (st := []) hC [.int px, .int py] (k30) (z_shb (sSh_ex ht.1 hs23).1) (z_ltb hC (sSh_ex ht.1 hs23).1) rfl zkX0_covers zm_3_114 ⟨rfl, rfl⟩ rfl rfl hRm ⟨Nat.le_of_ble_eq_true rfl, Nat.le_of_ble_eq_true rfl⟩ (Nat.le_of_ble_eq_true rfl) ⟨Nat.zero_le _, Nat.zero_le _⟩ dX2_topmostAt_30 ?_
          refine z_if_eq (pc := 33) (tgt := 42) hC dX2_topmostAt_33 (by decide) (fun h33 => ?_) (fun h33 => ?_)
          · skip
            have g33 := zB_f h33
            refine z_aload (pc := 42) hC 1 dX2_topmostAt_42 rfl z_isr_r ?_
            have k44 := kX2_paintedAfter C.2.1 g N I P J ht ha a23 (sSh_ex ht.1 hs23).2 hs23
            rw [hx23] at k44
            refine z_cS (pc := 44) (st := []) hC [.ref (g.1 a23)] (k44) zkX2_paintedAfter zm_3_118 ⟨rfl, rfl⟩ rfl rfl hRm ⟨Nat.le_of_ble_eq_true rfl, Nat.le_of_ble_eq_true rfl⟩ (Nat.le_of_ble_eq_true rfl) ⟨Nat.zero_le _, Nat.zero_le _⟩ dX2_topmostAt_44 ?_
            refine z_astore (pc := 47) (lv' := [(4, va_rf (Option.map g.1 ((sPr σ 0)[k + 1]?))), (5, .int (nI k)), (3, .int (zlast (scov σ px py) (sPr σ 0) k)), (0, .ref (g.1 82)), (1, .int px), (2, .int py)]) hC dX2_topmostAt_47 (by decide) (z_isr_o _) rfl ?_
            refine z_iinc (pc := 49) (v := nI (k + 1)) (lv' := [(5, .int (nI (k + 1))), (4, va_rf (Option.map g.1 ((sPr σ 0)[k + 1]?))), (3, .int (zlast (scov σ px py) (sPr σ 0) k)), (0, .ref (g.1 82)), (1, .int px), (2, .int py)]) hC 1 dX2_topmostAt_49 rfl (nI_1 k) (by decide) (by first | (simp [z_catO]; done) | (simp [z_catO, z_catR, z_catI, z_catN, z_catL]; done) | (simp [z_catO, z_catR, z_catI, z_catN, z_catL]; decide)) ?_
            refine z_goto (pc := 52) (tgt := 14) hC dX2_topmostAt_52 (by decide) ?_
            have K := ih (k + 1) (by omega) (by omega)
            rw [show zlast (scov σ px py) (sPr σ 0) (k + 1) = zlast (scov σ px py) (sPr σ 0) k by rw [zlast_s h23, if_neg (by rw [g33]; decide)]] at K
            exact K
          · skip
            have g33 := zB_t h33
            refine z_aload (pc := 36) hC 1 dX2_topmostAt_36 rfl z_isr_r ?_
            refine z_gI (pc := 38) hC 0 0 (x := nI a23) (z_shb (sSh_ex ht.1 hs23).1) (z_ltb hC (sSh_ex ht.1 hs23).1) rfl inX0 (by decide) rfl zm_1_37 (ht.2.1 a23 (sSh_ex ht.1 hs23).1) dX2_topmostAt_38 ?_
            refine z_istore_n (pc := 41) (lv' := [(3, .int (nI a23)), (5, .int (nI k)), (4, .ref (g.1 a23)), (0, .ref (g.1 82)), (1, .int px), (2, .int py)]) hC dX2_topmostAt_41 rfl (by decide) rfl ?_
            refine z_aload (pc := 42) hC 2 dX2_topmostAt_42 rfl z_isr_r ?_
            have k44 := kX2_paintedAfter C.2.1 g N I P J ht ha a23 (sSh_ex ht.1 hs23).2 hs23
            rw [hx23] at k44
            refine z_cS (pc := 44) (st := []) hC [.ref (g.1 a23)] (k44) zkX2_paintedAfter zm_3_118 ⟨rfl, rfl⟩ rfl rfl hRm ⟨Nat.le_of_ble_eq_true rfl, Nat.le_of_ble_eq_true rfl⟩ (Nat.le_of_ble_eq_true rfl) ⟨Nat.zero_le _, Nat.zero_le _⟩ dX2_topmostAt_44 ?_
            refine z_astore (pc := 47) (lv' := [(4, va_rf (Option.map g.1 ((sPr σ 0)[k + 1]?))), (3, .int (nI a23)), (5, .int (nI k)), (0, .ref (g.1 82)), (1, .int px), (2, .int py)]) hC dX2_topmostAt_47 (by decide) (z_isr_o _) rfl ?_
            refine z_iinc (pc := 49) (v := nI (k + 1)) (lv' := [(5, .int (nI (k + 1))), (4, va_rf (Option.map g.1 ((sPr σ 0)[k + 1]?))), (3, .int (nI a23)), (0, .ref (g.1 82)), (1, .int px), (2, .int py)]) hC 2 dX2_topmostAt_49 rfl (nI_1 k) (by decide) (by first | (simp [z_catO]; done) | (simp [z_catO, z_catR, z_catI, z_catN, z_catL]; done) | (simp [z_catO, z_catR, z_catI, z_catN, z_catL]; decide)) ?_
            refine z_goto (pc := 52) (tgt := 14) hC dX2_topmostAt_52 (by decide) ?_
            have K := ih (k + 1) (by omega) (by omega)
            rw [show zlast (scov σ px py) (sPr σ 0) (k + 1) = nI a23 by rw [zlast_s h23, if_pos g33]] at K
            exact K
  have K := L14 41 0 (by decide) (by decide)
  rw [sPr_0 ht.1] at K
  exact K
end ZHM2
