section ZLA
set_option maxHeartbeats 4000000 in
set_option maxRecDepth 100000 in
theorem kX2_contentWidth (lx : Launch) (g : zG) (N : Nat) (I : Nat → Nat → Int32) (P : Nat → Nat → Option Nat) (J : Nat → Nat → Int64) {σ : zS} (ht : zTr σ I P) (hl : zLk σ I P) (b : Nat) (he : sEx σ b = true) (nw : Nat → Int32) (hnw : ∀ k, k ∈ sKids σ b → I k 10 = nw k) : z_Ct lx yX2_contentWidth (zT yX2_contentWidth cX2_contentWidth 5 (Option.some FieldType.int)) ({ frames := 2, cells := 0, slots := 0, locals := 41 } : Room) g N I P J [.ref (g.1 b)] (zMu (some (.int (sCW σ nw b))) I P J) 0 0 := by
  refine z_of (by decide) (Nat.le_of_ble_eq_true rfl) (lv0 := [(0, .ref (g.1 b))]) rfl ?_
  intro C hlx hC hE hRm
  have hC : zX C cX2_contentWidth 5 RX2 (zT yX2_contentWidth cX2_contentWidth 5 (Option.some FieldType.int)) g N := hC
  refine z_aload_n (pc := 0) hC 0 dX2_contentWidth_0 rfl rfl z_isr_r ?_
  refine z_gI (pc := 1) hC 0 4 (x := zB (sCon σ b)) (z_shb (zTr_lt ht he)) (z_ltb hC (zTr_lt ht he)) rfl inX0 (by decide) rfl zm_1_45 ((hl.1 b (zTr_lt ht he)).1) dX2_contentWidth_1 ?_
  refine z_if_ne (pc := 4) (tgt := 17) hC dX2_contentWidth_4 (by decide) (fun h4 => ?_) (fun h4 => ?_)
  · skip
    have g4 := zB_t h4
    refine z_aload_n (pc := 17) hC 0 dX2_contentWidth_17 rfl rfl z_isr_r ?_
    refine z_gI (pc := 18) hC 0 8 (x := nI (kn σ b)) (z_shb (zTr_lt ht he)) (z_ltb hC (zTr_lt ht he)) rfl inX0 (by decide) rfl zm_1_58 ((hl.1 b (zTr_lt ht he)).2.2.1) dX2_contentWidth_18 ?_
    refine z_aload_n (pc := 21) hC 0 dX2_contentWidth_21 rfl rfl z_isr_r ?_
    refine z_iconst (pc := 22) (v := 4) hC dX2_contentWidth_22 rfl ?_
    refine z_cV (pc := 23) (st := [.int (nI (kn σ b))]) hC [.int 4] (kX0_of C.2.1 g N I P J b 4 (zTr_lt ht he) (by decide) 4 rfl (sSt σ b 4) (zTr_st ht he (by decide))) (z_shb (zTr_lt ht he)) (z_ltb hC (zTr_lt ht he)) rfl zkX0_of zm_2_125 ⟨rfl, rfl⟩ rfl rfl hRm ⟨Nat.le_of_ble_eq_true rfl, Nat.le_of_ble_eq_true rfl⟩ (Nat.le_of_ble_eq_true rfl) ⟨Nat.zero_le _, Nat.zero_le _⟩ dX2_contentWidth_23 ?_
    refine z_cSN (pc := 26) (st := []) hC [.int (nI (kn σ b)), .int (sSt σ b 4)] (kX5_gaps C.2.1 g N I P J (nI (kn σ b)) (sSt σ b 4)) zkX5_gaps (hC.2.2.2.2.2.1.2.2.2.2.2.2.1) ⟨rfl, rfl⟩ rfl rfl hRm ⟨Nat.le_of_ble_eq_true rfl, Nat.le_of_ble_eq_true rfl⟩ (Nat.le_of_ble_eq_true rfl) ⟨Nat.zero_le _, Nat.zero_le _⟩ dX2_contentWidth_26 ?_
    refine z_istore_n (pc := 29) (lv' := [(1, .int (zgap (nI (kn σ b)) (sSt σ b 4))), (0, .ref (g.1 b))]) hC dX2_contentWidth_29 rfl (by decide) rfl ?_
    refine z_iconst (pc := 30) (v := 0) hC dX2_contentWidth_30 rfl ?_
    refine z_istore_n (pc := 31) (lv' := [(2, .int 0), (1, .int (zgap (nI (kn σ b)) (sSt σ b 4))), (0, .ref (g.1 b))]) hC dX2_contentWidth_31 rfl (by decide) rfl ?_
    refine z_aload_n (pc := 32) hC 2 dX2_contentWidth_32 rfl rfl z_isr_r ?_
    refine z_gP (pc := 33) hC 0 6 (v := va_rf (Option.map g.1 ((sKids σ b)[0]?))) (z_shb (zTr_lt ht he)) (z_ltb hC (zTr_lt ht he)) rfl inX0 (by decide) rfl zm_1_52 (by rw [(zLk_seg hl (zTr_lt ht he)).2]) dX2_contentWidth_33 ?_
    refine z_astore_n (pc := 36) (lv' := [(3, va_rf (Option.map g.1 ((sKids σ b)[0]?))), (2, .int 0), (1, .int (zgap (nI (kn σ b)) (sSt σ b 4))), (0, .ref (g.1 b))]) hC dX2_contentWidth_36 rfl (by decide) (z_isr_o _) rfl ?_
    have L37 : ∀ (zf : Nat) (i : Nat) (hi : i ≤ kn σ b), kn σ b - i < zf → zJ C g N 5 0 0 I P J 37 [(3, va_rf (Option.map g.1 ((sKids σ b)[i]?))), (2, .int (zmx (fun i => sO σ nw (kd σ b i)) i)), (1, .int (zgap (nI (kn σ b)) (sSt σ b 4) + zsum (fun i => sO σ nw (kd σ b i)) i)), (0, .ref (g.1 b))] [] := by
      intro zf
      induction zf with
      | zero =>
        intro i hi hn2
        exact absurd hn2 (Nat.not_lt_zero _)
      | succ zf ih =>
        intro i hi hn2
        refine z_aload_n (pc := 37) hC 0 dX2_contentWidth_37 rfl rfl (z_isr_o _) ?_
        refine z_ifnull (pc := 38) (tgt := 72) hC dX2_contentWidth_38 (by decide) (fun h38 => ?_) (fun a38 h38 => ?_)
        · skip
          rw [h38]
          show zJ C g N 5 0 0 I P J 72 [(3, .null), (2, .int (zmx (fun i => sO σ nw (kd σ b i)) i)), (1, .int (zgap (nI (kn σ b)) (sSt σ b 4) + zsum (fun i => sO σ nw (kd σ b i)) i)), (0, .ref (g.1 b))] []
          have ei38 : i = kn σ b := Nat.le_antisymm hi (List.getElem?_eq_none_iff.mp h38)
          subst ei38
          refine z_aload_n (pc := 72) hC 3 dX2_contentWidth_72 rfl rfl z_isr_r ?_
          refine z_cV (pc := 73) (st := []) hC [] (kX0_isColumn C.2.1 g N I P J b (zTr_lt ht he) (sSt σ b 0) (zTr_st ht he (by decide))) (z_shb (zTr_lt ht he)) (z_ltb hC (zTr_lt ht he)) rfl zkX0_isColumn zm_2_136 ⟨rfl, rfl⟩ rfl rfl hRm ⟨Nat.le_of_ble_eq_true rfl, Nat.le_of_ble_eq_true rfl⟩ (Nat.le_of_ble_eq_true rfl) ⟨Nat.zero_le _, Nat.zero_le _⟩ dX2_contentWidth_73 ?_
          refine z_if_eq (pc := 76) (tgt := 83) hC dX2_contentWidth_76 (by decide) (fun h76 => ?_) (fun h76 => ?_)
          · skip
            have g76 := zB_f h76
            have q76 := of_decide_eq_false g76
            refine z_iload_n (pc := 83) hC 2 dX2_contentWidth_83 rfl rfl ?_
            exact z_iret (pc := 84) hC hE dX2_contentWidth_84 (zMu_i (by unfold sCW; rw [if_pos g4, if_neg q76]; exact congrArg (fun x => some (Value.int x)) (Int32.add_comm _ _)))
          · skip
            have g76 := zB_t h76
            have q76 := of_decide_eq_true g76
            refine z_iload_n (pc := 79) hC 1 dX2_contentWidth_79 rfl rfl ?_
            refine z_goto (pc := 80) (tgt := 84) hC dX2_contentWidth_80 (by decide) ?_
            exact z_iret (pc := 84) hC hE dX2_contentWidth_84 (zMu_i (by unfold sCW; rw [if_pos g4, if_pos q76]))
        · skip
          rw [h38]
          show zJ C g N 5 0 0 I P J 41 [(3, .ref (g.1 a38)), (2, .int (zmx (fun i => sO σ nw (kd σ b i)) i)), (1, .int (zgap (nI (kn σ b)) (sSt σ b 4) + zsum (fun i => sO σ nw (kd σ b i)) i)), (0, .ref (g.1 b))] []
          obtain ⟨hkd38, hik38, hmem38⟩ := sKids_get h38
          have hx38 := sKids_lt ht.1 hmem38
          refine z_aload_n (pc := 41) hC 0 dX2_contentWidth_41 rfl rfl z_isr_r ?_
          refine z_gI (pc := 42) hC 0 10 (x := nw a38) (z_shb (zTr_lt ht hx38.2.2.1)) (z_ltb hC (zTr_lt ht hx38.2.2.1)) rfl inX0 (by decide) rfl zm_1_62 (hnw a38 hmem38) dX2_contentWidth_42 ?_
          refine z_aload_n (pc := 45) hC 0 dX2_contentWidth_45 rfl rfl z_isr_r ?_
          refine z_cV (pc := 46) (st := [.int (nw a38)]) hC [] (kX0_margins C.2.1 g N I P J a38 (zTr_lt ht hx38.2.2.1) (sSt σ a38 6) (zTr_st ht hx38.2.2.1 (by decide))) (z_shb (zTr_lt ht hx38.2.2.1)) (z_ltb hC (zTr_lt ht hx38.2.2.1)) rfl zkX0_margins zm_2_129 ⟨rfl, rfl⟩ rfl rfl hRm ⟨Nat.le_of_ble_eq_true rfl, Nat.le_of_ble_eq_true rfl⟩ (Nat.le_of_ble_eq_true rfl) ⟨Nat.zero_le _, Nat.zero_le _⟩ dX2_contentWidth_46 ?_
          refine z_iadd (pc := 49) hC dX2_contentWidth_49 ?_
          rw [show (nw a38) + (2 * sSt σ a38 6) = sO σ nw (kd σ b i) from by rw [hkd38]; rfl]
          refine z_istore (pc := 50) (lv' := [(4, .int (sO σ nw (kd σ b i))), (3, .ref (g.1 a38)), (2, .int (zmx (fun i => sO σ nw (kd σ b i)) i)), (1, .int (zgap (nI (kn σ b)) (sSt σ b 4) + zsum (fun i => sO σ nw (kd σ b i)) i)), (0, .ref (g.1 b))]) hC dX2_contentWidth_50 (by decide) rfl ?_
          refine z_iload_n (pc := 52) hC 3 dX2_contentWidth_52 rfl rfl ?_
          refine z_iload (pc := 53) hC 0 dX2_contentWidth_53 rfl ?_
          refine z_iadd (pc := 55) hC dX2_contentWidth_55 ?_
          rw [show (zgap (nI (kn σ b)) (sSt σ b 4) + zsum (fun i => sO σ nw (kd σ b i)) i) + (sO σ nw (kd σ b i)) = zgap (nI (kn σ b)) (sSt σ b 4) + zsum (fun i => sO σ nw (kd σ b i)) (i + 1) from Int32.add_assoc _ _ _]
          refine z_istore_n (pc := 56) (lv' := [(1, .int (zgap (nI (kn σ b)) (sSt σ b 4) + zsum (fun i => sO σ nw (kd σ b i)) (i + 1))), (4, .int (sO σ nw (kd σ b i))), (3, .ref (g.1 a38)), (2, .int (zmx (fun i => sO σ nw (kd σ b i)) i)), (0, .ref (g.1 b))]) hC dX2_contentWidth_56 rfl (by decide) rfl ?_
          refine z_iload_n (pc := 57) hC 3 dX2_contentWidth_57 rfl rfl ?_
          refine z_iload (pc := 58) hC 1 dX2_contentWidth_58 rfl ?_
          refine z_mmax (pc := 60) hC (z_tw zm_2_133) (z_tw zm_2_134) (z_tw zm_1_12) (z_tw zm_2_135) (by rw [hRm]; exact Nat.le_of_ble_eq_true rfl) (by rw [hRm]; exact (Nat.le_of_ble_eq_true rfl)) (by rw [hRm]; exact Nat.zero_le _) (by rw [hRm]; exact Nat.zero_le _) dX2_contentWidth_60 ?_
          rw [show (if zmx (fun i => sO σ nw (kd σ b i)) i < sO σ nw (kd σ b i) then sO σ nw (kd σ b i) else zmx (fun i => sO σ nw (kd σ b i)) i) = zmx (fun i => sO σ nw (kd σ b i)) (i + 1) from rfl]
          refine z_istore_n (pc := 63) (lv' := [(2, .int (zmx (fun i => sO σ nw (kd σ b i)) (i + 1))), (1, .int (zgap (nI (kn σ b)) (sSt σ b 4) + zsum (fun i => sO σ nw (kd σ b i)) (i + 1))), (4, .int (sO σ nw (kd σ b i))), (3, .ref (g.1 a38)), (0, .ref (g.1 b))]) hC dX2_contentWidth_63 rfl (by decide) rfl ?_
          refine z_aload_n (pc := 64) hC 3 dX2_contentWidth_64 rfl rfl z_isr_r ?_
          refine z_gP (pc := 65) hC 0 7 (v := va_rf (Option.map g.1 ((sKids σ b)[i + 1]?))) (z_shb (zTr_lt ht hx38.2.2.1)) (z_ltb hC (zTr_lt ht hx38.2.2.1)) rfl inX0 (by decide) rfl zm_1_55 (by rw [(zLk_seg hl (zTr_lt ht he)).1 i a38 h38]) dX2_contentWidth_65 ?_
          refine z_astore_n (pc := 68) (lv' := [(3, va_rf (Option.map g.1 ((sKids σ b)[i + 1]?))), (2, .int (zmx (fun i => sO σ nw (kd σ b i)) (i + 1))), (1, .int (zgap (nI (kn σ b)) (sSt σ b 4) + zsum (fun i => sO σ nw (kd σ b i)) (i + 1))), (4, .int (sO σ nw (kd σ b i))), (0, .ref (g.1 b))]) hC dX2_contentWidth_68 rfl (by decide) (z_isr_o _) rfl ?_
          refine z_goto (pc := 69) (tgt := 37) hC dX2_contentWidth_69 (by decide) ?_
          refine z_lvs (lv' := [(3, va_rf (Option.map g.1 ((sKids σ b)[i + 1]?))), (2, .int (zmx (fun i => sO σ nw (kd σ b i)) (i + 1))), (1, .int (zgap (nI (kn σ b)) (sSt σ b 4) + zsum (fun i => sO σ nw (kd σ b i)) (i + 1))), (0, .ref (g.1 b))]) [0, 1, 2, 4] rfl ?_
          exact ih (i + 1) (by omega) (by omega)
    have L0 := L37 (kn σ b + 1) 0 (by omega) (by omega)
    rw [show zgap (nI (kn σ b)) (sSt σ b 4) + zsum (fun i => sO σ nw (kd σ b i)) 0 = zgap (nI (kn σ b)) (sSt σ b 4) from Int32.add_zero _] at L0
    exact L0
  · skip
    have g4 := zB_f h4
    refine z_bipush (pc := 7) (v := 8) hC dX2_contentWidth_7 rfl ?_
    refine z_aload_n (pc := 9) hC 0 dX2_contentWidth_9 rfl rfl z_isr_r ?_
    refine z_bipush (pc := 10) (v := 19) hC dX2_contentWidth_10 rfl ?_
    refine z_cV (pc := 12) (st := [.int 8]) hC [.int 19] (kX0_of C.2.1 g N I P J b 19 (zTr_lt ht he) (by decide) 19 rfl (sSt σ b 19) (zTr_st ht he (by decide))) (z_shb (zTr_lt ht he)) (z_ltb hC (zTr_lt ht he)) rfl zkX0_of zm_2_125 ⟨rfl, rfl⟩ rfl rfl hRm ⟨Nat.le_of_ble_eq_true rfl, Nat.le_of_ble_eq_true rfl⟩ (Nat.le_of_ble_eq_true rfl) ⟨Nat.zero_le _, Nat.zero_le _⟩ dX2_contentWidth_12 ?_
    refine z_imul (pc := 15) hC dX2_contentWidth_15 ?_
    exact z_iret (pc := 16) hC hE dX2_contentWidth_16 (zMu_i (by simp [sCW, g4]))
set_option maxHeartbeats 4000000 in
set_option maxRecDepth 100000 in
theorem kX2_measureWidth (lx : Launch) (g : zG) (N : Nat) (I : Nat → Nat → Int32) (P : Nat → Nat → Option Nat) (J : Nat → Nat → Int64) {σ : zS} (ht : zTr σ I P) (hl : zLk σ I P) (b : Nat) (he : sEx σ b = true) (nw : Nat → Int32) (hnw : ∀ k, k ∈ sKids σ b → I k 10 = nw k) : z_Ct lx yX2_measureWidth (zT yX2_measureWidth cX2_measureWidth 2 (Option.none : Option FieldType)) ({ frames := 3, cells := 0, slots := 0, locals := 65 } : Room) g N I P J [.ref (g.1 b)] (zMu none (z_u I b 10 (sNWs σ nw b)) P J) 0 0 := by
  refine z_of (by decide) (Nat.le_of_ble_eq_true rfl) (lv0 := [(0, .ref (g.1 b))]) rfl ?_
  intro C hlx hC hE hRm
  have hC : zX C cX2_measureWidth 2 RX2 (zT yX2_measureWidth cX2_measureWidth 2 (Option.none : Option FieldType)) g N := hC
  refine z_aload_n (pc := 0) hC 0 dX2_measureWidth_0 rfl rfl z_isr_r ?_
  refine z_bipush (pc := 1) (v := 10) hC dX2_measureWidth_1 rfl ?_
  refine z_cV (pc := 3) (st := []) hC [.int 10] (kSX0_fixedSize C.2.1 g N I P J ht b he 10 (by decide) 10 rfl) (z_shb (zTr_lt ht he)) (z_ltb hC (zTr_lt ht he)) rfl zkX0_fixedSize zm_2_114 ⟨rfl, rfl⟩ rfl rfl hRm ⟨Nat.le_of_ble_eq_true rfl, Nat.le_of_ble_eq_true rfl⟩ (Nat.le_of_ble_eq_true rfl) ⟨Nat.zero_le _, Nat.zero_le _⟩ dX2_measureWidth_3 ?_
  refine z_istore_n (pc := 6) (lv' := [(1, .int (sFix σ b 10)), (0, .ref (g.1 b))]) hC dX2_measureWidth_6 rfl (by decide) rfl ?_
  refine z_iload_n (pc := 7) hC 0 dX2_measureWidth_7 rfl rfl ?_
  refine z_iconst (pc := 8) (v := (-1)) hC dX2_measureWidth_8 rfl ?_
  refine z_icmp_ne (pc := 9) (tgt := 25) hC dX2_measureWidth_9 (by decide) (fun h9 => ?_) (fun h9 => ?_)
  · skip
    refine z_aload_n (pc := 25) hC 1 dX2_measureWidth_25 rfl rfl z_isr_r ?_
    refine z_aload_n (pc := 26) hC 1 dX2_measureWidth_26 rfl rfl z_isr_r ?_
    refine z_iload_n (pc := 27) hC 0 dX2_measureWidth_27 rfl rfl ?_
    refine z_cV (pc := 28) (st := [.ref (g.1 b)]) hC [.int (sFix σ b 10)] (kSX0_limitWidth C.2.1 g N I P J ht b he (sFix σ b 10)) (z_shb (zTr_lt ht he)) (z_ltb hC (zTr_lt ht he)) rfl zkX0_limitWidth zm_2_140 ⟨rfl, rfl⟩ rfl rfl hRm ⟨Nat.le_of_ble_eq_true rfl, Nat.le_of_ble_eq_true rfl⟩ (Nat.le_of_ble_eq_true rfl) ⟨Nat.zero_le _, Nat.zero_le _⟩ dX2_measureWidth_28 ?_
    refine z_pI (pc := 31) hC 0 10 (z_shb (zTr_lt ht he)) (z_ltb hC (zTr_lt ht he)) rfl inX0 tyX0_ok nmX0 (by decide) rfl zm_1_62 rfl rfl rfl dX2_measureWidth_31 ?_
    exact z_vret (pc := 34) hC hE dX2_measureWidth_34 ⟨rfl, by unfold sNWs sNat; simp [h9], rfl, rfl⟩
  · skip
    refine z_aload_n (pc := 12) hC 1 dX2_measureWidth_12 rfl rfl z_isr_r ?_
    refine z_cS (pc := 13) (st := []) hC [.ref (g.1 b)] (kX2_contentWidth C.2.1 g N I P J ht hl b he nw hnw) zkX2_contentWidth zm_2_122 ⟨rfl, rfl⟩ rfl rfl hRm ⟨Nat.le_of_ble_eq_true rfl, Nat.le_of_ble_eq_true rfl⟩ (Nat.le_of_ble_eq_true rfl) ⟨Nat.zero_le _, Nat.zero_le _⟩ dX2_measureWidth_13 ?_
    refine z_iconst (pc := 16) (v := 2) hC dX2_measureWidth_16 rfl ?_
    refine z_aload_n (pc := 17) hC 1 dX2_measureWidth_17 rfl rfl z_isr_r ?_
    refine z_iconst (pc := 18) (v := 5) hC dX2_measureWidth_18 rfl ?_
    refine z_cV (pc := 19) (st := [.int 2, .int (sCW σ nw b)]) hC [.int 5] (kX0_of C.2.1 g N I P J b 5 (zTr_lt ht he) (by decide) 5 rfl (sSt σ b 5) (zTr_st ht he (by decide))) (z_shb (zTr_lt ht he)) (z_ltb hC (zTr_lt ht he)) rfl zkX0_of zm_2_125 ⟨rfl, rfl⟩ rfl rfl hRm ⟨Nat.le_of_ble_eq_true rfl, Nat.le_of_ble_eq_true rfl⟩ (Nat.le_of_ble_eq_true rfl) ⟨Nat.zero_le _, Nat.zero_le _⟩ dX2_measureWidth_19 ?_
    refine z_imul (pc := 22) hC dX2_measureWidth_22 ?_
    refine z_iadd (pc := 23) hC dX2_measureWidth_23 ?_
    refine z_istore_n (pc := 24) (lv' := [(1, .int ((sCW σ nw b) + (2 * (sSt σ b 5)))), (0, .ref (g.1 b))]) hC dX2_measureWidth_24 rfl (by decide) rfl ?_
    refine z_aload_n (pc := 25) hC 1 dX2_measureWidth_25 rfl rfl z_isr_r ?_
    refine z_aload_n (pc := 26) hC 1 dX2_measureWidth_26 rfl rfl z_isr_r ?_
    refine z_iload_n (pc := 27) hC 0 dX2_measureWidth_27 rfl rfl ?_
    refine z_cV (pc := 28) (st := [.ref (g.1 b)]) hC [.int ((sCW σ nw b) + (2 * (sSt σ b 5)))] (kSX0_limitWidth C.2.1 g N I P J ht b he ((sCW σ nw b) + (2 * (sSt σ b 5)))) (z_shb (zTr_lt ht he)) (z_ltb hC (zTr_lt ht he)) rfl zkX0_limitWidth zm_2_140 ⟨rfl, rfl⟩ rfl rfl hRm ⟨Nat.le_of_ble_eq_true rfl, Nat.le_of_ble_eq_true rfl⟩ (Nat.le_of_ble_eq_true rfl) ⟨Nat.zero_le _, Nat.zero_le _⟩ dX2_measureWidth_28 ?_
    refine z_pI (pc := 31) hC 0 10 (z_shb (zTr_lt ht he)) (z_ltb hC (zTr_lt ht he)) rfl inX0 tyX0_ok nmX0 (by decide) rfl zm_1_62 rfl rfl rfl dX2_measureWidth_31 ?_
    exact z_vret (pc := 34) hC hE dX2_measureWidth_34 ⟨rfl, by unfold sNWs sNat; simp [h9], rfl, rfl⟩
theorem zend_go {ln : Nat → Nat} {n l i : Nat} (h : ln i = l) (hi : i < n) : zendF ln n l (n - (i + 1)) (i + 1) = zendF ln n l (n - i) i := by
  rw [show n - i = (n - (i + 1)) + 1 by omega]
  show _ = if i < n ∧ ln i = l then _ else _
  rw [if_pos ⟨hi, h⟩]
theorem zend_stop {ln : Nat → Nat} {n l i f : Nat} (h : ln i ≠ l) : zendF ln n l f i = i := by
  cases f with
  | zero => rfl
  | succ f => exact if_neg (fun q => h q.2)
set_option maxHeartbeats 4000000 in
set_option maxRecDepth 100000 in
theorem kX2_lineEnd (lx : Launch) (g : zG) (N : Nat) (I : Nat → Nat → Int32) (P : Nat → Nat → Option Nat) (J : Nat → Nat → Int64) (L : List Nat) (hL : ∀ x ∈ L, x < 40) (hseg : zseg P L) (ln : Nat → Nat) (hlb : ∀ i, i < L.length → ln i < 2 ^ 31) (hln : ∀ i x, L[i]? = some x → I x 17 = nI (ln i)) (a x0 : Nat) (hx0 : L[a]? = some x0) (ha : a < L.length) (hbx : x0 < 40) : z_Ct lx yX2_lineEnd (zT yX2_lineEnd cX2_lineEnd 2 (Option.some (FieldType.object "FlexibleBoxes$Box"))) ({ frames := 0, cells := 0, slots := 0, locals := 0 } : Room) g N I P J [.ref (g.1 x0)] (zMu (some (va_rf (Option.map g.1 (L[zend ln L.length a]?)))) I P J) 0 0 := by
  refine z_of (by decide) (Nat.le_of_ble_eq_true rfl) (lv0 := [(0, .ref (g.1 x0))]) rfl ?_
  intro C hlx hC hE hRm
  have hC : zX C cX2_lineEnd 2 RX2 (zT yX2_lineEnd cX2_lineEnd 2 (Option.some (FieldType.object "FlexibleBoxes$Box"))) g N := hC
  refine z_aload_n (pc := 0) hC 0 dX2_lineEnd_0 rfl rfl z_isr_r ?_
  refine z_astore_n (pc := 1) (lv' := [(1, .ref (g.1 x0)), (0, .ref (g.1 x0))]) hC dX2_lineEnd_1 rfl (by decide) z_isr_r rfl ?_
  have L2 : ∀ (zf : Nat) (i : Nat) (hai : a ≤ i) (hi : i ≤ L.length) (hze : zendF ln L.length (ln a) (L.length - i) i = zend ln L.length a), L.length - i < zf → zJ C g N 2 0 0 I P J 2 [(1, va_rf (Option.map g.1 (L[i]?))), (0, .ref (g.1 x0))] [] := by
    intro zf
    induction zf with
    | zero =>
      intro i hai hi hze hn2
      exact absurd hn2 (Nat.not_lt_zero _)
    | succ zf ih =>
      intro i hai hi hze hn2
      refine z_aload_n (pc := 2) hC 0 dX2_lineEnd_2 rfl rfl (z_isr_o _) ?_
      refine z_ifnull (pc := 3) (tgt := 25) hC dX2_lineEnd_3 (by decide) (fun h3 => ?_) (fun a3 h3 => ?_)
      · skip
        rw [h3]
        show zJ C g N 2 0 0 I P J 25 [(1, .null), (0, .ref (g.1 x0))] []
        have ei : L.length ≤ i := List.getElem?_eq_none_iff.mp h3
        have hze2 : zendF ln L.length (ln a) (L.length - i) i = i := by rw [show L.length - i = 0 by omega]; rfl
        have hfin : L[zend ln L.length a]? = none := by rw [← hze, hze2]; exact List.getElem?_eq_none_iff.mpr ei
        refine z_aload_n (pc := 25) hC 0 dX2_lineEnd_25 rfl rfl z_isr_n ?_
        exact z_aret (pc := 26) hC hE z_isr_n dX2_lineEnd_26 (zMu_i (by rw [hfin]; rfl))
      · skip
        rw [h3]
        show zJ C g N 2 0 0 I P J 6 [(1, .ref (g.1 a3)), (0, .ref (g.1 x0))] []
        have hb3 : a3 < 40 := hL a3 (List.mem_of_getElem? h3)
        have hlen : i < L.length := (List.getElem?_eq_some_iff.mp h3).1
        refine z_aload_n (pc := 6) hC 0 dX2_lineEnd_6 rfl rfl z_isr_r ?_
        refine z_gI (pc := 7) hC 0 17 (x := nI (ln i)) (z_shb hb3) (z_ltb hC hb3) rfl inX0 (by decide) rfl zm_1_80 (hln i a3 h3) dX2_lineEnd_7 ?_
        refine z_aload_n (pc := 10) hC 1 dX2_lineEnd_10 rfl rfl z_isr_r ?_
        refine z_gI (pc := 11) hC 0 17 (x := nI (ln a)) (z_shb hbx) (z_ltb hC hbx) rfl inX0 (by decide) rfl zm_1_80 (hln a x0 hx0) dX2_lineEnd_11 ?_
        refine z_icmp_ne (pc := 14) (tgt := 25) hC dX2_lineEnd_14 (by decide) (fun h14 => ?_) (fun h14 => ?_)
        · skip
          have e14 : ln i ≠ ln a := fun q => h14 (by rw [q])
          have hfin : L[zend ln L.length a]? = some a3 := by rw [← hze, zend_stop e14]; exact h3
          refine z_aload_n (pc := 25) hC 0 dX2_lineEnd_25 rfl rfl z_isr_r ?_
          exact z_aret (pc := 26) hC hE z_isr_r dX2_lineEnd_26 (zMu_i (by rw [hfin]; rfl))
        · skip
          have e14 : ln i = ln a := (nI_eq (hlb i hlen) (hlb a ha)).mp h14
          refine z_aload_n (pc := 17) hC 0 dX2_lineEnd_17 rfl rfl z_isr_r ?_
          refine z_gP (pc := 18) hC 0 7 (v := va_rf (Option.map g.1 (L[i + 1]?))) (z_shb hb3) (z_ltb hC hb3) rfl inX0 (by decide) rfl zm_1_55 (by rw [hseg i a3 h3]) dX2_lineEnd_18 ?_
          refine z_astore_n (pc := 21) (lv' := [(1, va_rf (Option.map g.1 (L[i + 1]?))), (0, .ref (g.1 x0))]) hC dX2_lineEnd_21 rfl (by decide) (z_isr_o _) rfl ?_
          refine z_goto (pc := 22) (tgt := 2) hC dX2_lineEnd_22 (by decide) ?_
          exact ih (i + 1) (by omega) (by omega) (by rw [← hze]; exact zend_go e14 hlen) (by omega)
  have L0 := L2 (L.length + 1) a (Nat.le_refl a) (by omega) rfl (by omega)
  rw [hx0] at L0
  exact L0
end ZLA
