section ZM8
theorem zhow4 {x : Int32} (h : 0 ≤ x ∧ x ≤ 4) (n0 : ¬ x = 0) (n1 : ¬ x = 1) (n2 : ¬ x = 2) (n3 : ¬ x = 3) : x = 4 := by
  have a := (zi_le _ _).mp h.1
  have b := (zi_le _ _).mp h.2
  have e0 : (0 : Int32).toInt = 0 := rfl
  have e1 : (1 : Int32).toInt = 1 := rfl
  have e2 : (2 : Int32).toInt = 2 := rfl
  have e3 : (3 : Int32).toInt = 3 := rfl
  have e4 : (4 : Int32).toInt = 4 := rfl
  rw [zi_eq] at n0 n1 n2 n3 ⊢
  omega
theorem zm_n1 {m : Nat} (hm : 1 ≤ m) (hm2 : m ≤ 40) (h : ¬ nI m = 1) : 1 < nI m := by
  rw [zm_one hm2]
  have : m ≠ 1 := fun e => h (by rw [e]; rfl)
  omega
theorem zb_1 {m : Nat} (h : nI m = 1) (hm : m ≤ 40) : m = 1 := (nI_eq (a := m) (b := 1) (by omega) (by decide)).mp h
set_option maxHeartbeats 4000000 in
set_option maxRecDepth 100000 in
theorem kX6_moved (lx : Launch) (g : zG) (N : Nat) (I : Nat → Nat → Int32) (P : Nat → Nat → Option Nat) (J : Nat → Nat → Int64) (how free : Int32) (hh : 0 ≤ how ∧ how ≤ 4) (k m : Nat) (hm : 1 ≤ m) (hm2 : m ≤ 40) : z_Ct lx yX6_moved (zT yX6_moved cX6_moved 4 (Option.some FieldType.int)) ({ frames := 0, cells := 0, slots := 0, locals := 0 } : Room) g N I P J [.int how, .int free, .int (nI k), .int (nI m)] (zMu (some (.int (sJu how free k m))) I P J) 0 0 := by
  refine z_of (by decide) (Nat.le_of_ble_eq_true rfl) (lv0 := [(0, .int how), (1, .int free), (2, .int (nI k)), (3, .int (nI m))]) rfl ?_
  intro C hlx hC hE hRm
  have hC : zX C cX6_moved 4 RX6 (zT yX6_moved cX6_moved 4 (Option.some FieldType.int)) g N := hC
  refine z_iload_n (pc := 0) hC 1 dX6_moved_0 rfl rfl ?_
  refine z_if_le (pc := 1) (tgt := 8) hC dX6_moved_1 (by decide) (fun h1 => ?_) (fun h1 => ?_)
  · skip
    have g1 := Int32.not_lt.mpr h1
    refine z_iconst (pc := 8) (v := 0) hC dX6_moved_8 rfl ?_
    exact z_iret (pc := 9) hC hE dX6_moved_9 (zMu_i (by unfold sJu; rw [if_pos (Int32.not_lt.mp (Int32.not_lt.mpr h1))]))
  · skip
    have g1 := Int32.not_le.mp h1
    refine z_iload_n (pc := 4) hC 0 dX6_moved_4 rfl rfl ?_
    refine z_if_ne (pc := 5) (tgt := 10) hC dX6_moved_5 (by decide) (fun h5 => ?_) (fun h5 => ?_)
    · skip
      refine z_iload_n (pc := 10) hC 0 dX6_moved_10 rfl rfl ?_
      refine z_iconst (pc := 11) (v := 1) hC dX6_moved_11 rfl ?_
      refine z_icmp_ne (pc := 12) (tgt := 17) hC dX6_moved_12 (by decide) (fun h12 => ?_) (fun h12 => ?_)
      · skip
        refine z_iload_n (pc := 17) hC 0 dX6_moved_17 rfl rfl ?_
        refine z_iconst (pc := 18) (v := 2) hC dX6_moved_18 rfl ?_
        refine z_icmp_ne (pc := 19) (tgt := 26) hC dX6_moved_19 (by decide) (fun h19 => ?_) (fun h19 => ?_)
        · skip
          refine z_iload_n (pc := 26) hC 0 dX6_moved_26 rfl rfl ?_
          refine z_iconst (pc := 27) (v := 3) hC dX6_moved_27 rfl ?_
          refine z_icmp_ne (pc := 28) (tgt := 48) hC dX6_moved_28 (by decide) (fun h28 => ?_) (fun h28 => ?_)
          · skip
            refine z_iload_n (pc := 48) hC 1 dX6_moved_48 rfl rfl ?_
            refine z_iload_n (pc := 49) hC 2 dX6_moved_49 rfl rfl ?_
            refine z_iconst (pc := 50) (v := 1) hC dX6_moved_50 rfl ?_
            refine z_iadd (pc := 51) hC dX6_moved_51 ?_
            refine z_imul (pc := 52) hC dX6_moved_52 ?_
            refine z_iload_n (pc := 53) hC 3 dX6_moved_53 rfl rfl ?_
            refine z_iconst (pc := 54) (v := 1) hC dX6_moved_54 rfl ?_
            refine z_iadd (pc := 55) hC dX6_moved_55 ?_
            refine z_idiv (pc := 56) hC dX6_moved_56 (zp1_ne hm2) ?_
            exact z_iret (pc := 57) hC hE dX6_moved_57 (zMu_i (by unfold sJu; rw [if_neg h1, if_neg h12, if_neg h19, if_neg h28, if_pos (zhow4 hh h5 h12 h19 h28)]))
          · skip
            refine z_iload_n (pc := 31) hC 3 dX6_moved_31 rfl rfl ?_
            refine z_iconst (pc := 32) (v := 1) hC dX6_moved_32 rfl ?_
            refine z_icmp_ne (pc := 33) (tgt := 40) hC dX6_moved_33 (by decide) (fun h33 => ?_) (fun h33 => ?_)
            · skip
              refine z_iload_n (pc := 40) hC 1 dX6_moved_40 rfl rfl ?_
              refine z_iload_n (pc := 41) hC 2 dX6_moved_41 rfl rfl ?_
              refine z_imul (pc := 42) hC dX6_moved_42 ?_
              refine z_iload_n (pc := 43) hC 3 dX6_moved_43 rfl rfl ?_
              refine z_iconst (pc := 44) (v := 1) hC dX6_moved_44 rfl ?_
              refine z_isub (pc := 45) hC dX6_moved_45 ?_
              refine z_idiv (pc := 46) hC dX6_moved_46 (zm1_ne hm2 (zm_n1 hm hm2 h33)) ?_
              exact z_iret (pc := 47) hC hE dX6_moved_47 (zMu_i (by unfold sJu; rw [if_neg h1, if_neg h12, if_neg h19, if_pos h28, if_neg (fun q => absurd ((zm_one hm2).mp (zm_n1 hm hm2 h33)) (Nat.not_lt.mpr q))]))
            · skip
              refine z_iconst (pc := 36) (v := 0) hC dX6_moved_36 rfl ?_
              refine z_goto (pc := 37) (tgt := 47) hC dX6_moved_37 (by decide) ?_
              exact z_iret (pc := 47) hC hE dX6_moved_47 (zMu_i (by unfold sJu; rw [if_neg h1, if_neg h12, if_neg h19, if_pos h28, if_pos (Nat.le_of_eq (zb_1 h33 hm2))]))
        · skip
          refine z_iload_n (pc := 22) hC 1 dX6_moved_22 rfl rfl ?_
          refine z_iconst (pc := 23) (v := 2) hC dX6_moved_23 rfl ?_
          refine z_idiv (pc := 24) hC dX6_moved_24 (by decide) ?_
          exact z_iret (pc := 25) hC hE dX6_moved_25 (zMu_i (by unfold sJu; rw [if_neg h1, if_neg h12, if_pos h19]))
      · skip
        refine z_iload_n (pc := 15) hC 1 dX6_moved_15 rfl rfl ?_
        exact z_iret (pc := 16) hC hE dX6_moved_16 (zMu_i (by unfold sJu; rw [if_neg h1, if_pos h12]))
    · skip
      refine z_iconst (pc := 8) (v := 0) hC dX6_moved_8 rfl ?_
      exact z_iret (pc := 9) hC hE dX6_moved_9 (zMu_i (by unfold sJu; rw [if_neg h1, h5, if_neg (by decide), if_neg (by decide), if_neg (by decide), if_neg (by decide)]))
set_option maxHeartbeats 4000000 in
set_option maxRecDepth 100000 in
theorem kX6_align (lx : Launch) (g : zG) (N : Nat) (I : Nat → Nat → Int32) (P : Nat → Nat → Option Nat) (J : Nat → Nat → Int64) {σ : zS} (hm : zMd σ I) (b : Nat) (he : sEx σ b = true) (h0 : b ≠ 0) (a : Nat) (ha : a < 2) (bg sp S : Int32) (hS : I 102 (2 * b + a) = S) : z_Ct lx yX6_align (zT yX6_align cX6_align 8 (Option.none : Option FieldType)) ({ frames := 2, cells := 0, slots := 0, locals := 44 } : Room) g N I P J [.ref (g.1 95), .int (nI b), .int (nI a), .int bg, .int sp] (zMu none (z_u I 103 (2 * b + a) (bg + sAcr σ b S sp)) P J) 0 0 := by
  refine z_of (by decide) (Nat.le_of_ble_eq_true rfl) (lv0 := [(0, .ref (g.1 95)), (1, .int (nI b)), (2, .int (nI a)), (3, .int bg), (4, .int sp)]) rfl ?_
  intro C hlx hC hE hRm
  have hC : zX C cX6_align 8 RX6 (zT yX6_align cX6_align 8 (Option.none : Option FieldType)) g N := hC
  refine z_iload (pc := 0) hC 4 dX6_align_0 rfl ?_
  refine z_aload_n (pc := 2) hC 0 dX6_align_2 rfl rfl z_isr_r ?_
  refine z_iload_n (pc := 3) hC 1 dX6_align_3 rfl rfl ?_
  refine z_aload_n (pc := 4) hC 0 dX6_align_4 rfl rfl z_isr_r ?_
  refine z_gF (pc := 5) hC 6 8 (t := 102) rfl (z_lt hC (by decide)) rfl inX6 (by decide) rfl zm_4_81 rfl dX6_align_5 ?_
  refine z_iconst (pc := 8) (v := 2) hC dX6_align_8 rfl ?_
  refine z_iload_n (pc := 9) hC 1 dX6_align_9 rfl rfl ?_
  refine z_imul (pc := 10) hC dX6_align_10 ?_
  refine z_iload_n (pc := 11) hC 2 dX6_align_11 rfl rfl ?_
  refine z_iadd (pc := 12) hC dX6_align_12 ?_
  refine z_iaN (pc := 13) hC (2 * b + a) (x := S) rfl (z_lt hC (by decide)) (zix2 b a) (by have := (hm.lt he).2; omega) (by decide) hS dX6_align_13 ?_
  refine z_cV (pc := 14) (st := [.int sp]) hC [.int (nI b), .int S] (kX6_outer C.2.1 g N I P J hm b he S) rfl (z_lt hC (by decide)) rfl zkX6_outer zm_4_220 ⟨rfl, rfl⟩ rfl rfl hRm ⟨Nat.le_of_ble_eq_true rfl, Nat.le_of_ble_eq_true rfl⟩ (Nat.le_of_ble_eq_true rfl) ⟨Nat.zero_le _, Nat.zero_le _⟩ dX6_align_14 ?_
  refine z_isub (pc := 17) hC dX6_align_17 ?_
  refine z_istore (pc := 18) (lv' := [(5, .int (sp - (S + 2 * sSt σ b 6))), (0, .ref (g.1 95)), (1, .int (nI b)), (2, .int (nI a)), (3, .int bg), (4, .int sp)]) hC dX6_align_18 (by decide) rfl ?_
  refine z_aload_n (pc := 20) hC 1 dX6_align_20 rfl rfl z_isr_r ?_
  refine z_iload_n (pc := 21) hC 2 dX6_align_21 rfl rfl ?_
  refine z_cV (pc := 22) (st := []) hC [.int (nI b)] (kX6_alignment C.2.1 g N I P J hm b he h0) rfl (z_lt hC (by decide)) rfl zkX6_alignment zm_5_15 ⟨rfl, rfl⟩ rfl rfl hRm ⟨Nat.le_of_ble_eq_true rfl, Nat.le_of_ble_eq_true rfl⟩ (Nat.le_of_ble_eq_true rfl) ⟨Nat.zero_le _, Nat.zero_le _⟩ dX6_align_22 ?_
  refine z_istore (pc := 25) (lv' := [(6, .int (sAl σ b)), (5, .int (sp - (S + 2 * sSt σ b 6))), (0, .ref (g.1 95)), (1, .int (nI b)), (2, .int (nI a)), (3, .int bg), (4, .int sp)]) hC dX6_align_25 (by decide) rfl ?_
  refine z_iload (pc := 27) hC 1 dX6_align_27 rfl ?_
  refine z_if_gt (pc := 29) (tgt := 36) hC dX6_align_29 (by decide) (fun h29 => ?_) (fun h29 => ?_)
  · skip
    have g29 := Int32.not_le.mpr h29
    refine z_iload (pc := 36) hC 0 dX6_align_36 rfl ?_
    refine z_iconst (pc := 38) (v := 1) hC dX6_align_38 rfl ?_
    refine z_icmp_ne (pc := 39) (tgt := 47) hC dX6_align_39 (by decide) (fun h39 => ?_) (fun h39 => ?_)
    · skip
      refine z_iload (pc := 47) hC 0 dX6_align_47 rfl ?_
      refine z_iconst (pc := 49) (v := 2) hC dX6_align_49 rfl ?_
      refine z_icmp_ne (pc := 50) (tgt := 60) hC dX6_align_50 (by decide) (fun h50 => ?_) (fun h50 => ?_)
      · skip
        refine z_iconst (pc := 60) (v := 0) hC dX6_align_60 rfl ?_
        refine z_eqI (show 0 = sAs (sAl σ b) (sp - (S + 2 * sSt σ b 6)) from by unfold sAs; rw [if_neg (Int32.not_le.mpr h29), if_neg h39, if_neg h50]) ?_
        refine z_istore (pc := 61) (lv' := [(7, .int (sAs (sAl σ b) (sp - (S + 2 * sSt σ b 6)))), (6, .int (sAl σ b)), (5, .int (sp - (S + 2 * sSt σ b 6))), (0, .ref (g.1 95)), (1, .int (nI b)), (2, .int (nI a)), (3, .int bg), (4, .int sp)]) hC dX6_align_61 (by decide) rfl ?_
        refine z_aload_n (pc := 63) hC 3 dX6_align_63 rfl rfl z_isr_r ?_
        refine z_gF (pc := 64) hC 6 9 (t := 103) rfl (z_lt hC (by decide)) rfl inX6 (by decide) rfl zm_4_82 rfl dX6_align_64 ?_
        refine z_iconst (pc := 67) (v := 2) hC dX6_align_67 rfl ?_
        refine z_iload_n (pc := 68) hC 4 dX6_align_68 rfl rfl ?_
        refine z_imul (pc := 69) hC dX6_align_69 ?_
        refine z_iload_n (pc := 70) hC 5 dX6_align_70 rfl rfl ?_
        refine z_iadd (pc := 71) hC dX6_align_71 ?_
        refine z_iload_n (pc := 72) hC 6 dX6_align_72 rfl rfl ?_
        refine z_iload (pc := 73) hC 0 dX6_align_73 rfl ?_
        refine z_iadd (pc := 75) hC dX6_align_75 ?_
        refine z_aload_n (pc := 76) hC 3 dX6_align_76 rfl rfl z_isr_r ?_
        refine z_iload_n (pc := 77) hC 4 dX6_align_77 rfl rfl ?_
        refine z_bipush (pc := 78) (v := 6) hC dX6_align_78 rfl ?_
        refine z_cV (pc := 80) (st := [.int (bg + (sAs (sAl σ b) (sp - (S + 2 * sSt σ b 6)))), .int ((2 * (nI b)) + (nI a)), .ref (g.1 103)]) hC [.int (nI b), .int 6] (kX6_of C.2.1 g N I P J hm b 6 he (by decide) 6 rfl) rfl (z_lt hC (by decide)) rfl zkX6_of zm_4_162 ⟨rfl, rfl⟩ rfl rfl hRm ⟨Nat.le_of_ble_eq_true rfl, Nat.le_of_ble_eq_true rfl⟩ (Nat.le_of_ble_eq_true rfl) ⟨Nat.zero_le _, Nat.zero_le _⟩ dX6_align_80 ?_
        refine z_iadd (pc := 83) hC dX6_align_83 ?_
        refine z_isN (pc := 84) hC (2 * b + a) rfl (z_lt hC (by decide)) (zix2 b a) (by have := (hm.lt he).2; omega) (by decide) dX6_align_84 ?_
        exact z_vret (pc := 85) hC hE dX6_align_85 ⟨rfl, by unfold sAcr; rw [Int32.add_assoc], rfl, rfl⟩
      · skip
        refine z_iload (pc := 53) hC 1 dX6_align_53 rfl ?_
        refine z_iconst (pc := 55) (v := 2) hC dX6_align_55 rfl ?_
        refine z_idiv (pc := 56) hC dX6_align_56 (by decide) ?_
        refine z_goto (pc := 57) (tgt := 61) hC dX6_align_57 (by decide) ?_
        refine z_eqI (show (sp - (S + 2 * sSt σ b 6)) / 2 = sAs (sAl σ b) (sp - (S + 2 * sSt σ b 6)) from by unfold sAs; rw [if_neg (Int32.not_le.mpr h29), if_neg h39, if_pos h50]) ?_
        refine z_istore (pc := 61) (lv' := [(7, .int (sAs (sAl σ b) (sp - (S + 2 * sSt σ b 6)))), (6, .int (sAl σ b)), (5, .int (sp - (S + 2 * sSt σ b 6))), (0, .ref (g.1 95)), (1, .int (nI b)), (2, .int (nI a)), (3, .int bg), (4, .int sp)]) hC dX6_align_61 (by decide) rfl ?_
        refine z_aload_n (pc := 63) hC 3 dX6_align_63 rfl rfl z_isr_r ?_
        refine z_gF (pc := 64) hC 6 9 (t := 103) rfl (z_lt hC (by decide)) rfl inX6 (by decide) rfl zm_4_82 rfl dX6_align_64 ?_
        refine z_iconst (pc := 67) (v := 2) hC dX6_align_67 rfl ?_
        refine z_iload_n (pc := 68) hC 4 dX6_align_68 rfl rfl ?_
        refine z_imul (pc := 69) hC dX6_align_69 ?_
        refine z_iload_n (pc := 70) hC 5 dX6_align_70 rfl rfl ?_
        refine z_iadd (pc := 71) hC dX6_align_71 ?_
        refine z_iload_n (pc := 72) hC 6 dX6_align_72 rfl rfl ?_
        refine z_iload (pc := 73) hC 0 dX6_align_73 rfl ?_
        refine z_iadd (pc := 75) hC dX6_align_75 ?_
        refine z_aload_n (pc := 76) hC 3 dX6_align_76 rfl rfl z_isr_r ?_
        refine z_iload_n (pc := 77) hC 4 dX6_align_77 rfl rfl ?_
        refine z_bipush (pc := 78) (v := 6) hC dX6_align_78 rfl ?_
        refine z_cV (pc := 80) (st := [.int (bg + (sAs (sAl σ b) (sp - (S + 2 * sSt σ b 6)))), .int ((2 * (nI b)) + (nI a)), .ref (g.1 103)]) hC [.int (nI b), .int 6] (kX6_of C.2.1 g N I P J hm b 6 he (by decide) 6 rfl) rfl (z_lt hC (by decide)) rfl zkX6_of zm_4_162 ⟨rfl, rfl⟩ rfl rfl hRm ⟨Nat.le_of_ble_eq_true rfl, Nat.le_of_ble_eq_true rfl⟩ (Nat.le_of_ble_eq_true rfl) ⟨Nat.zero_le _, Nat.zero_le _⟩ dX6_align_80 ?_
        refine z_iadd (pc := 83) hC dX6_align_83 ?_
        refine z_isN (pc := 84) hC (2 * b + a) rfl (z_lt hC (by decide)) (zix2 b a) (by have := (hm.lt he).2; omega) (by decide) dX6_align_84 ?_
        exact z_vret (pc := 85) hC hE dX6_align_85 ⟨rfl, by unfold sAcr; rw [Int32.add_assoc], rfl, rfl⟩
    · skip
      refine z_iload (pc := 42) hC 1 dX6_align_42 rfl ?_
      refine z_goto (pc := 44) (tgt := 61) hC dX6_align_44 (by decide) ?_
      refine z_eqI (show sp - (S + 2 * sSt σ b 6) = sAs (sAl σ b) (sp - (S + 2 * sSt σ b 6)) from by unfold sAs; rw [if_neg (Int32.not_le.mpr h29), if_pos h39]) ?_
      refine z_istore (pc := 61) (lv' := [(7, .int (sAs (sAl σ b) (sp - (S + 2 * sSt σ b 6)))), (6, .int (sAl σ b)), (5, .int (sp - (S + 2 * sSt σ b 6))), (0, .ref (g.1 95)), (1, .int (nI b)), (2, .int (nI a)), (3, .int bg), (4, .int sp)]) hC dX6_align_61 (by decide) rfl ?_
      refine z_aload_n (pc := 63) hC 3 dX6_align_63 rfl rfl z_isr_r ?_
      refine z_gF (pc := 64) hC 6 9 (t := 103) rfl (z_lt hC (by decide)) rfl inX6 (by decide) rfl zm_4_82 rfl dX6_align_64 ?_
      refine z_iconst (pc := 67) (v := 2) hC dX6_align_67 rfl ?_
      refine z_iload_n (pc := 68) hC 4 dX6_align_68 rfl rfl ?_
      refine z_imul (pc := 69) hC dX6_align_69 ?_
      refine z_iload_n (pc := 70) hC 5 dX6_align_70 rfl rfl ?_
      refine z_iadd (pc := 71) hC dX6_align_71 ?_
      refine z_iload_n (pc := 72) hC 6 dX6_align_72 rfl rfl ?_
      refine z_iload (pc := 73) hC 0 dX6_align_73 rfl ?_
      refine z_iadd (pc := 75) hC dX6_align_75 ?_
      refine z_aload_n (pc := 76) hC 3 dX6_align_76 rfl rfl z_isr_r ?_
      refine z_iload_n (pc := 77) hC 4 dX6_align_77 rfl rfl ?_
      refine z_bipush (pc := 78) (v := 6) hC dX6_align_78 rfl ?_
      refine z_cV (pc := 80) (st := [.int (bg + (sAs (sAl σ b) (sp - (S + 2 * sSt σ b 6)))), .int ((2 * (nI b)) + (nI a)), .ref (g.1 103)]) hC [.int (nI b), .int 6] (kX6_of C.2.1 g N I P J hm b 6 he (by decide) 6 rfl) rfl (z_lt hC (by decide)) rfl zkX6_of zm_4_162 ⟨rfl, rfl⟩ rfl rfl hRm ⟨Nat.le_of_ble_eq_true rfl, Nat.le_of_ble_eq_true rfl⟩ (Nat.le_of_ble_eq_true rfl) ⟨Nat.zero_le _, Nat.zero_le _⟩ dX6_align_80 ?_
      refine z_iadd (pc := 83) hC dX6_align_83 ?_
      refine z_isN (pc := 84) hC (2 * b + a) rfl (z_lt hC (by decide)) (zix2 b a) (by have := (hm.lt he).2; omega) (by decide) dX6_align_84 ?_
      exact z_vret (pc := 85) hC hE dX6_align_85 ⟨rfl, by unfold sAcr; rw [Int32.add_assoc], rfl, rfl⟩
  · skip
    have g29 := Int32.not_lt.mp h29
    refine z_iconst (pc := 32) (v := 0) hC dX6_align_32 rfl ?_
    refine z_goto (pc := 33) (tgt := 61) hC dX6_align_33 (by decide) ?_
    refine z_eqI (show 0 = sAs (sAl σ b) (sp - (S + 2 * sSt σ b 6)) from by unfold sAs; rw [if_pos (Int32.not_lt.mp h29)]) ?_
    refine z_istore (pc := 61) (lv' := [(7, .int (sAs (sAl σ b) (sp - (S + 2 * sSt σ b 6)))), (6, .int (sAl σ b)), (5, .int (sp - (S + 2 * sSt σ b 6))), (0, .ref (g.1 95)), (1, .int (nI b)), (2, .int (nI a)), (3, .int bg), (4, .int sp)]) hC dX6_align_61 (by decide) rfl ?_
    refine z_aload_n (pc := 63) hC 3 dX6_align_63 rfl rfl z_isr_r ?_
    refine z_gF (pc := 64) hC 6 9 (t := 103) rfl (z_lt hC (by decide)) rfl inX6 (by decide) rfl zm_4_82 rfl dX6_align_64 ?_
    refine z_iconst (pc := 67) (v := 2) hC dX6_align_67 rfl ?_
    refine z_iload_n (pc := 68) hC 4 dX6_align_68 rfl rfl ?_
    refine z_imul (pc := 69) hC dX6_align_69 ?_
    refine z_iload_n (pc := 70) hC 5 dX6_align_70 rfl rfl ?_
    refine z_iadd (pc := 71) hC dX6_align_71 ?_
    refine z_iload_n (pc := 72) hC 6 dX6_align_72 rfl rfl ?_
    refine z_iload (pc := 73) hC 0 dX6_align_73 rfl ?_
    refine z_iadd (pc := 75) hC dX6_align_75 ?_
    refine z_aload_n (pc := 76) hC 3 dX6_align_76 rfl rfl z_isr_r ?_
    refine z_iload_n (pc := 77) hC 4 dX6_align_77 rfl rfl ?_
    refine z_bipush (pc := 78) (v := 6) hC dX6_align_78 rfl ?_
    refine z_cV (pc := 80) (st := [.int (bg + (sAs (sAl σ b) (sp - (S + 2 * sSt σ b 6)))), .int ((2 * (nI b)) + (nI a)), .ref (g.1 103)]) hC [.int (nI b), .int 6] (kX6_of C.2.1 g N I P J hm b 6 he (by decide) 6 rfl) rfl (z_lt hC (by decide)) rfl zkX6_of zm_4_162 ⟨rfl, rfl⟩ rfl rfl hRm ⟨Nat.le_of_ble_eq_true rfl, Nat.le_of_ble_eq_true rfl⟩ (Nat.le_of_ble_eq_true rfl) ⟨Nat.zero_le _, Nat.zero_le _⟩ dX6_align_80 ?_
    refine z_iadd (pc := 83) hC dX6_align_83 ?_
    refine z_isN (pc := 84) hC (2 * b + a) rfl (z_lt hC (by decide)) (zix2 b a) (by have := (hm.lt he).2; omega) (by decide) dX6_align_84 ?_
    exact z_vret (pc := 85) hC hE dX6_align_85 ⟨rfl, by unfold sAcr; rw [Int32.add_assoc], rfl, rfl⟩
set_option maxHeartbeats 4000000 in
set_option maxRecDepth 100000 in
theorem kX6_setRowHeight (lx : Launch) (g : zG) (N : Nat) (I : Nat → Nat → Int32) (P : Nat → Nat → Option Nat) (J : Nat → Nat → Int64) {σ : zS} (hm : zMd σ I) (b : Nat) (he : sEx σ b = true) (h0 : b ≠ 0) (hg : Int32) (hn : I 101 (2 * b + 1) = sNH σ b) : z_Ct lx yX6_setRowHeight (zT yX6_setRowHeight cX6_setRowHeight 5 (Option.none : Option FieldType)) ({ frames := 2, cells := 0, slots := 0, locals := 48 } : Room) g N I P J [.ref (g.1 95), .int (nI b), .int hg] (zMu none (z_u I 102 (2 * b + 1) (sRoH σ b hg)) P J) 0 0 := by
  refine z_of (by decide) (Nat.le_of_ble_eq_true rfl) (lv0 := [(0, .ref (g.1 95)), (1, .int (nI b)), (2, .int hg)]) rfl ?_
  intro C hlx hC hE hRm
  have hC : zX C cX6_setRowHeight 5 RX6 (zT yX6_setRowHeight cX6_setRowHeight 5 (Option.none : Option FieldType)) g N := hC
  refine z_iload_n (pc := 0) hC 2 dX6_setRowHeight_0 rfl rfl ?_
  refine z_iconst (pc := 1) (v := 2) hC dX6_setRowHeight_1 rfl ?_
  refine z_aload_n (pc := 2) hC 0 dX6_setRowHeight_2 rfl rfl z_isr_r ?_
  refine z_iload_n (pc := 3) hC 1 dX6_setRowHeight_3 rfl rfl ?_
  refine z_bipush (pc := 4) (v := 6) hC dX6_setRowHeight_4 rfl ?_
  refine z_cV (pc := 6) (st := [.int 2, .int hg]) hC [.int (nI b), .int 6] (kX6_of C.2.1 g N I P J hm b 6 he (by decide) 6 rfl) rfl (z_lt hC (by decide)) rfl zkX6_of zm_4_162 ⟨rfl, rfl⟩ rfl rfl hRm ⟨Nat.le_of_ble_eq_true rfl, Nat.le_of_ble_eq_true rfl⟩ (Nat.le_of_ble_eq_true rfl) ⟨Nat.zero_le _, Nat.zero_le _⟩ dX6_setRowHeight_6 ?_
  refine z_imul (pc := 9) hC dX6_setRowHeight_9 ?_
  refine z_isub (pc := 10) hC dX6_setRowHeight_10 ?_
  refine z_cS (pc := 11) (st := []) hC [.int (hg - (2 * (sSt σ b 6)))] (kX6_notNegative C.2.1 g N I P J (hg - (2 * (sSt σ b 6)))) zkX6_notNegative zm_5_8 ⟨rfl, rfl⟩ rfl rfl hRm ⟨Nat.le_of_ble_eq_true rfl, Nat.le_of_ble_eq_true rfl⟩ (Nat.le_of_ble_eq_true rfl) ⟨Nat.zero_le _, Nat.zero_le _⟩ dX6_setRowHeight_11 ?_
  refine z_istore_n (pc := 14) (lv' := [(3, .int (zpos (hg - (2 * (sSt σ b 6))))), (0, .ref (g.1 95)), (1, .int (nI b)), (2, .int hg)]) hC dX6_setRowHeight_14 rfl (by decide) rfl ?_
  refine z_aload_n (pc := 15) hC 1 dX6_setRowHeight_15 rfl rfl z_isr_r ?_
  refine z_iload_n (pc := 16) hC 2 dX6_setRowHeight_16 rfl rfl ?_
  refine z_bipush (pc := 17) (v := 11) hC dX6_setRowHeight_17 rfl ?_
  refine z_cV (pc := 19) (st := []) hC [.int (nI b), .int 11] (kX6_of C.2.1 g N I P J hm b 11 he (by decide) 11 rfl) rfl (z_lt hC (by decide)) rfl zkX6_of zm_4_162 ⟨rfl, rfl⟩ rfl rfl hRm ⟨Nat.le_of_ble_eq_true rfl, Nat.le_of_ble_eq_true rfl⟩ (Nat.le_of_ble_eq_true rfl) ⟨Nat.zero_le _, Nat.zero_le _⟩ dX6_setRowHeight_19 ?_
  refine z_iconst (pc := 22) (v := (-1)) hC dX6_setRowHeight_22 rfl ?_
  refine z_icmp_eq (pc := 23) (tgt := 36) hC dX6_setRowHeight_23 (by decide) (fun h23 => ?_) (fun h23 => ?_)
  · skip
    refine z_aload_n (pc := 36) hC 1 dX6_setRowHeight_36 rfl rfl z_isr_r ?_
    refine z_iload_n (pc := 37) hC 2 dX6_setRowHeight_37 rfl rfl ?_
    refine z_cV (pc := 38) (st := []) hC [.int (nI b)] (kX6_alignment C.2.1 g N I P J hm b he h0) rfl (z_lt hC (by decide)) rfl zkX6_alignment zm_5_15 ⟨rfl, rfl⟩ rfl rfl hRm ⟨Nat.le_of_ble_eq_true rfl, Nat.le_of_ble_eq_true rfl⟩ (Nat.le_of_ble_eq_true rfl) ⟨Nat.zero_le _, Nat.zero_le _⟩ dX6_setRowHeight_38 ?_
    refine z_iconst (pc := 41) (v := 3) hC dX6_setRowHeight_41 rfl ?_
    refine z_icmp_ne (pc := 42) (tgt := 49) hC dX6_setRowHeight_42 (by decide) (fun h42 => ?_) (fun h42 => ?_)
    · skip
      refine z_aload_n (pc := 49) hC 1 dX6_setRowHeight_49 rfl rfl z_isr_r ?_
      refine z_gF (pc := 50) hC 6 7 (t := 101) rfl (z_lt hC (by decide)) rfl inX6 (by decide) rfl zm_4_80 rfl dX6_setRowHeight_50 ?_
      refine z_iconst (pc := 53) (v := 2) hC dX6_setRowHeight_53 rfl ?_
      refine z_iload_n (pc := 54) hC 2 dX6_setRowHeight_54 rfl rfl ?_
      refine z_imul (pc := 55) hC dX6_setRowHeight_55 ?_
      refine z_iconst (pc := 56) (v := 1) hC dX6_setRowHeight_56 rfl ?_
      refine z_iadd (pc := 57) hC dX6_setRowHeight_57 ?_
      refine z_iaN (pc := 58) hC (2 * b + 1) (x := sNH σ b) rfl (z_lt hC (by decide)) (zix2 b 1) (by have := (hm.lt he).2; omega) (by decide) hn dX6_setRowHeight_58 ?_
      refine z_eqI (show sNH σ b = (if sSt σ b 11 = -1 then (if sAl σ b = 3 then zpos (hg - 2 * sSt σ b 6) else sNH σ b) else sSt σ b 11) from by rw [if_pos h23, if_neg h42]) ?_
      refine z_istore (pc := 59) (lv' := [(4, .int (if sSt σ b 11 = -1 then (if sAl σ b = 3 then zpos (hg - 2 * sSt σ b 6) else sNH σ b) else sSt σ b 11)), (3, .int (zpos (hg - (2 * (sSt σ b 6))))), (0, .ref (g.1 95)), (1, .int (nI b)), (2, .int hg)]) hC dX6_setRowHeight_59 (by decide) rfl ?_
      refine z_aload_n (pc := 61) hC 2 dX6_setRowHeight_61 rfl rfl z_isr_r ?_
      refine z_gF (pc := 62) hC 6 8 (t := 102) rfl (z_lt hC (by decide)) rfl inX6 (by decide) rfl zm_4_81 rfl dX6_setRowHeight_62 ?_
      refine z_iconst (pc := 65) (v := 2) hC dX6_setRowHeight_65 rfl ?_
      refine z_iload_n (pc := 66) hC 3 dX6_setRowHeight_66 rfl rfl ?_
      refine z_imul (pc := 67) hC dX6_setRowHeight_67 ?_
      refine z_iconst (pc := 68) (v := 1) hC dX6_setRowHeight_68 rfl ?_
      refine z_iadd (pc := 69) hC dX6_setRowHeight_69 ?_
      refine z_aload_n (pc := 70) hC 2 dX6_setRowHeight_70 rfl rfl z_isr_r ?_
      refine z_iload_n (pc := 71) hC 3 dX6_setRowHeight_71 rfl rfl ?_
      refine z_iconst (pc := 72) (v := 1) hC dX6_setRowHeight_72 rfl ?_
      refine z_iload (pc := 73) hC 0 dX6_setRowHeight_73 rfl ?_
      refine z_cV (pc := 75) (st := [.int ((2 * (nI b)) + 1), .ref (g.1 102)]) hC [.int (nI b), .int 1, .int (if sSt σ b 11 = -1 then (if sAl σ b = 3 then zpos (hg - 2 * sSt σ b 6) else sNH σ b) else sSt σ b 11)] (kX6_limited C.2.1 g N I P J hm b 1 he (by decide) (if sSt σ b 11 = -1 then (if sAl σ b = 3 then zpos (hg - 2 * sSt σ b 6) else sNH σ b) else sSt σ b 11)) rfl (z_lt hC (by decide)) rfl zkX6_limited zm_4_232 ⟨rfl, rfl⟩ rfl rfl hRm ⟨Nat.le_of_ble_eq_true rfl, Nat.le_of_ble_eq_true rfl⟩ (Nat.le_of_ble_eq_true rfl) ⟨Nat.zero_le _, Nat.zero_le _⟩ dX6_setRowHeight_75 ?_
      refine z_isN (pc := 78) hC (2 * b + 1) rfl (z_lt hC (by decide)) (zix2 b 1) (by have := (hm.lt he).2; omega) (by decide) dX6_setRowHeight_78 ?_
      exact z_vret (pc := 79) hC hE dX6_setRowHeight_79 ⟨rfl, by unfold sRoH; rfl, rfl, rfl⟩
    · skip
      refine z_iload_n (pc := 45) hC 0 dX6_setRowHeight_45 rfl rfl ?_
      refine z_goto (pc := 46) (tgt := 59) hC dX6_setRowHeight_46 (by decide) ?_
      refine z_eqI (show zpos (hg - (2 * (sSt σ b 6))) = (if sSt σ b 11 = -1 then (if sAl σ b = 3 then zpos (hg - 2 * sSt σ b 6) else sNH σ b) else sSt σ b 11) from by rw [if_pos h23, if_pos h42]) ?_
      refine z_istore (pc := 59) (lv' := [(4, .int (if sSt σ b 11 = -1 then (if sAl σ b = 3 then zpos (hg - 2 * sSt σ b 6) else sNH σ b) else sSt σ b 11)), (3, .int (zpos (hg - (2 * (sSt σ b 6))))), (0, .ref (g.1 95)), (1, .int (nI b)), (2, .int hg)]) hC dX6_setRowHeight_59 (by decide) rfl ?_
      refine z_aload_n (pc := 61) hC 2 dX6_setRowHeight_61 rfl rfl z_isr_r ?_
      refine z_gF (pc := 62) hC 6 8 (t := 102) rfl (z_lt hC (by decide)) rfl inX6 (by decide) rfl zm_4_81 rfl dX6_setRowHeight_62 ?_
      refine z_iconst (pc := 65) (v := 2) hC dX6_setRowHeight_65 rfl ?_
      refine z_iload_n (pc := 66) hC 3 dX6_setRowHeight_66 rfl rfl ?_
      refine z_imul (pc := 67) hC dX6_setRowHeight_67 ?_
      refine z_iconst (pc := 68) (v := 1) hC dX6_setRowHeight_68 rfl ?_
      refine z_iadd (pc := 69) hC dX6_setRowHeight_69 ?_
      refine z_aload_n (pc := 70) hC 2 dX6_setRowHeight_70 rfl rfl z_isr_r ?_
      refine z_iload_n (pc := 71) hC 3 dX6_setRowHeight_71 rfl rfl ?_
      refine z_iconst (pc := 72) (v := 1) hC dX6_setRowHeight_72 rfl ?_
      refine z_iload (pc := 73) hC 0 dX6_setRowHeight_73 rfl ?_
      refine z_cV (pc := 75) (st := [.int ((2 * (nI b)) + 1), .ref (g.1 102)]) hC [.int (nI b), .int 1, .int (if sSt σ b 11 = -1 then (if sAl σ b = 3 then zpos (hg - 2 * sSt σ b 6) else sNH σ b) else sSt σ b 11)] (kX6_limited C.2.1 g N I P J hm b 1 he (by decide) (if sSt σ b 11 = -1 then (if sAl σ b = 3 then zpos (hg - 2 * sSt σ b 6) else sNH σ b) else sSt σ b 11)) rfl (z_lt hC (by decide)) rfl zkX6_limited zm_4_232 ⟨rfl, rfl⟩ rfl rfl hRm ⟨Nat.le_of_ble_eq_true rfl, Nat.le_of_ble_eq_true rfl⟩ (Nat.le_of_ble_eq_true rfl) ⟨Nat.zero_le _, Nat.zero_le _⟩ dX6_setRowHeight_75 ?_
      refine z_isN (pc := 78) hC (2 * b + 1) rfl (z_lt hC (by decide)) (zix2 b 1) (by have := (hm.lt he).2; omega) (by decide) dX6_setRowHeight_78 ?_
      exact z_vret (pc := 79) hC hE dX6_setRowHeight_79 ⟨rfl, by unfold sRoH; rfl, rfl, rfl⟩
  · skip
    refine z_aload_n (pc := 26) hC 1 dX6_setRowHeight_26 rfl rfl z_isr_r ?_
    refine z_iload_n (pc := 27) hC 2 dX6_setRowHeight_27 rfl rfl ?_
    refine z_bipush (pc := 28) (v := 11) hC dX6_setRowHeight_28 rfl ?_
    refine z_cV (pc := 30) (st := []) hC [.int (nI b), .int 11] (kX6_of C.2.1 g N I P J hm b 11 he (by decide) 11 rfl) rfl (z_lt hC (by decide)) rfl zkX6_of zm_4_162 ⟨rfl, rfl⟩ rfl rfl hRm ⟨Nat.le_of_ble_eq_true rfl, Nat.le_of_ble_eq_true rfl⟩ (Nat.le_of_ble_eq_true rfl) ⟨Nat.zero_le _, Nat.zero_le _⟩ dX6_setRowHeight_30 ?_
    refine z_goto (pc := 33) (tgt := 59) hC dX6_setRowHeight_33 (by decide) ?_
    refine z_eqI (show sSt σ b 11 = (if sSt σ b 11 = -1 then (if sAl σ b = 3 then zpos (hg - 2 * sSt σ b 6) else sNH σ b) else sSt σ b 11) from by rw [if_neg h23]) ?_
    refine z_istore (pc := 59) (lv' := [(4, .int (if sSt σ b 11 = -1 then (if sAl σ b = 3 then zpos (hg - 2 * sSt σ b 6) else sNH σ b) else sSt σ b 11)), (3, .int (zpos (hg - (2 * (sSt σ b 6))))), (0, .ref (g.1 95)), (1, .int (nI b)), (2, .int hg)]) hC dX6_setRowHeight_59 (by decide) rfl ?_
    refine z_aload_n (pc := 61) hC 2 dX6_setRowHeight_61 rfl rfl z_isr_r ?_
    refine z_gF (pc := 62) hC 6 8 (t := 102) rfl (z_lt hC (by decide)) rfl inX6 (by decide) rfl zm_4_81 rfl dX6_setRowHeight_62 ?_
    refine z_iconst (pc := 65) (v := 2) hC dX6_setRowHeight_65 rfl ?_
    refine z_iload_n (pc := 66) hC 3 dX6_setRowHeight_66 rfl rfl ?_
    refine z_imul (pc := 67) hC dX6_setRowHeight_67 ?_
    refine z_iconst (pc := 68) (v := 1) hC dX6_setRowHeight_68 rfl ?_
    refine z_iadd (pc := 69) hC dX6_setRowHeight_69 ?_
    refine z_aload_n (pc := 70) hC 2 dX6_setRowHeight_70 rfl rfl z_isr_r ?_
    refine z_iload_n (pc := 71) hC 3 dX6_setRowHeight_71 rfl rfl ?_
    refine z_iconst (pc := 72) (v := 1) hC dX6_setRowHeight_72 rfl ?_
    refine z_iload (pc := 73) hC 0 dX6_setRowHeight_73 rfl ?_
    refine z_cV (pc := 75) (st := [.int ((2 * (nI b)) + 1), .ref (g.1 102)]) hC [.int (nI b), .int 1, .int (if sSt σ b 11 = -1 then (if sAl σ b = 3 then zpos (hg - 2 * sSt σ b 6) else sNH σ b) else sSt σ b 11)] (kX6_limited C.2.1 g N I P J hm b 1 he (by decide) (if sSt σ b 11 = -1 then (if sAl σ b = 3 then zpos (hg - 2 * sSt σ b 6) else sNH σ b) else sSt σ b 11)) rfl (z_lt hC (by decide)) rfl zkX6_limited zm_4_232 ⟨rfl, rfl⟩ rfl rfl hRm ⟨Nat.le_of_ble_eq_true rfl, Nat.le_of_ble_eq_true rfl⟩ (Nat.le_of_ble_eq_true rfl) ⟨Nat.zero_le _, Nat.zero_le _⟩ dX6_setRowHeight_75 ?_
    refine z_isN (pc := 78) hC (2 * b + 1) rfl (z_lt hC (by decide)) (zix2 b 1) (by have := (hm.lt he).2; omega) (by decide) dX6_setRowHeight_78 ?_
    exact z_vret (pc := 79) hC hE dX6_setRowHeight_79 ⟨rfl, by unfold sRoH; rfl, rfl, rfl⟩
set_option maxHeartbeats 4000000 in
set_option maxRecDepth 100000 in
theorem kX6_end (lx : Launch) (g : zG) (N : Nat) (I : Nat → Nat → Int32) (P : Nat → Nat → Option Nat) (J : Nat → Nat → Int64) (b a : Nat) (hb : b < 40) (ha : a < 2) (x y : Int32) (hx : I 103 (2 * b + a) = x) (hy : I 102 (2 * b + a) = y) : z_Ct lx yX6_end (zT yX6_end cX6_end 3 (Option.some FieldType.int)) ({ frames := 0, cells := 0, slots := 0, locals := 0 } : Room) g N I P J [.ref (g.1 95), .int (nI b), .int (nI a)] (zMu (some (.int (x + y))) I P J) 0 0 := by
  refine z_of (by decide) (Nat.le_of_ble_eq_true rfl) (lv0 := [(0, .ref (g.1 95)), (1, .int (nI b)), (2, .int (nI a))]) rfl ?_
  intro C hlx hC hE hRm
  have hC : zX C cX6_end 3 RX6 (zT yX6_end cX6_end 3 (Option.some FieldType.int)) g N := hC
  refine z_aload_n (pc := 0) hC 0 dX6_end_0 rfl rfl z_isr_r ?_
  refine z_gF (pc := 1) hC 6 9 (t := 103) rfl (z_lt hC (by decide)) rfl inX6 (by decide) rfl zm_4_82 rfl dX6_end_1 ?_
  refine z_iconst (pc := 4) (v := 2) hC dX6_end_4 rfl ?_
  refine z_iload_n (pc := 5) hC 1 dX6_end_5 rfl rfl ?_
  refine z_imul (pc := 6) hC dX6_end_6 ?_
  refine z_iload_n (pc := 7) hC 2 dX6_end_7 rfl rfl ?_
  refine z_iadd (pc := 8) hC dX6_end_8 ?_
  refine z_iaN (pc := 9) hC (2 * b + a) (x := x) rfl (z_lt hC (by decide)) (zix2 b a) (by omega) (by decide) hx dX6_end_9 ?_
  refine z_aload_n (pc := 10) hC 0 dX6_end_10 rfl rfl z_isr_r ?_
  refine z_gF (pc := 11) hC 6 8 (t := 102) rfl (z_lt hC (by decide)) rfl inX6 (by decide) rfl zm_4_81 rfl dX6_end_11 ?_
  refine z_iconst (pc := 14) (v := 2) hC dX6_end_14 rfl ?_
  refine z_iload_n (pc := 15) hC 1 dX6_end_15 rfl rfl ?_
  refine z_imul (pc := 16) hC dX6_end_16 ?_
  refine z_iload_n (pc := 17) hC 2 dX6_end_17 rfl rfl ?_
  refine z_iadd (pc := 18) hC dX6_end_18 ?_
  refine z_iaN (pc := 19) hC (2 * b + a) (x := y) rfl (z_lt hC (by decide)) (zix2 b a) (by omega) (by decide) hy dX6_end_19 ?_
  refine z_iadd (pc := 20) hC dX6_end_20 ?_
  exact z_iret (pc := 21) hC hE dX6_end_21 (zMu_i rfl)
set_option maxHeartbeats 4000000 in
set_option maxRecDepth 100000 in
theorem kX6_covers (lx : Launch) (g : zG) (N : Nat) (I : Nat → Nat → Int32) (P : Nat → Nat → Option Nat) (J : Nat → Nat → Int64) {σ : zS} (b : Nat) (hb : b < 40) (px py : Int32) (hx : I 103 (2 * b + 0) = sX σ b) (hy : I 103 (2 * b + 1) = sY σ b) (hw : I 102 (2 * b + 0) = sWD σ b) (hh : I 102 (2 * b + 1) = sHT σ b) : z_Ct lx yX6_covers (zT yX6_covers cX6_covers 4 (Option.some FieldType.boolean)) ({ frames := 1, cells := 0, slots := 0, locals := 22 } : Room) g N I P J [.ref (g.1 95), .int (nI b), .int px, .int py] (zMu (some (.int (zB (scov σ px py b)))) I P J) 0 0 := by
  refine z_of (by decide) (Nat.le_of_ble_eq_true rfl) (lv0 := [(0, .ref (g.1 95)), (1, .int (nI b)), (2, .int px), (3, .int py)]) rfl ?_
  intro C hlx hC hE hRm
  have hC : zX C cX6_covers 4 RX6 (zT yX6_covers cX6_covers 4 (Option.some FieldType.boolean)) g N := hC
  refine z_iload_n (pc := 0) hC 2 dX6_covers_0 rfl rfl ?_
  refine z_aload_n (pc := 1) hC 0 dX6_covers_1 rfl rfl z_isr_r ?_
  refine z_gF (pc := 2) hC 6 9 (t := 103) rfl (z_lt hC (by decide)) rfl inX6 (by decide) rfl zm_4_82 rfl dX6_covers_2 ?_
  refine z_iconst (pc := 5) (v := 2) hC dX6_covers_5 rfl ?_
  refine z_iload_n (pc := 6) hC 1 dX6_covers_6 rfl rfl ?_
  refine z_imul (pc := 7) hC dX6_covers_7 ?_
  refine z_iaN (pc := 8) hC (2 * b + 0) (x := sX σ b) rfl (z_lt hC (by decide)) (zix2z b) (by omega) (by decide) hx dX6_covers_8 ?_
  refine z_icmp_lt (pc := 9) (tgt := 50) hC dX6_covers_9 (by decide) (fun h9 => ?_) (fun h9 => ?_)
  · skip
    have g9 := Int32.not_le.mpr h9
    refine z_iconst (pc := 50) (v := 0) hC dX6_covers_50 rfl ?_
    exact z_zret (pc := 51) hC hE (z_b01 (Or.inl rfl)) dX6_covers_51 (zMu_i (by unfold scov; simp [zB, h9, g9]))
  · skip
    have g9 := Int32.not_lt.mp h9
    refine z_iload_n (pc := 12) hC 2 dX6_covers_12 rfl rfl ?_
    refine z_aload_n (pc := 13) hC 0 dX6_covers_13 rfl rfl z_isr_r ?_
    refine z_iload_n (pc := 14) hC 1 dX6_covers_14 rfl rfl ?_
    refine z_iconst (pc := 15) (v := 0) hC dX6_covers_15 rfl ?_
    refine z_cV (pc := 16) (st := [.int px]) hC [.int (nI b), .int 0] (kX6_end C.2.1 g N I P J b 0 hb (by decide) (sX σ b) (sWD σ b) hx hw) rfl (z_lt hC (by decide)) rfl zkX6_end zm_5_126 ⟨rfl, rfl⟩ rfl rfl hRm ⟨Nat.le_of_ble_eq_true rfl, Nat.le_of_ble_eq_true rfl⟩ (Nat.le_of_ble_eq_true rfl) ⟨Nat.zero_le _, Nat.zero_le _⟩ dX6_covers_16 ?_
    refine z_icmp_ge (pc := 19) (tgt := 50) hC dX6_covers_19 (by decide) (fun h19 => ?_) (fun h19 => ?_)
    · skip
      have g19 := Int32.not_lt.mpr h19
      refine z_iconst (pc := 50) (v := 0) hC dX6_covers_50 rfl ?_
      exact z_zret (pc := 51) hC hE (z_b01 (Or.inl rfl)) dX6_covers_51 (zMu_i (by unfold scov; simp [zB, h9, g9, h19, g19]))
    · skip
      have g19 := Int32.not_le.mp h19
      refine z_iload_n (pc := 22) hC 3 dX6_covers_22 rfl rfl ?_
      refine z_aload_n (pc := 23) hC 0 dX6_covers_23 rfl rfl z_isr_r ?_
      refine z_gF (pc := 24) hC 6 9 (t := 103) rfl (z_lt hC (by decide)) rfl inX6 (by decide) rfl zm_4_82 rfl dX6_covers_24 ?_
      refine z_iconst (pc := 27) (v := 2) hC dX6_covers_27 rfl ?_
      refine z_iload_n (pc := 28) hC 1 dX6_covers_28 rfl rfl ?_
      refine z_imul (pc := 29) hC dX6_covers_29 ?_
      refine z_iconst (pc := 30) (v := 1) hC dX6_covers_30 rfl ?_
      refine z_iadd (pc := 31) hC dX6_covers_31 ?_
      refine z_iaN (pc := 32) hC (2 * b + 1) (x := sY σ b) rfl (z_lt hC (by decide)) (zix2 b 1) (by omega) (by decide) hy dX6_covers_32 ?_
      refine z_icmp_lt (pc := 33) (tgt := 50) hC dX6_covers_33 (by decide) (fun h33 => ?_) (fun h33 => ?_)
      · skip
        have g33 := Int32.not_le.mpr h33
        refine z_iconst (pc := 50) (v := 0) hC dX6_covers_50 rfl ?_
        exact z_zret (pc := 51) hC hE (z_b01 (Or.inl rfl)) dX6_covers_51 (zMu_i (by unfold scov; simp [zB, h9, g9, h19, g19, h33, g33]))
      · skip
        have g33 := Int32.not_lt.mp h33
        refine z_iload_n (pc := 36) hC 3 dX6_covers_36 rfl rfl ?_
        refine z_aload_n (pc := 37) hC 0 dX6_covers_37 rfl rfl z_isr_r ?_
        refine z_iload_n (pc := 38) hC 1 dX6_covers_38 rfl rfl ?_
        refine z_iconst (pc := 39) (v := 1) hC dX6_covers_39 rfl ?_
        refine z_cV (pc := 40) (st := [.int py]) hC [.int (nI b), .int 1] (kX6_end C.2.1 g N I P J b 1 hb (by decide) (sY σ b) (sHT σ b) hy hh) rfl (z_lt hC (by decide)) rfl zkX6_end zm_5_126 ⟨rfl, rfl⟩ rfl rfl hRm ⟨Nat.le_of_ble_eq_true rfl, Nat.le_of_ble_eq_true rfl⟩ (Nat.le_of_ble_eq_true rfl) ⟨Nat.zero_le _, Nat.zero_le _⟩ dX6_covers_40 ?_
        refine z_icmp_ge (pc := 43) (tgt := 50) hC dX6_covers_43 (by decide) (fun h43 => ?_) (fun h43 => ?_)
        · skip
          have g43 := Int32.not_lt.mpr h43
          refine z_iconst (pc := 50) (v := 0) hC dX6_covers_50 rfl ?_
          exact z_zret (pc := 51) hC hE (z_b01 (Or.inl rfl)) dX6_covers_51 (zMu_i (by unfold scov; simp [zB, h9, g9, h19, g19, h33, g33, h43, g43]))
        · skip
          have g43 := Int32.not_le.mp h43
          refine z_iconst (pc := 46) (v := 1) hC dX6_covers_46 rfl ?_
          refine z_goto (pc := 47) (tgt := 51) hC dX6_covers_47 (by decide) ?_
          exact z_zret (pc := 51) hC hE (z_b01 (Or.inr rfl)) dX6_covers_51 (zMu_i (by unfold scov; simp [zB, h9, g9, h19, g19, h33, g33, h43, g43]))
set_option maxHeartbeats 4000000 in
set_option maxRecDepth 100000 in
theorem kX6_lineHeight (lx : Launch) (g : zG) (N : Nat) (I : Nat → Nat → Int32) (P : Nat → Nat → Option Nat) (J : Nat → Nat → Int64) {σ : zS} (hm : zMd σ I) (p : Nat) (he : sEx σ p = true) (hk : zKq σ p I) (nh : Nat → Int32) (hn : ∀ k, k ∈ sKids σ p → I 101 (2 * k + 1) = nh k) (W : Int32) (hl : ∀ k, k < kn σ p → I 104 (kd σ p k) = nI (sLn σ (sNW σ) p W k)) (l : Nat) (hl40 : l ≤ 40) : z_Ct lx yX6_lineHeight (zT yX6_lineHeight cX6_lineHeight 5 (Option.some FieldType.int)) ({ frames := 2, cells := 0, slots := 0, locals := 44 } : Room) g N I P J [.ref (g.1 95), .int (nI l)] (zMu (some (.int (sLH σ nh p W l))) I P J) 0 0 := by
  refine z_of (by decide) (Nat.le_of_ble_eq_true rfl) (lv0 := [(0, .ref (g.1 95)), (1, .int (nI l))]) rfl ?_
  intro C hlx hC hE hRm
  have hC : zX C cX6_lineHeight 5 RX6 (zT yX6_lineHeight cX6_lineHeight 5 (Option.some FieldType.int)) g N := hC
  refine z_iconst (pc := 0) (v := 0) hC dX6_lineHeight_0 rfl ?_
  refine z_istore_n (pc := 1) (lv' := [(2, .int 0), (0, .ref (g.1 95)), (1, .int (nI l))]) hC dX6_lineHeight_1 rfl (by decide) rfl ?_
  refine z_iconst (pc := 2) (v := 0) hC dX6_lineHeight_2 rfl ?_
  refine z_istore_n (pc := 3) (lv' := [(3, .int 0), (2, .int 0), (0, .ref (g.1 95)), (1, .int (nI l))]) hC dX6_lineHeight_3 rfl (by decide) rfl ?_
  have L4 : ∀ (zf : Nat) (k : Nat) (hkk : k ≤ kn σ p), kn σ p - k < zf → zJ C g N 5 0 0 I P J 4 [(3, .int (nI k)), (2, .int (zmx (fun i => if (sLn σ (sNW σ) p W) i = l then sO σ nh (kd σ p i) else 0) k)), (0, .ref (g.1 95)), (1, .int (nI l))] [] := by
    intro zf
    induction zf with
    | zero =>
      intro k hkk hn2
      exact absurd hn2 (Nat.not_lt_zero _)
    | succ zf ih =>
      intro k hkk hn2
      refine z_iload_n (pc := 4) hC 0 dX6_lineHeight_4 rfl rfl ?_
      refine z_aload_n (pc := 5) hC 2 dX6_lineHeight_5 rfl rfl z_isr_r ?_
      refine z_gI (pc := 6) hC 6 5 (x := nI (kn σ p)) rfl (z_lt hC (by decide)) rfl inX6 (by decide) rfl zm_4_78 hk.1 dX6_lineHeight_6 ?_
      refine z_icmp_ge (pc := 9) (tgt := 73) hC dX6_lineHeight_9 (by decide) (fun h9 => ?_) (fun h9 => ?_)
      · skip
        have g9 := Int32.not_lt.mpr h9
        have ek : k = kn σ p := Nat.le_antisymm hkk (zc_ge h9 (by have := kn_le hm.1 p; omega) (by have := kn_le hm.1 p; omega))
        refine z_iload_n (pc := 73) hC 1 dX6_lineHeight_73 rfl rfl ?_
        exact z_iret (pc := 74) hC hE dX6_lineHeight_74 (zMu_i (by rw [ek]; rfl))
      · skip
        have g9 := Int32.not_le.mp h9
        have hkn : k < kn σ p := zc_lt h9 (by have := kn_le hm.1 p; omega) (by have := kn_le hm.1 p; omega)
        have hk40 := (sKids_lt hm.1 (kd_mem hkn)).2.1
        have hkm := kn_le hm.1 p
        refine z_aload_n (pc := 12) hC 2 dX6_lineHeight_12 rfl rfl z_isr_r ?_
        refine z_aload_n (pc := 13) hC 2 dX6_lineHeight_13 rfl rfl z_isr_r ?_
        refine z_gF (pc := 14) hC 6 4 (t := 99) rfl (z_lt hC (by decide)) rfl inX6 (by decide) rfl zm_4_77 rfl dX6_lineHeight_14 ?_
        refine z_iload_n (pc := 17) hC 0 dX6_lineHeight_17 rfl rfl ?_
        refine z_iaN (pc := 18) hC k (x := nI (kd σ p k)) rfl (z_lt hC (by decide)) rfl (by omega) (by decide) (hk.2 k hkn) dX6_lineHeight_18 ?_
        refine z_aload_n (pc := 19) hC 2 dX6_lineHeight_19 rfl rfl z_isr_r ?_
        refine z_gF (pc := 20) hC 6 7 (t := 101) rfl (z_lt hC (by decide)) rfl inX6 (by decide) rfl zm_4_80 rfl dX6_lineHeight_20 ?_
        refine z_iconst (pc := 23) (v := 2) hC dX6_lineHeight_23 rfl ?_
        refine z_aload_n (pc := 24) hC 2 dX6_lineHeight_24 rfl rfl z_isr_r ?_
        refine z_gF (pc := 25) hC 6 4 (t := 99) rfl (z_lt hC (by decide)) rfl inX6 (by decide) rfl zm_4_77 rfl dX6_lineHeight_25 ?_
        refine z_iload_n (pc := 28) hC 0 dX6_lineHeight_28 rfl rfl ?_
        refine z_iaN (pc := 29) hC k (x := nI (kd σ p k)) rfl (z_lt hC (by decide)) rfl (by omega) (by decide) (hk.2 k hkn) dX6_lineHeight_29 ?_
        refine z_imul (pc := 30) hC dX6_lineHeight_30 ?_
        refine z_iconst (pc := 31) (v := 1) hC dX6_lineHeight_31 rfl ?_
        refine z_iadd (pc := 32) hC dX6_lineHeight_32 ?_
        refine z_iaN (pc := 33) hC (2 * (kd σ p k) + 1) (x := nh (kd σ p k)) rfl (z_lt hC (by decide)) (zix2 (kd σ p k) 1) (by omega) (by decide) (hn _ (kd_mem hkn)) dX6_lineHeight_33 ?_
        refine z_cV (pc := 34) (st := []) hC [.int (nI (kd σ p k)), .int (nh (kd σ p k))] (kX6_outer C.2.1 g N I P J hm (kd σ p k) (sKids_lt hm.1 (kd_mem hkn)).2.2.1 (nh (kd σ p k))) rfl (z_lt hC (by decide)) rfl zkX6_outer zm_4_220 ⟨rfl, rfl⟩ rfl rfl hRm ⟨Nat.le_of_ble_eq_true rfl, Nat.le_of_ble_eq_true rfl⟩ (Nat.le_of_ble_eq_true rfl) ⟨Nat.zero_le _, Nat.zero_le _⟩ dX6_lineHeight_34 ?_
        refine z_eqI (show (nh (kd σ p k)) + 2 * sSt σ (kd σ p k) 6 = sO σ nh (kd σ p k) from rfl) ?_
        refine z_istore (pc := 37) (lv' := [(4, .int (sO σ nh (kd σ p k))), (3, .int (nI k)), (2, .int (zmx (fun i => if (sLn σ (sNW σ) p W) i = l then sO σ nh (kd σ p i) else 0) k)), (0, .ref (g.1 95)), (1, .int (nI l))]) hC dX6_lineHeight_37 (by decide) rfl ?_
        refine z_aload_n (pc := 39) hC 3 dX6_lineHeight_39 rfl rfl z_isr_r ?_
        refine z_gF (pc := 40) hC 6 10 (t := 104) rfl (z_lt hC (by decide)) rfl inX6 (by decide) rfl zm_4_83 rfl dX6_lineHeight_40 ?_
        refine z_aload_n (pc := 43) hC 3 dX6_lineHeight_43 rfl rfl z_isr_r ?_
        refine z_gF (pc := 44) hC 6 4 (t := 99) rfl (z_lt hC (by decide)) rfl inX6 (by decide) rfl zm_4_77 rfl dX6_lineHeight_44 ?_
        refine z_iload_n (pc := 47) hC 1 dX6_lineHeight_47 rfl rfl ?_
        refine z_iaN (pc := 48) hC k (x := nI (kd σ p k)) rfl (z_lt hC (by decide)) rfl (by omega) (by decide) (hk.2 k hkn) dX6_lineHeight_48 ?_
        refine z_iaN (pc := 49) hC (kd σ p k) (x := nI ((sLn σ (sNW σ) p W) k)) rfl (z_lt hC (by decide)) rfl hk40 (by decide) (hl k hkn) dX6_lineHeight_49 ?_
        refine z_iload_n (pc := 50) hC 4 dX6_lineHeight_50 rfl rfl ?_
        refine z_icmp_ne (pc := 51) (tgt := 65) hC dX6_lineHeight_51 (by decide) (fun h51 => ?_) (fun h51 => ?_)
        · skip
          have hll : ¬ sLn σ (sNW σ) p W k = l := fun e => h51 (by rw [e])
          refine z_iload_n (pc := 65) hC 2 dX6_lineHeight_65 rfl rfl ?_
          refine z_istore_n (pc := 66) (lv' := [(2, .int (zmx (fun i => if (sLn σ (sNW σ) p W) i = l then sO σ nh (kd σ p i) else 0) k)), (4, .int (sO σ nh (kd σ p k))), (3, .int (nI k)), (0, .ref (g.1 95)), (1, .int (nI l))]) hC dX6_lineHeight_66 rfl (by decide) rfl ?_
          refine z_iinc (pc := 67) (v := nI (k + 1)) (lv' := [(3, .int (nI (k + 1))), (2, .int (zmx (fun i => if (sLn σ (sNW σ) p W) i = l then sO σ nh (kd σ p i) else 0) k)), (4, .int (sO σ nh (kd σ p k))), (0, .ref (g.1 95)), (1, .int (nI l))]) hC 2 dX6_lineHeight_67 rfl (nI_1 k) (by decide) rfl ?_
          refine z_goto (pc := 70) (tgt := 4) hC dX6_lineHeight_70 (by decide) ?_
          refine z_lvs (lv' := [(3, .int (nI (k + 1))), (2, .int (zmx (fun i => if (sLn σ (sNW σ) p W) i = l then sO σ nh (kd σ p i) else 0) k)), (0, .ref (g.1 95)), (1, .int (nI l))]) [0, 1, 3, 4] rfl ?_
          have K := ih (k + 1) (by omega) (by omega)
          rw [show zmx (fun i => if (sLn σ (sNW σ) p W) i = l then sO σ nh (kd σ p i) else 0) (k + 1) = zmx (fun i => if (sLn σ (sNW σ) p W) i = l then sO σ nh (kd σ p i) else 0) k from zmx_0 (if_neg hll)] at K
          exact K
        · skip
          have hll : sLn σ (sNW σ) p W k = l := (nI_eq (by have := zstep_le (sLn_step σ (sNW σ) p W) k; omega) (by omega)).mp h51
          refine z_iload (pc := 54) hC 0 dX6_lineHeight_54 rfl ?_
          refine z_iload_n (pc := 56) hC 2 dX6_lineHeight_56 rfl rfl ?_
          refine z_icmp_le (pc := 57) (tgt := 65) hC dX6_lineHeight_57 (by decide) (fun h57 => ?_) (fun h57 => ?_)
          · skip
            have g57 := Int32.not_lt.mpr h57
            refine z_iload_n (pc := 65) hC 2 dX6_lineHeight_65 rfl rfl ?_
            refine z_istore_n (pc := 66) (lv' := [(2, .int (zmx (fun i => if (sLn σ (sNW σ) p W) i = l then sO σ nh (kd σ p i) else 0) k)), (4, .int (sO σ nh (kd σ p k))), (3, .int (nI k)), (0, .ref (g.1 95)), (1, .int (nI l))]) hC dX6_lineHeight_66 rfl (by decide) rfl ?_
            refine z_iinc (pc := 67) (v := nI (k + 1)) (lv' := [(3, .int (nI (k + 1))), (2, .int (zmx (fun i => if (sLn σ (sNW σ) p W) i = l then sO σ nh (kd σ p i) else 0) k)), (4, .int (sO σ nh (kd σ p k))), (0, .ref (g.1 95)), (1, .int (nI l))]) hC 2 dX6_lineHeight_67 rfl (nI_1 k) (by decide) rfl ?_
            refine z_goto (pc := 70) (tgt := 4) hC dX6_lineHeight_70 (by decide) ?_
            refine z_lvs (lv' := [(3, .int (nI (k + 1))), (2, .int (zmx (fun i => if (sLn σ (sNW σ) p W) i = l then sO σ nh (kd σ p i) else 0) k)), (0, .ref (g.1 95)), (1, .int (nI l))]) [0, 1, 3, 4] rfl ?_
            have K := ih (k + 1) (by omega) (by omega)
            rw [show zmx (fun i => if (sLn σ (sNW σ) p W) i = l then sO σ nh (kd σ p i) else 0) (k + 1) = zmx (fun i => if (sLn σ (sNW σ) p W) i = l then sO σ nh (kd σ p i) else 0) k from by rw [show zmx (fun i => if (sLn σ (sNW σ) p W) i = l then sO σ nh (kd σ p i) else 0) (k + 1) = if zmx (fun i => if (sLn σ (sNW σ) p W) i = l then sO σ nh (kd σ p i) else 0) k < (fun i => if (sLn σ (sNW σ) p W) i = l then sO σ nh (kd σ p i) else 0) k then (fun i => if (sLn σ (sNW σ) p W) i = l then sO σ nh (kd σ p i) else 0) k else zmx (fun i => if (sLn σ (sNW σ) p W) i = l then sO σ nh (kd σ p i) else 0) k from rfl, show (fun i => if (sLn σ (sNW σ) p W) i = l then sO σ nh (kd σ p i) else 0) k = sO σ nh (kd σ p k) from if_pos hll]; exact if_neg (Int32.not_lt.mpr h57)] at K
            exact K
          · skip
            have g57 := Int32.not_le.mp h57
            refine z_iload (pc := 60) hC 0 dX6_lineHeight_60 rfl ?_
            refine z_goto (pc := 62) (tgt := 66) hC dX6_lineHeight_62 (by decide) ?_
            refine z_istore_n (pc := 66) (lv' := [(2, .int (sO σ nh (kd σ p k))), (4, .int (sO σ nh (kd σ p k))), (3, .int (nI k)), (0, .ref (g.1 95)), (1, .int (nI l))]) hC dX6_lineHeight_66 rfl (by decide) rfl ?_
            refine z_iinc (pc := 67) (v := nI (k + 1)) (lv' := [(3, .int (nI (k + 1))), (2, .int (sO σ nh (kd σ p k))), (4, .int (sO σ nh (kd σ p k))), (0, .ref (g.1 95)), (1, .int (nI l))]) hC 2 dX6_lineHeight_67 rfl (nI_1 k) (by decide) rfl ?_
            refine z_goto (pc := 70) (tgt := 4) hC dX6_lineHeight_70 (by decide) ?_
            refine z_lvs (lv' := [(3, .int (nI (k + 1))), (2, .int (sO σ nh (kd σ p k))), (0, .ref (g.1 95)), (1, .int (nI l))]) [0, 1, 3, 4] rfl ?_
            have K := ih (k + 1) (by omega) (by omega)
            rw [show zmx (fun i => if (sLn σ (sNW σ) p W) i = l then sO σ nh (kd σ p i) else 0) (k + 1) = sO σ nh (kd σ p k) from by rw [show zmx (fun i => if (sLn σ (sNW σ) p W) i = l then sO σ nh (kd σ p i) else 0) (k + 1) = if zmx (fun i => if (sLn σ (sNW σ) p W) i = l then sO σ nh (kd σ p i) else 0) k < (fun i => if (sLn σ (sNW σ) p W) i = l then sO σ nh (kd σ p i) else 0) k then (fun i => if (sLn σ (sNW σ) p W) i = l then sO σ nh (kd σ p i) else 0) k else zmx (fun i => if (sLn σ (sNW σ) p W) i = l then sO σ nh (kd σ p i) else 0) k from rfl, show (fun i => if (sLn σ (sNW σ) p W) i = l then sO σ nh (kd σ p i) else 0) k = sO σ nh (kd σ p k) from if_pos hll]; exact if_pos (Int32.not_le.mp h57)] at K
            exact K
  exact L4 41 0 (Nat.zero_le _) (by have := kn_le hm.1 p; omega)
set_option maxHeartbeats 4000000 in
set_option maxRecDepth 100000 in
theorem kX6_rowContent (lx : Launch) (g : zG) (N : Nat) (I : Nat → Nat → Int32) (P : Nat → Nat → Option Nat) (J : Nat → Nat → Int64) {σ : zS} (hm : zMd σ I) (p : Nat) (he : sEx σ p = true) (hk : zKq σ p I) (nh : Nat → Int32) (hn : ∀ k, k ∈ sKids σ p → I 101 (2 * k + 1) = nh k) (W : Int32) (hl : ∀ k, k < kn σ p → I 104 (kd σ p k) = nI (sLn σ (sNW σ) p W k)) (hlm : I 105 p = nI (sLCn σ (sNW σ) p W)) : z_Ct lx yX6_rowContent (zT yX6_rowContent cX6_rowContent 4 (Option.some FieldType.int)) ({ frames := 3, cells := 0, slots := 0, locals := 68 } : Room) g N I P J [.ref (g.1 95), .int (nI p)] (zMu (some (.int (zgap (nI (sLCn σ (sNW σ) p W)) (sSt σ p 4) + zsum (sLH σ nh p W) (sLCn σ (sNW σ) p W)))) I P J) 0 0 := by
  refine z_of (by decide) (Nat.le_of_ble_eq_true rfl) (lv0 := [(0, .ref (g.1 95)), (1, .int (nI p))]) rfl ?_
  intro C hlx hC hE hRm
  have hC : zX C cX6_rowContent 4 RX6 (zT yX6_rowContent cX6_rowContent 4 (Option.some FieldType.int)) g N := hC
  refine z_aload_n (pc := 0) hC 0 dX6_rowContent_0 rfl rfl z_isr_r ?_
  refine z_iload_n (pc := 1) hC 1 dX6_rowContent_1 rfl rfl ?_
  refine z_aload_n (pc := 2) hC 0 dX6_rowContent_2 rfl rfl z_isr_r ?_
  refine z_gF (pc := 3) hC 6 11 (t := 105) rfl (z_lt hC (by decide)) rfl inX6 (by decide) rfl zm_4_84 rfl dX6_rowContent_3 ?_
  refine z_iload_n (pc := 6) hC 1 dX6_rowContent_6 rfl rfl ?_
  refine z_iaN (pc := 7) hC p (x := nI (sLCn σ (sNW σ) p W)) rfl (z_lt hC (by decide)) rfl (hm.lt he).2 (by decide) hlm dX6_rowContent_7 ?_
  refine z_cV (pc := 8) (st := []) hC [.int (nI p), .int (nI (sLCn σ (sNW σ) p W))] (kX6_gapsOf C.2.1 g N I P J hm p he (nI (sLCn σ (sNW σ) p W))) rfl (z_lt hC (by decide)) rfl zkX6_gapsOf zm_4_224 ⟨rfl, rfl⟩ rfl rfl hRm ⟨Nat.le_of_ble_eq_true rfl, Nat.le_of_ble_eq_true rfl⟩ (Nat.le_of_ble_eq_true rfl) ⟨Nat.zero_le _, Nat.zero_le _⟩ dX6_rowContent_8 ?_
  refine z_istore_n (pc := 11) (lv' := [(2, .int (zgap (nI (sLCn σ (sNW σ) p W)) (sSt σ p 4))), (0, .ref (g.1 95)), (1, .int (nI p))]) hC dX6_rowContent_11 rfl (by decide) rfl ?_
  refine z_iconst (pc := 12) (v := 0) hC dX6_rowContent_12 rfl ?_
  refine z_istore_n (pc := 13) (lv' := [(3, .int 0), (2, .int (zgap (nI (sLCn σ (sNW σ) p W)) (sSt σ p 4))), (0, .ref (g.1 95)), (1, .int (nI p))]) hC dX6_rowContent_13 rfl (by decide) rfl ?_
  have L14 : ∀ (zf : Nat) (l : Nat) (hll : l ≤ sLCn σ (sNW σ) p W), sLCn σ (sNW σ) p W - l < zf → zJ C g N 4 0 0 I P J 14 [(3, .int (nI l)), (2, .int (zgap (nI (sLCn σ (sNW σ) p W)) (sSt σ p 4) + zsum (sLH σ nh p W) l)), (0, .ref (g.1 95)), (1, .int (nI p))] [] := by
    intro zf
    induction zf with
    | zero =>
      intro l hll hn2
      exact absurd hn2 (Nat.not_lt_zero _)
    | succ zf ih =>
      intro l hll hn2
      refine z_iload_n (pc := 14) hC 0 dX6_rowContent_14 rfl rfl ?_
      refine z_aload_n (pc := 15) hC 2 dX6_rowContent_15 rfl rfl z_isr_r ?_
      refine z_gF (pc := 16) hC 6 11 (t := 105) rfl (z_lt hC (by decide)) rfl inX6 (by decide) rfl zm_4_84 rfl dX6_rowContent_16 ?_
      refine z_iload_n (pc := 19) hC 3 dX6_rowContent_19 rfl rfl ?_
      refine z_iaN (pc := 20) hC p (x := nI (sLCn σ (sNW σ) p W)) rfl (z_lt hC (by decide)) rfl (hm.lt he).2 (by decide) hlm dX6_rowContent_20 ?_
      refine z_icmp_ge (pc := 21) (tgt := 38) hC dX6_rowContent_21 (by decide) (fun h21 => ?_) (fun h21 => ?_)
      · skip
        have g21 := Int32.not_lt.mpr h21
        have el : l = sLCn σ (sNW σ) p W := Nat.le_antisymm hll (zc_ge h21 (by have := sLCn_le hm.1 (sNW σ) p W; omega) (by have := sLCn_le hm.1 (sNW σ) p W; omega))
        refine z_iload_n (pc := 38) hC 1 dX6_rowContent_38 rfl rfl ?_
        exact z_iret (pc := 39) hC hE dX6_rowContent_39 (zMu_i (by rw [el]))
      · skip
        have g21 := Int32.not_le.mp h21
        have hlt : l < sLCn σ (sNW σ) p W := zc_lt h21 (by have := sLCn_le hm.1 (sNW σ) p W; omega) (by have := sLCn_le hm.1 (sNW σ) p W; omega)
        refine z_iload_n (pc := 24) hC 1 dX6_rowContent_24 rfl rfl ?_
        refine z_aload_n (pc := 25) hC 2 dX6_rowContent_25 rfl rfl z_isr_r ?_
        refine z_iload_n (pc := 26) hC 0 dX6_rowContent_26 rfl rfl ?_
        refine z_cV (pc := 27) (st := [.int (zgap (nI (sLCn σ (sNW σ) p W)) (sSt σ p 4) + zsum (sLH σ nh p W) l)]) hC [.int (nI l)] (kX6_lineHeight C.2.1 g N I P J hm p he hk nh hn W hl l (by have := sLCn_le hm.1 (sNW σ) p W; omega)) rfl (z_lt hC (by decide)) rfl zkX6_lineHeight zm_5_63 ⟨rfl, rfl⟩ rfl rfl hRm ⟨Nat.le_of_ble_eq_true rfl, Nat.le_of_ble_eq_true rfl⟩ (Nat.le_of_ble_eq_true rfl) ⟨Nat.zero_le _, Nat.zero_le _⟩ dX6_rowContent_27 ?_
        refine z_iadd (pc := 30) hC dX6_rowContent_30 ?_
        refine z_eqI (show (zgap (nI (sLCn σ (sNW σ) p W)) (sSt σ p 4) + zsum (sLH σ nh p W) l) + (sLH σ nh p W l) = zgap (nI (sLCn σ (sNW σ) p W)) (sSt σ p 4) + zsum (sLH σ nh p W) (l + 1) from Int32.add_assoc _ _ _) ?_
        refine z_istore_n (pc := 31) (lv' := [(2, .int (zgap (nI (sLCn σ (sNW σ) p W)) (sSt σ p 4) + zsum (sLH σ nh p W) (l + 1))), (3, .int (nI l)), (0, .ref (g.1 95)), (1, .int (nI p))]) hC dX6_rowContent_31 rfl (by decide) rfl ?_
        refine z_iinc (pc := 32) (v := nI (l + 1)) (lv' := [(3, .int (nI (l + 1))), (2, .int (zgap (nI (sLCn σ (sNW σ) p W)) (sSt σ p 4) + zsum (sLH σ nh p W) (l + 1))), (0, .ref (g.1 95)), (1, .int (nI p))]) hC 1 dX6_rowContent_32 rfl (nI_1 l) (by decide) rfl ?_
        refine z_goto (pc := 35) (tgt := 14) hC dX6_rowContent_35 (by decide) ?_
        exact ih (l + 1) (by omega) (by omega)
  have K := L14 42 0 (Nat.zero_le _) (by have := sLCn_le hm.1 (sNW σ) p W; omega)
  rw [show zgap (nI (sLCn σ (sNW σ) p W)) (sSt σ p 4) + zsum (sLH σ nh p W) 0 = zgap (nI (sLCn σ (sNW σ) p W)) (sSt σ p 4) from Int32.add_zero _] at K
  exact K
end ZM8
