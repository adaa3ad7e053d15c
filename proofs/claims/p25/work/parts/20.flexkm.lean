section ZFKM
set_option maxHeartbeats 4000000 in
set_option maxRecDepth 100000 in
theorem kX1_putT (lx : Launch) (g : zG) (N : Nat) (I : Nat → Nat → Int32) (P : Nat → Nat → Option Nat) (J : Nat → Nat → Int64) (ks : Nat → Nat) (n : Nat) (hn40 : n < 40) (hb : ks n < 40) : z_Ct lx yX1_put (zT yX1_put cX1_put 3 (Option.none : Option FieldType)) ({ frames := 2, cells := 0, slots := 0, locals := 42 } : Room) g N (zputF I true ks n) P J [.ref (g.1 83), .ref (g.1 (ks n)), .int (zB true)] (zMu none (zputF I true ks (n + 1)) P J) 0 0 := by
  refine z_of (by decide) (Nat.le_of_ble_eq_true rfl) (lv0 := [(0, .ref (g.1 83)), (1, .ref (g.1 (ks n))), (2, .int (zB true))]) rfl ?_
  intro C hlx hC hE hRm
  have hC : zX C cX1_put 3 RX1 (zT yX1_put cX1_put 3 (Option.none : Option FieldType)) g N := hC
  refine z_aload_n (pc := 0) hC 0 dX1_put_0 rfl rfl z_isr_r ?_
  refine z_gI (pc := 1) hC 1 9 (x := nI n) rfl (z_lt hC (by decide)) rfl inX1 (by decide) rfl zm_1_168 (zputF_9 _ _ _ _) dX1_put_1 ?_
  refine z_bipush (pc := 4) (v := 40) hC dX1_put_4 rfl ?_
  refine z_icmp_lt (pc := 6) (tgt := 10) hC dX1_put_6 (by decide) (fun h6 => ?_) (fun h6 => ?_)
  · skip
    have g6 := Int32.not_le.mpr h6
    refine z_aload_n (pc := 10) hC 0 dX1_put_10 rfl rfl z_isr_r ?_
    refine z_gF (pc := 11) hC 1 0 (t := 86) rfl (z_lt hC (by decide)) rfl inX1 (by decide) rfl zm_1_159 rfl dX1_put_11 ?_
    refine z_aload_n (pc := 14) hC 0 dX1_put_14 rfl rfl z_isr_r ?_
    refine z_gI (pc := 15) hC 1 9 (x := nI n) rfl (z_lt hC (by decide)) rfl inX1 (by decide) rfl zm_1_168 (zputF_9 _ _ _ _) dX1_put_15 ?_
    refine z_aload_n (pc := 18) hC 1 dX1_put_18 rfl rfl z_isr_r ?_
    refine z_iload_n (pc := 19) hC 2 dX1_put_19 rfl rfl ?_
    refine z_cS (pc := 20) (st := [.int (nI n), .ref (g.1 86)]) hC [.ref (g.1 (ks n)), .int (zB true)] (kX1_baseOf C.2.1 g N (zputF I true ks n) P J (ks n) hb true) zkX1_baseOf zm_2_192 ⟨rfl, rfl⟩ rfl rfl hRm ⟨Nat.le_of_ble_eq_true rfl, Nat.le_of_ble_eq_true rfl⟩ (Nat.le_of_ble_eq_true rfl) ⟨Nat.zero_le _, Nat.zero_le _⟩ dX1_put_20 ?_
    rw [zbase_put _ _ _ _ hb]
    refine z_isN (pc := 23) hC n rfl (z_lt hC (by decide)) rfl hn40 (by decide) dX1_put_23 ?_
    refine z_aload_n (pc := 24) hC 0 dX1_put_24 rfl rfl z_isr_r ?_
    refine z_gF (pc := 25) hC 1 1 (t := 87) rfl (z_lt hC (by decide)) rfl inX1 (by decide) rfl zm_1_160 rfl dX1_put_25 ?_
    refine z_aload_n (pc := 28) hC 0 dX1_put_28 rfl rfl z_isr_r ?_
    refine z_gI (pc := 29) hC 1 9 (x := nI n) rfl (z_lt hC (by decide)) rfl inX1 (by decide) rfl zm_1_168 ((z_u_a _ _ (by decide)).trans (zputF_9 _ _ _ _)) dX1_put_29 ?_
    refine z_aload_n (pc := 32) hC 1 dX1_put_32 rfl rfl z_isr_r ?_
    refine z_iload_n (pc := 33) hC 2 dX1_put_33 rfl rfl ?_
    refine z_if_eq (pc := 34) (tgt := 42) hC dX1_put_34 (by decide) (fun h34 => ?_) (fun h34 => ?_)
    · skip
      have g34 := zB_f h34
      exact absurd g34 (by decide)
    · skip
      have g34 := zB_t h34
      refine z_bipush (pc := 37) (v := 12) hC dX1_put_37 rfl ?_
      refine z_goto (pc := 39) (tgt := 44) hC dX1_put_39 (by decide) ?_
      refine z_cV (pc := 44) (st := [.int (nI n), .ref (g.1 87)]) hC [.int 12] (kX0_of C.2.1 g N (z_u (zputF I true ks n) 86 n (zbase I (ks n) true)) P J (ks n) 12 hb (by decide) 12 rfl (I (40 + ks n) 12) ((z_u_a _ _ (by omega)).trans (zputF_lo _ _ _ (by omega)))) (z_shb hb) (z_ltb hC hb) rfl zkX0_of zm_2_172 ⟨rfl, rfl⟩ rfl rfl hRm ⟨Nat.le_of_ble_eq_true rfl, Nat.le_of_ble_eq_true rfl⟩ (Nat.le_of_ble_eq_true rfl) ⟨Nat.zero_le _, Nat.zero_le _⟩ dX1_put_44 ?_
      refine z_isN (pc := 47) hC n rfl (z_lt hC (by decide)) rfl hn40 (by decide) dX1_put_47 ?_
      refine z_aload_n (pc := 48) hC 0 dX1_put_48 rfl rfl z_isr_r ?_
      refine z_gF (pc := 49) hC 1 2 (t := 88) rfl (z_lt hC (by decide)) rfl inX1 (by decide) rfl zm_1_161 rfl dX1_put_49 ?_
      refine z_aload_n (pc := 52) hC 0 dX1_put_52 rfl rfl z_isr_r ?_
      refine z_gI (pc := 53) hC 1 9 (x := nI n) rfl (z_lt hC (by decide)) rfl inX1 (by decide) rfl zm_1_168 ((z_u_a _ _ (by decide)).trans ((z_u_a _ _ (by decide)).trans (zputF_9 _ _ _ _))) dX1_put_53 ?_
      refine z_aload_n (pc := 56) hC 1 dX1_put_56 rfl rfl z_isr_r ?_
      refine z_iload_n (pc := 57) hC 2 dX1_put_57 rfl rfl ?_
      refine z_if_eq (pc := 58) (tgt := 66) hC dX1_put_58 (by decide) (fun h58 => ?_) (fun h58 => ?_)
      · skip
        have g58 := zB_f h58
        exact absurd g58 (by decide)
      · skip
        have g58 := zB_t h58
        refine z_bipush (pc := 61) (v := 14) hC dX1_put_61 rfl ?_
        refine z_goto (pc := 63) (tgt := 68) hC dX1_put_63 (by decide) ?_
        refine z_cV (pc := 68) (st := [.int (nI n), .ref (g.1 88)]) hC [.int 14] (kX0_of C.2.1 g N (z_u (z_u (zputF I true ks n) 86 n (zbase I (ks n) true)) 87 n (I (40 + ks n) 12)) P J (ks n) 14 hb (by decide) 14 rfl (I (40 + ks n) 14) ((z_u_a _ _ (by omega)).trans ((z_u_a _ _ (by omega)).trans (zputF_lo _ _ _ (by omega))))) (z_shb hb) (z_ltb hC hb) rfl zkX0_of zm_2_172 ⟨rfl, rfl⟩ rfl rfl hRm ⟨Nat.le_of_ble_eq_true rfl, Nat.le_of_ble_eq_true rfl⟩ (Nat.le_of_ble_eq_true rfl) ⟨Nat.zero_le _, Nat.zero_le _⟩ dX1_put_68 ?_
        refine z_isN (pc := 71) hC n rfl (z_lt hC (by decide)) rfl hn40 (by decide) dX1_put_71 ?_
        refine z_aload_n (pc := 72) hC 0 dX1_put_72 rfl rfl z_isr_r ?_
        refine z_gF (pc := 73) hC 1 3 (t := 89) rfl (z_lt hC (by decide)) rfl inX1 (by decide) rfl zm_1_162 rfl dX1_put_73 ?_
        refine z_aload_n (pc := 76) hC 0 dX1_put_76 rfl rfl z_isr_r ?_
        refine z_gI (pc := 77) hC 1 9 (x := nI n) rfl (z_lt hC (by decide)) rfl inX1 (by decide) rfl zm_1_168 ((z_u_a _ _ (by decide)).trans ((z_u_a _ _ (by decide)).trans ((z_u_a _ _ (by decide)).trans (zputF_9 _ _ _ _)))) dX1_put_77 ?_
        refine z_aload_n (pc := 80) hC 1 dX1_put_80 rfl rfl z_isr_r ?_
        refine z_bipush (pc := 81) (v := 8) hC dX1_put_81 rfl ?_
        refine z_cV (pc := 83) (st := [.int (nI n), .ref (g.1 89)]) hC [.int 8] (kX0_of C.2.1 g N (z_u (z_u (z_u (zputF I true ks n) 86 n (zbase I (ks n) true)) 87 n (I (40 + ks n) 12)) 88 n (I (40 + ks n) 14)) P J (ks n) 8 hb (by decide) 8 rfl (I (40 + ks n) 8) ((z_u_a _ _ (by omega)).trans ((z_u_a _ _ (by omega)).trans ((z_u_a _ _ (by omega)).trans (zputF_lo _ _ _ (by omega)))))) (z_shb hb) (z_ltb hC hb) rfl zkX0_of zm_2_172 ⟨rfl, rfl⟩ rfl rfl hRm ⟨Nat.le_of_ble_eq_true rfl, Nat.le_of_ble_eq_true rfl⟩ (Nat.le_of_ble_eq_true rfl) ⟨Nat.zero_le _, Nat.zero_le _⟩ dX1_put_83 ?_
        refine z_isN (pc := 86) hC n rfl (z_lt hC (by decide)) rfl hn40 (by decide) dX1_put_86 ?_
        refine z_aload_n (pc := 87) hC 0 dX1_put_87 rfl rfl z_isr_r ?_
        refine z_gF (pc := 88) hC 1 4 (t := 90) rfl (z_lt hC (by decide)) rfl inX1 (by decide) rfl zm_1_163 rfl dX1_put_88 ?_
        refine z_aload_n (pc := 91) hC 0 dX1_put_91 rfl rfl z_isr_r ?_
        refine z_gI (pc := 92) hC 1 9 (x := nI n) rfl (z_lt hC (by decide)) rfl inX1 (by decide) rfl zm_1_168 ((z_u_a _ _ (by decide)).trans ((z_u_a _ _ (by decide)).trans ((z_u_a _ _ (by decide)).trans ((z_u_a _ _ (by decide)).trans (zputF_9 _ _ _ _))))) dX1_put_92 ?_
        refine z_aload_n (pc := 95) hC 1 dX1_put_95 rfl rfl z_isr_r ?_
        refine z_bipush (pc := 96) (v := 9) hC dX1_put_96 rfl ?_
        refine z_cV (pc := 98) (st := [.int (nI n), .ref (g.1 90)]) hC [.int 9] (kX0_of C.2.1 g N (z_u (z_u (z_u (z_u (zputF I true ks n) 86 n (zbase I (ks n) true)) 87 n (I (40 + ks n) 12)) 88 n (I (40 + ks n) 14)) 89 n (I (40 + ks n) 8)) P J (ks n) 9 hb (by decide) 9 rfl (I (40 + ks n) 9) ((z_u_a _ _ (by omega)).trans ((z_u_a _ _ (by omega)).trans ((z_u_a _ _ (by omega)).trans ((z_u_a _ _ (by omega)).trans (zputF_lo _ _ _ (by omega))))))) (z_shb hb) (z_ltb hC hb) rfl zkX0_of zm_2_172 ⟨rfl, rfl⟩ rfl rfl hRm ⟨Nat.le_of_ble_eq_true rfl, Nat.le_of_ble_eq_true rfl⟩ (Nat.le_of_ble_eq_true rfl) ⟨Nat.zero_le _, Nat.zero_le _⟩ dX1_put_98 ?_
        refine z_isN (pc := 101) hC n rfl (z_lt hC (by decide)) rfl hn40 (by decide) dX1_put_101 ?_
        refine z_aload_n (pc := 102) hC 0 dX1_put_102 rfl rfl z_isr_r ?_
        refine z_dup (pc := 103) hC dX1_put_103 rfl ?_
        refine z_gI (pc := 104) hC 1 10 (x := zsum (fun q => 2 * I (40 + ks q) 6) n) rfl (z_lt hC (by decide)) rfl inX1 (by decide) rfl zm_1_169 ((z_u_a _ _ (by decide)).trans ((z_u_a _ _ (by decide)).trans ((z_u_a _ _ (by decide)).trans ((z_u_a _ _ (by decide)).trans ((z_u_a _ _ (by decide)).trans (zputF_10 _ _ _ _)))))) dX1_put_104 ?_
        refine z_aload_n (pc := 107) hC 1 dX1_put_107 rfl rfl z_isr_r ?_
        refine z_cV (pc := 108) (st := [.int (zsum (fun q => 2 * I (40 + ks q) 6) n), .ref (g.1 83)]) hC [] (kX0_margins C.2.1 g N (z_u (z_u (z_u (z_u (z_u (zputF I true ks n) 86 n (zbase I (ks n) true)) 87 n (I (40 + ks n) 12)) 88 n (I (40 + ks n) 14)) 89 n (I (40 + ks n) 8)) 90 n (I (40 + ks n) 9)) P J (ks n) hb (I (40 + ks n) 6) ((z_u_a _ _ (by omega)).trans ((z_u_a _ _ (by omega)).trans ((z_u_a _ _ (by omega)).trans ((z_u_a _ _ (by omega)).trans ((z_u_a _ _ (by omega)).trans (zputF_lo _ _ _ (by omega)))))))) (z_shb hb) (z_ltb hC hb) rfl zkX0_margins zm_2_193 ⟨rfl, rfl⟩ rfl rfl hRm ⟨Nat.le_of_ble_eq_true rfl, Nat.le_of_ble_eq_true rfl⟩ (Nat.le_of_ble_eq_true rfl) ⟨Nat.zero_le _, Nat.zero_le _⟩ dX1_put_108 ?_
        refine z_iadd (pc := 111) hC dX1_put_111 ?_
        refine z_pI (pc := 112) hC 1 10 rfl (z_lt hC (by decide)) rfl inX1 tyX1_ok nmX1 (by decide) rfl zm_1_169 rfl rfl rfl dX1_put_112 ?_
        refine z_aload_n (pc := 115) hC 0 dX1_put_115 rfl rfl z_isr_r ?_
        refine z_dup (pc := 116) hC dX1_put_116 rfl ?_
        refine z_gI (pc := 117) hC 1 9 (x := nI n) rfl (z_lt hC (by decide)) rfl inX1 (by decide) rfl zm_1_168 ((z_u_b _ _ (by decide)).trans ((z_u_a _ _ (by decide)).trans ((z_u_a _ _ (by decide)).trans ((z_u_a _ _ (by decide)).trans ((z_u_a _ _ (by decide)).trans ((z_u_a _ _ (by decide)).trans (zputF_9 _ _ _ _))))))) dX1_put_117 ?_
        refine z_iconst (pc := 120) (v := 1) hC dX1_put_120 rfl ?_
        refine z_iadd (pc := 121) hC dX1_put_121 ?_
        refine z_pI (pc := 122) hC 1 9 rfl (z_lt hC (by decide)) rfl inX1 tyX1_ok nmX1 (by decide) rfl zm_1_168 rfl rfl rfl dX1_put_122 ?_
        exact z_vret (pc := 125) hC hE dX1_put_125 ⟨rfl, zput_s I true ks n rfl rfl rfl rfl rfl rfl (nI_1 n), rfl, rfl⟩
  · skip
    have g6 := Int32.not_lt.mp h6
    exact absurd (nI_lt hn40 (by decide)) h6
set_option maxHeartbeats 4000000 in
set_option maxRecDepth 100000 in
theorem kX1_putF (lx : Launch) (g : zG) (N : Nat) (I : Nat → Nat → Int32) (P : Nat → Nat → Option Nat) (J : Nat → Nat → Int64) (ks : Nat → Nat) (n : Nat) (hn40 : n < 40) (hb : ks n < 40) : z_Ct lx yX1_put (zT yX1_put cX1_put 3 (Option.none : Option FieldType)) ({ frames := 2, cells := 0, slots := 0, locals := 42 } : Room) g N (zputF I false ks n) P J [.ref (g.1 83), .ref (g.1 (ks n)), .int (zB false)] (zMu none (zputF I false ks (n + 1)) P J) 0 0 := by
  refine z_of (by decide) (Nat.le_of_ble_eq_true rfl) (lv0 := [(0, .ref (g.1 83)), (1, .ref (g.1 (ks n))), (2, .int (zB false))]) rfl ?_
  intro C hlx hC hE hRm
  have hC : zX C cX1_put 3 RX1 (zT yX1_put cX1_put 3 (Option.none : Option FieldType)) g N := hC
  refine z_aload_n (pc := 0) hC 0 dX1_put_0 rfl rfl z_isr_r ?_
  refine z_gI (pc := 1) hC 1 9 (x := nI n) rfl (z_lt hC (by decide)) rfl inX1 (by decide) rfl zm_1_168 (zputF_9 _ _ _ _) dX1_put_1 ?_
  refine z_bipush (pc := 4) (v := 40) hC dX1_put_4 rfl ?_
  refine z_icmp_lt (pc := 6) (tgt := 10) hC dX1_put_6 (by decide) (fun h6 => ?_) (fun h6 => ?_)
  · skip
    have g6 := Int32.not_le.mpr h6
    refine z_aload_n (pc := 10) hC 0 dX1_put_10 rfl rfl z_isr_r ?_
    refine z_gF (pc := 11) hC 1 0 (t := 86) rfl (z_lt hC (by decide)) rfl inX1 (by decide) rfl zm_1_159 rfl dX1_put_11 ?_
    refine z_aload_n (pc := 14) hC 0 dX1_put_14 rfl rfl z_isr_r ?_
    refine z_gI (pc := 15) hC 1 9 (x := nI n) rfl (z_lt hC (by decide)) rfl inX1 (by decide) rfl zm_1_168 (zputF_9 _ _ _ _) dX1_put_15 ?_
    refine z_aload_n (pc := 18) hC 1 dX1_put_18 rfl rfl z_isr_r ?_
    refine z_iload_n (pc := 19) hC 2 dX1_put_19 rfl rfl ?_
    refine z_cS (pc := 20) (st := [.int (nI n), .ref (g.1 86)]) hC [.ref (g.1 (ks n)), .int (zB false)] (kX1_baseOf C.2.1 g N (zputF I false ks n) P J (ks n) hb false) zkX1_baseOf zm_2_192 ⟨rfl, rfl⟩ rfl rfl hRm ⟨Nat.le_of_ble_eq_true rfl, Nat.le_of_ble_eq_true rfl⟩ (Nat.le_of_ble_eq_true rfl) ⟨Nat.zero_le _, Nat.zero_le _⟩ dX1_put_20 ?_
    rw [zbase_put _ _ _ _ hb]
    refine z_isN (pc := 23) hC n rfl (z_lt hC (by decide)) rfl hn40 (by decide) dX1_put_23 ?_
    refine z_aload_n (pc := 24) hC 0 dX1_put_24 rfl rfl z_isr_r ?_
    refine z_gF (pc := 25) hC 1 1 (t := 87) rfl (z_lt hC (by decide)) rfl inX1 (by decide) rfl zm_1_160 rfl dX1_put_25 ?_
    refine z_aload_n (pc := 28) hC 0 dX1_put_28 rfl rfl z_isr_r ?_
    refine z_gI (pc := 29) hC 1 9 (x := nI n) rfl (z_lt hC (by decide)) rfl inX1 (by decide) rfl zm_1_168 ((z_u_a _ _ (by decide)).trans (zputF_9 _ _ _ _)) dX1_put_29 ?_
    refine z_aload_n (pc := 32) hC 1 dX1_put_32 rfl rfl z_isr_r ?_
    refine z_iload_n (pc := 33) hC 2 dX1_put_33 rfl rfl ?_
    refine z_if_eq (pc := 34) (tgt := 42) hC dX1_put_34 (by decide) (fun h34 => ?_) (fun h34 => ?_)
    · skip
      have g34 := zB_f h34
      refine z_bipush (pc := 42) (v := 13) hC dX1_put_42 rfl ?_
      refine z_cV (pc := 44) (st := [.int (nI n), .ref (g.1 87)]) hC [.int 13] (kX0_of C.2.1 g N (z_u (zputF I false ks n) 86 n (zbase I (ks n) false)) P J (ks n) 13 hb (by decide) 13 rfl (I (40 + ks n) 13) ((z_u_a _ _ (by omega)).trans (zputF_lo _ _ _ (by omega)))) (z_shb hb) (z_ltb hC hb) rfl zkX0_of zm_2_172 ⟨rfl, rfl⟩ rfl rfl hRm ⟨Nat.le_of_ble_eq_true rfl, Nat.le_of_ble_eq_true rfl⟩ (Nat.le_of_ble_eq_true rfl) ⟨Nat.zero_le _, Nat.zero_le _⟩ dX1_put_44 ?_
      refine z_isN (pc := 47) hC n rfl (z_lt hC (by decide)) rfl hn40 (by decide) dX1_put_47 ?_
      refine z_aload_n (pc := 48) hC 0 dX1_put_48 rfl rfl z_isr_r ?_
      refine z_gF (pc := 49) hC 1 2 (t := 88) rfl (z_lt hC (by decide)) rfl inX1 (by decide) rfl zm_1_161 rfl dX1_put_49 ?_
      refine z_aload_n (pc := 52) hC 0 dX1_put_52 rfl rfl z_isr_r ?_
      refine z_gI (pc := 53) hC 1 9 (x := nI n) rfl (z_lt hC (by decide)) rfl inX1 (by decide) rfl zm_1_168 ((z_u_a _ _ (by decide)).trans ((z_u_a _ _ (by decide)).trans (zputF_9 _ _ _ _))) dX1_put_53 ?_
      refine z_aload_n (pc := 56) hC 1 dX1_put_56 rfl rfl z_isr_r ?_
      refine z_iload_n (pc := 57) hC 2 dX1_put_57 rfl rfl ?_
      refine z_if_eq (pc := 58) (tgt := 66) hC dX1_put_58 (by decide) (fun h58 => ?_) (fun h58 => ?_)
      · skip
        have g58 := zB_f h58
        refine z_bipush (pc := 66) (v := 15) hC dX1_put_66 rfl ?_
        refine z_cV (pc := 68) (st := [.int (nI n), .ref (g.1 88)]) hC [.int 15] (kX0_of C.2.1 g N (z_u (z_u (zputF I false ks n) 86 n (zbase I (ks n) false)) 87 n (I (40 + ks n) 13)) P J (ks n) 15 hb (by decide) 15 rfl (I (40 + ks n) 15) ((z_u_a _ _ (by omega)).trans ((z_u_a _ _ (by omega)).trans (zputF_lo _ _ _ (by omega))))) (z_shb hb) (z_ltb hC hb) rfl zkX0_of zm_2_172 ⟨rfl, rfl⟩ rfl rfl hRm ⟨Nat.le_of_ble_eq_true rfl, Nat.le_of_ble_eq_true rfl⟩ (Nat.le_of_ble_eq_true rfl) ⟨Nat.zero_le _, Nat.zero_le _⟩ dX1_put_68 ?_
        refine z_isN (pc := 71) hC n rfl (z_lt hC (by decide)) rfl hn40 (by decide) dX1_put_71 ?_
        refine z_aload_n (pc := 72) hC 0 dX1_put_72 rfl rfl z_isr_r ?_
        refine z_gF (pc := 73) hC 1 3 (t := 89) rfl (z_lt hC (by decide)) rfl inX1 (by decide) rfl zm_1_162 rfl dX1_put_73 ?_
        refine z_aload_n (pc := 76) hC 0 dX1_put_76 rfl rfl z_isr_r ?_
        refine z_gI (pc := 77) hC 1 9 (x := nI n) rfl (z_lt hC (by decide)) rfl inX1 (by decide) rfl zm_1_168 ((z_u_a _ _ (by decide)).trans ((z_u_a _ _ (by decide)).trans ((z_u_a _ _ (by decide)).trans (zputF_9 _ _ _ _)))) dX1_put_77 ?_
        refine z_aload_n (pc := 80) hC 1 dX1_put_80 rfl rfl z_isr_r ?_
        refine z_bipush (pc := 81) (v := 8) hC dX1_put_81 rfl ?_
        refine z_cV (pc := 83) (st := [.int (nI n), .ref (g.1 89)]) hC [.int 8] (kX0_of C.2.1 g N (z_u (z_u (z_u (zputF I false ks n) 86 n (zbase I (ks n) false)) 87 n (I (40 + ks n) 13)) 88 n (I (40 + ks n) 15)) P J (ks n) 8 hb (by decide) 8 rfl (I (40 + ks n) 8) ((z_u_a _ _ (by omega)).trans ((z_u_a _ _ (by omega)).trans ((z_u_a _ _ (by omega)).trans (zputF_lo _ _ _ (by omega)))))) (z_shb hb) (z_ltb hC hb) rfl zkX0_of zm_2_172 ⟨rfl, rfl⟩ rfl rfl hRm ⟨Nat.le_of_ble_eq_true rfl, Nat.le_of_ble_eq_true rfl⟩ (Nat.le_of_ble_eq_true rfl) ⟨Nat.zero_le _, Nat.zero_le _⟩ dX1_put_83 ?_
        refine z_isN (pc := 86) hC n rfl (z_lt hC (by decide)) rfl hn40 (by decide) dX1_put_86 ?_
        refine z_aload_n (pc := 87) hC 0 dX1_put_87 rfl rfl z_isr_r ?_
        refine z_gF (pc := 88) hC 1 4 (t := 90) rfl (z_lt hC (by decide)) rfl inX1 (by decide) rfl zm_1_163 rfl dX1_put_88 ?_
        refine z_aload_n (pc := 91) hC 0 dX1_put_91 rfl rfl z_isr_r ?_
        refine z_gI (pc := 92) hC 1 9 (x := nI n) rfl (z_lt hC (by decide)) rfl inX1 (by decide) rfl zm_1_168 ((z_u_a _ _ (by decide)).trans ((z_u_a _ _ (by decide)).trans ((z_u_a _ _ (by decide)).trans ((z_u_a _ _ (by decide)).trans (zputF_9 _ _ _ _))))) dX1_put_92 ?_
        refine z_aload_n (pc := 95) hC 1 dX1_put_95 rfl rfl z_isr_r ?_
        refine z_bipush (pc := 96) (v := 9) hC dX1_put_96 rfl ?_
        refine z_cV (pc := 98) (st := [.int (nI n), .ref (g.1 90)]) hC [.int 9] (kX0_of C.2.1 g N (z_u (z_u (z_u (z_u (zputF I false ks n) 86 n (zbase I (ks n) false)) 87 n (I (40 + ks n) 13)) 88 n (I (40 + ks n) 15)) 89 n (I (40 + ks n) 8)) P J (ks n) 9 hb (by decide) 9 rfl (I (40 + ks n) 9) ((z_u_a _ _ (by omega)).trans ((z_u_a _ _ (by omega)).trans ((z_u_a _ _ (by omega)).trans ((z_u_a _ _ (by omega)).trans (zputF_lo _ _ _ (by omega))))))) (z_shb hb) (z_ltb hC hb) rfl zkX0_of zm_2_172 ⟨rfl, rfl⟩ rfl rfl hRm ⟨Nat.le_of_ble_eq_true rfl, Nat.le_of_ble_eq_true rfl⟩ (Nat.le_of_ble_eq_true rfl) ⟨Nat.zero_le _, Nat.zero_le _⟩ dX1_put_98 ?_
        refine z_isN (pc := 101) hC n rfl (z_lt hC (by decide)) rfl hn40 (by decide) dX1_put_101 ?_
        refine z_aload_n (pc := 102) hC 0 dX1_put_102 rfl rfl z_isr_r ?_
        refine z_dup (pc := 103) hC dX1_put_103 rfl ?_
        refine z_gI (pc := 104) hC 1 10 (x := zsum (fun q => 2 * I (40 + ks q) 6) n) rfl (z_lt hC (by decide)) rfl inX1 (by decide) rfl zm_1_169 ((z_u_a _ _ (by decide)).trans ((z_u_a _ _ (by decide)).trans ((z_u_a _ _ (by decide)).trans ((z_u_a _ _ (by decide)).trans ((z_u_a _ _ (by decide)).trans (zputF_10 _ _ _ _)))))) dX1_put_104 ?_
        refine z_aload_n (pc := 107) hC 1 dX1_put_107 rfl rfl z_isr_r ?_
        refine z_cV (pc := 108) (st := [.int (zsum (fun q => 2 * I (40 + ks q) 6) n), .ref (g.1 83)]) hC [] (kX0_margins C.2.1 g N (z_u (z_u (z_u (z_u (z_u (zputF I false ks n) 86 n (zbase I (ks n) false)) 87 n (I (40 + ks n) 13)) 88 n (I (40 + ks n) 15)) 89 n (I (40 + ks n) 8)) 90 n (I (40 + ks n) 9)) P J (ks n) hb (I (40 + ks n) 6) ((z_u_a _ _ (by omega)).trans ((z_u_a _ _ (by omega)).trans ((z_u_a _ _ (by omega)).trans ((z_u_a _ _ (by omega)).trans ((z_u_a _ _ (by omega)).trans (zputF_lo _ _ _ (by omega)))))))) (z_shb hb) (z_ltb hC hb) rfl zkX0_margins zm_2_193 ⟨rfl, rfl⟩ rfl rfl hRm ⟨Nat.le_of_ble_eq_true rfl, Nat.le_of_ble_eq_true rfl⟩ (Nat.le_of_ble_eq_true rfl) ⟨Nat.zero_le _, Nat.zero_le _⟩ dX1_put_108 ?_
        refine z_iadd (pc := 111) hC dX1_put_111 ?_
        refine z_pI (pc := 112) hC 1 10 rfl (z_lt hC (by decide)) rfl inX1 tyX1_ok nmX1 (by decide) rfl zm_1_169 rfl rfl rfl dX1_put_112 ?_
        refine z_aload_n (pc := 115) hC 0 dX1_put_115 rfl rfl z_isr_r ?_
        refine z_dup (pc := 116) hC dX1_put_116 rfl ?_
        refine z_gI (pc := 117) hC 1 9 (x := nI n) rfl (z_lt hC (by decide)) rfl inX1 (by decide) rfl zm_1_168 ((z_u_b _ _ (by decide)).trans ((z_u_a _ _ (by decide)).trans ((z_u_a _ _ (by decide)).trans ((z_u_a _ _ (by decide)).trans ((z_u_a _ _ (by decide)).trans ((z_u_a _ _ (by decide)).trans (zputF_9 _ _ _ _))))))) dX1_put_117 ?_
        refine z_iconst (pc := 120) (v := 1) hC dX1_put_120 rfl ?_
        refine z_iadd (pc := 121) hC dX1_put_121 ?_
        refine z_pI (pc := 122) hC 1 9 rfl (z_lt hC (by decide)) rfl inX1 tyX1_ok nmX1 (by decide) rfl zm_1_168 rfl rfl rfl dX1_put_122 ?_
        exact z_vret (pc := 125) hC hE dX1_put_125 ⟨rfl, zput_s I false ks n rfl rfl rfl rfl rfl rfl (nI_1 n), rfl, rfl⟩
      · skip
        have g58 := zB_t h58
        exact absurd g58 (by decide)
    · skip
      have g34 := zB_t h34
      exact absurd g34 (by decide)
  · skip
    have g6 := Int32.not_lt.mp h6
    exact absurd (nI_lt hn40 (by decide)) h6
theorem zkX2_flexKids : z_pkV yX2_flexKids cX2_flexKids 8 (Option.none : Option FieldType) RX2 5 := ⟨zm_2_182, zs_X2_flexKids, zm_1_4, zm_2_183, rfl, by decide, by decide, by decide +kernel⟩
theorem zkX2_lineEnd : z_pkS yX2_lineEnd cX2_lineEnd 2 (Option.some (FieldType.object "FlexibleBoxes$Box")) 1 := ⟨zm_2_178, zm_1_4, zm_2_179, by decide, by decide, by decide +kernel⟩
theorem zkX2_breakLines : z_pkS yX2_breakLines cX2_breakLines 5 (Option.none : Option FieldType) 1 := ⟨zm_2_167, zm_1_4, zm_2_168, by decide, by decide, by decide +kernel⟩
theorem zkX2_spreadColumn : z_pkS yX2_spreadColumn cX2_spreadColumn 5 (Option.none : Option FieldType) 1 := ⟨zm_2_152, zm_1_4, zm_2_153, by decide, by decide, by decide +kernel⟩
theorem zkX2_spreadWidths : z_pkV yX2_spreadWidths cX2_spreadWidths 5 (Option.none : Option FieldType) RX2 1 := ⟨zm_2_149, zs_X2_spreadWidths, zm_1_4, zm_2_150, rfl, by decide, by decide, by decide +kernel⟩
theorem zkX2_lineHeight : z_pkS yX2_lineHeight cX2_lineHeight 4 (Option.some FieldType.int) 2 := ⟨zm_2_237, zm_1_4, zm_2_238, by decide, by decide, by decide +kernel⟩
theorem zkX2_contentHeight : z_pkS yX2_contentHeight cX2_contentHeight 5 (Option.some FieldType.int) 1 := ⟨zm_2_234, zm_1_4, zm_2_235, by decide, by decide, by decide +kernel⟩
theorem zkX2_contentWidth : z_pkS yX2_contentWidth cX2_contentWidth 5 (Option.some FieldType.int) 1 := ⟨zm_2_123, zm_1_4, zm_2_124, by decide, by decide, by decide +kernel⟩
theorem zkX2_measureWidth : z_pkS yX2_measureWidth cX2_measureWidth 2 (Option.none : Option FieldType) 1 := ⟨zm_2_112, zm_1_4, zm_2_113, by decide, by decide, by decide +kernel⟩
theorem zkX2_measureHeight : z_pkS yX2_measureHeight cX2_measureHeight 2 (Option.none : Option FieldType) 1 := ⟨zm_2_226, zm_1_4, zm_2_227, by decide, by decide, by decide +kernel⟩
theorem zput86 {I : Nat → Nat → Int32} {wd : Bool} {ks : Nat → Nat} {n j : Nat} (h : j < n) : zputF I wd ks n 86 j = zbase I (ks j) wd := by
  unfold zputF
  simp [h]
theorem zput87 {I : Nat → Nat → Int32} {wd : Bool} {ks : Nat → Nat} {n j : Nat} (h : j < n) : zputF I wd ks n 87 j = I (40 + ks j) (if wd = true then 12 else 13) := by
  unfold zputF
  simp [h]
theorem zput88 {I : Nat → Nat → Int32} {wd : Bool} {ks : Nat → Nat} {n j : Nat} (h : j < n) : zputF I wd ks n 88 j = I (40 + ks j) (if wd = true then 14 else 15) := by
  unfold zputF
  simp [h]
theorem zput89 {I : Nat → Nat → Int32} {wd : Bool} {ks : Nat → Nat} {n j : Nat} (h : j < n) : zputF I wd ks n 89 j = I (40 + ks j) 8 := by
  unfold zputF
  simp [h]
theorem zput90 {I : Nat → Nat → Int32} {wd : Bool} {ks : Nat → Nat} {n j : Nat} (h : j < n) : zputF I wd ks n 90 j = I (40 + ks j) 9 := by
  unfold zputF
  simp [h]
set_option maxHeartbeats 4000000 in
set_option maxRecDepth 100000 in
theorem kX2_flexKidsT (lx : Launch) (g : zG) (N : Nat) (I : Nat → Nat → Int32) (P : Nat → Nat → Option Nat) (J : Nat → Nat → Int64) (L : List Nat) (hL : ∀ x ∈ L, x < 40) (hnd : L.Nodup) (hseg : zseg P L) (hlen : L.length ≤ 40) (a z : Nat) (haz : a ≤ z) (hz : z ≤ L.length) (sp gp : Int32) (hp1 : ∀ j, j < z - a → 0 ≤ I (40 + L.getD (a + j) 0) 8) (hp2 : ∀ j, j < z - a → 0 ≤ I (40 + L.getD (a + j) 0) 9 * zbase I (L.getD (a + j) 0) true) : z_Ct lx yX2_flexKids (zT yX2_flexKids cX2_flexKids 8 (Option.none : Option FieldType)) ({ frames := 3, cells := 0, slots := 0, locals := 87 } : Room) g N I P J [.ref (g.1 82), va_rf (Option.map g.1 (L[a]?)), va_rf (Option.map g.1 (L[z]?)), .int (zB true), .int sp, .int gp] (zflexQ true L a z sp gp I P J) 0 0 := by
  refine z_of (by decide) (by simp [lg_sl, z_catO, z_catR, z_catI, z_catL, z_catN]) (lv0 := [(0, .ref (g.1 82)), (1, va_rf (Option.map g.1 (L[a]?))), (2, va_rf (Option.map g.1 (L[z]?))), (3, .int (zB true)), (4, .int sp), (5, .int gp)]) (by simp [lv_args, z_catO, z_catR, z_catI, z_catL, z_catN]) ?_
  intro C hlx hC hE hRm
  have hC : zX C cX2_flexKids 8 RX2 (zT yX2_flexKids cX2_flexKids 8 (Option.none : Option FieldType)) g N := hC
  refine z_aload_n (pc := 0) hC 0 dX2_flexKids_0 rfl rfl z_isr_r ?_
  refine z_gF (pc := 1) hC 2 1 (t := 83) rfl (z_lt hC (by decide)) rfl inX2 (by decide) rfl zm_1_195 rfl dX2_flexKids_1 ?_
  refine z_cV (pc := 4) (st := []) hC [] (kX1_clear C.2.1 g N I P J) rfl (z_lt hC (by decide)) rfl zkX1_clear zm_2_184 ⟨rfl, rfl⟩ rfl rfl hRm ⟨Nat.le_of_ble_eq_true rfl, Nat.le_of_ble_eq_true rfl⟩ (Nat.le_of_ble_eq_true rfl) ⟨Nat.zero_le _, Nat.zero_le _⟩ dX2_flexKids_4 ?_
  refine z_aload_n (pc := 7) hC 1 dX2_flexKids_7 rfl rfl (z_isr_o _) ?_
  refine z_astore (pc := 8) (lv' := [(6, va_rf (Option.map g.1 (L[a]?))), (0, .ref (g.1 82)), (1, va_rf (Option.map g.1 (L[a]?))), (2, va_rf (Option.map g.1 (L[z]?))), (3, .int (zB true)), (4, .int sp), (5, .int gp)]) hC dX2_flexKids_8 (by decide) (z_isr_o _) rfl ?_
  have L10 : ∀ (zf : Nat) (i : Nat) (hai : a ≤ i) (hiz : i ≤ z), z - i < zf → zJ C g N 8 0 0 (zputF I true (fun j => L.getD (a + j) 0) (i - a)) P J 10 [(6, va_rf (Option.map g.1 (L[i]?))), (0, .ref (g.1 82)), (1, va_rf (Option.map g.1 (L[a]?))), (2, va_rf (Option.map g.1 (L[z]?))), (3, .int (zB true)), (4, .int sp), (5, .int gp)] [] := by
    intro zf
    induction zf with
    | zero =>
      intro i hai hiz hn2
      exact absurd hn2 (Nat.not_lt_zero _)
    | succ zf ih =>
      intro i hai hiz hn2
      refine z_aload (pc := 10) hC 0 dX2_flexKids_10 rfl (z_isr_o _) ?_
      refine z_ifnull (pc := 12) (tgt := 41) hC dX2_flexKids_12 (by decide) (fun h12 => ?_) (fun a12 h12 => ?_)
      · skip
        rw [h12]
        show zJ C g N 8 0 0 (zputF I true (fun j => L.getD (a + j) 0) (i - a)) P J 41 [(6, .null), (0, .ref (g.1 82)), (1, va_rf (Option.map g.1 (L[a]?))), (2, va_rf (Option.map g.1 (L[z]?))), (3, .int (zB true)), (4, .int sp), (5, .int gp)] []
        have ez : z = i := by
          rcases Nat.lt_or_ge i z with q | q
          · rw [List.getElem?_eq_getElem (show i < L.length by omega)] at h12; cases h12
          · omega
        subst ez
        refine z_aload_n (pc := 41) hC 1 dX2_flexKids_41 rfl rfl z_isr_r ?_
        refine z_gF (pc := 42) hC 2 1 (t := 83) rfl (z_lt hC (by decide)) rfl inX2 (by decide) rfl zm_1_195 rfl dX2_flexKids_42 ?_
        refine z_iload (pc := 45) hC 5 dX2_flexKids_45 rfl ?_
        refine z_iload (pc := 47) hC 6 dX2_flexKids_47 rfl ?_
        refine z_callV (pc := 49) (st := []) hC [.int sp, .int gp] ((kX1_share C.2.1 g N (zputF I true (fun j => L.getD (a + j) 0) (z - a)) P J (z - a) (by omega) (zputF_9 _ _ _ _) sp gp (fun j hj => by rw [zput89 hj]; exact hp1 j hj) (fun j hj => by rw [zput90 hj, zput86 hj]; exact hp2 j hj))) rfl (z_lt hC (by decide)) rfl zkX1_share zm_2_194 ⟨rfl, rfl⟩ rfl rfl hRm ⟨Nat.le_of_ble_eq_true rfl, Nat.le_of_ble_eq_true rfl⟩ (Nat.le_of_ble_eq_true rfl) ⟨Nat.zero_le _, Nat.zero_le _⟩ dX2_flexKids_49 ?_
        intro v I2 P2 J2 hq
        obtain ⟨hv, hP2, hJ2, hfr, hsz⟩ := hq
        subst hv
        rw [hP2, hJ2]
        have hsz2 := fun j (hj : j < z - a) => (hsz j hj).trans (fxSz_congr (fun j hj => zput86 hj) (fun j hj => zput87 hj) (fun j hj => zput88 hj) (fun j hj => zput89 hj) (fun j hj => zput90 hj) j hj)
        rw [zputF_10] at hsz2
        have hfr2 : ∀ q j, ¬ (q = 83 ∧ (j = 9 ∨ j = 10)) → ¬ (86 ≤ q ∧ q ≤ 94) → I2 q j = I q j := fun q j h1 h2 => (hfr q j (by omega) (by omega) (by omega) (by omega)).trans (zputF_o _ _ _ h1 (fun y => h2 ⟨y.1, by omega⟩))
        show zJ C g N 8 0 0 I2 P J 52 [(6, .null), (0, .ref (g.1 82)), (1, va_rf (Option.map g.1 (L[a]?))), (2, va_rf (Option.map g.1 (L[z]?))), (3, .int (zB true)), (4, .int sp), (5, .int gp)] []
        refine z_iconst (pc := 52) (v := 0) hC dX2_flexKids_52 rfl ?_
        refine z_istore (pc := 53) (lv' := [(6, .int 0), (0, .ref (g.1 82)), (1, va_rf (Option.map g.1 (L[a]?))), (2, va_rf (Option.map g.1 (L[z]?))), (3, .int (zB true)), (4, .int sp), (5, .int gp)]) hC dX2_flexKids_53 (by decide) rfl ?_
        refine z_aload_n (pc := 55) hC 2 dX2_flexKids_55 rfl rfl (z_isr_o _) ?_
        refine z_astore (pc := 56) (lv' := [(7, va_rf (Option.map g.1 (L[a]?))), (6, .int 0), (0, .ref (g.1 82)), (1, va_rf (Option.map g.1 (L[a]?))), (2, va_rf (Option.map g.1 (L[z]?))), (3, .int (zB true)), (4, .int sp), (5, .int gp)]) hC dX2_flexKids_56 (by decide) (z_isr_o _) rfl ?_
        have L58 : ∀ (zf : Nat) (i : Nat) (Ir : Nat → Nat → Int32) (hai : a ≤ i) (hiz : i ≤ z) (hset : zset1 14 L a i (I2 92) I2 Ir), z - i < zf → zJ C g N 8 0 0 Ir P J 58 [(7, va_rf (Option.map g.1 (L[i]?))), (6, .int (nI (i - a))), (0, .ref (g.1 82)), (1, va_rf (Option.map g.1 (L[a]?))), (2, va_rf (Option.map g.1 (L[z]?))), (3, .int (zB true)), (4, .int sp), (5, .int gp)] [] := by
          intro zf
          induction zf with
          | zero =>
            intro i Ir hai hiz hset hn2
            exact absurd hn2 (Nat.not_lt_zero _)
          | succ zf ih =>
            intro i Ir hai hiz hset hn2
            refine z_aload (pc := 58) hC 0 dX2_flexKids_58 rfl (z_isr_o _) ?_
            refine z_ifnull (pc := 60) (tgt := 117) hC dX2_flexKids_60 (by decide) (fun h60 => ?_) (fun a60 h60 => ?_)
            · skip
              rw [h60]
              show zJ C g N 8 0 0 Ir P J 117 [(7, .null), (6, .int (nI (i - a))), (0, .ref (g.1 82)), (1, va_rf (Option.map g.1 (L[a]?))), (2, va_rf (Option.map g.1 (L[z]?))), (3, .int (zB true)), (4, .int sp), (5, .int gp)] []
              have ez : z = i := by
                rcases Nat.lt_or_ge i z with q | q
                · rw [List.getElem?_eq_getElem (show i < L.length by omega)] at h60; cases h60
                · omega
              subst ez
              exact z_vret (pc := 117) hC hE dX2_flexKids_117 ⟨rfl, rfl, rfl, fun q j h1 h2 h3 => (hset.1 q j h3).trans (hfr2 q j h1 h2), fun k q h1 h2 h3 => (hset.2 k q h1 h2 h3).trans (hsz2 (k - a) (by omega))⟩
            · skip
              rw [h60]
              show zJ C g N 8 0 0 Ir P J 63 [(7, .ref (g.1 a60)), (6, .int (nI (i - a))), (0, .ref (g.1 82)), (1, va_rf (Option.map g.1 (L[a]?))), (2, va_rf (Option.map g.1 (L[z]?))), (3, .int (zB true)), (4, .int sp), (5, .int gp)] []
              have hx60 : a60 < 40 := hL a60 (List.mem_of_getElem? h60)
              refine z_aload (pc := 63) hC 0 dX2_flexKids_63 rfl z_isr_r ?_
              refine z_aload_n (pc := 65) hC 4 dX2_flexKids_65 rfl rfl (z_isr_o _) ?_
              refine z_acmp_eq (pc := 66) (tgt := 117) (x := (some a60)) (y := (L[z]?)) hC dX2_flexKids_66 (by decide) (fun b q => by cases q; exact z_ltb hC hx60) (fun b q => z_ltb hC (hL b (List.mem_of_getElem? q))) (fun h66 => ?_) (fun h66 => ?_)
              · skip
                have ez : z = i := (zlist_inj hnd h60 h66.symm).symm
                subst ez
                exact z_vret (pc := 117) hC hE dX2_flexKids_117 ⟨rfl, rfl, rfl, fun q j h1 h2 h3 => (hset.1 q j h3).trans (hfr2 q j h1 h2), fun k q h1 h2 h3 => (hset.2 k q h1 h2 h3).trans (hsz2 (k - a) (by omega))⟩
              · skip
                have eiz : i < z := by
                  rcases Nat.lt_or_ge i z with q | q
                  · exact q
                  · have e : i = z := by omega
                    rw [e] at h60; exact absurd h60.symm h66
                refine z_iload_n (pc := 69) hC 5 dX2_flexKids_69 rfl rfl ?_
                refine z_if_eq (pc := 70) (tgt := 90) hC dX2_flexKids_70 (by decide) (fun h70 => ?_) (fun h70 => ?_)
                · skip
                  have g70 := zB_f h70
                  exact absurd g70 (by decide)
                · skip
                  have g70 := zB_t h70
                  refine z_aload (pc := 73) hC 0 dX2_flexKids_73 rfl z_isr_r ?_
                  refine z_aload_n (pc := 75) hC 2 dX2_flexKids_75 rfl rfl z_isr_r ?_
                  refine z_gF (pc := 76) hC 2 1 (t := 83) rfl (z_lt hC (by decide)) rfl inX2 (by decide) rfl zm_1_195 rfl dX2_flexKids_76 ?_
                  refine z_iload (pc := 79) hC 1 dX2_flexKids_79 rfl ?_
                  refine z_cV (pc := 81) (st := [.ref (g.1 a60)]) hC [.int (nI (i - a))] ((by have k := kX1_sizeAt C.2.1 g N Ir P J (i - a) (by omega) (nI (i - a)) rfl; exact k)) rfl (z_lt hC (by decide)) rfl zkX1_sizeAt zm_2_221 ⟨rfl, rfl⟩ rfl rfl hRm ⟨Nat.le_of_ble_eq_true rfl, Nat.le_of_ble_eq_true rfl⟩ (Nat.le_of_ble_eq_true rfl) ⟨Nat.zero_le _, Nat.zero_le _⟩ dX2_flexKids_81 ?_
                  rw [(hset.1 92 (i - a) (fun y => by obtain ⟨_, k, y1, y2, y3⟩ := y; have := hL _ (List.mem_of_getElem? y3); omega))]
                  refine z_pI (pc := 84) hC 0 14 (z_shb hx60) (z_ltb hC hx60) rfl inX0 tyX0_ok nmX0 (by decide) rfl zm_1_72 rfl rfl rfl dX2_flexKids_84 ?_
                  refine z_goto (pc := 87) (tgt := 104) hC dX2_flexKids_87 (by decide) ?_
                  refine z_iinc (pc := 104) (v := nI (i + 1 - a)) (lv' := [(6, .int (nI (i + 1 - a))), (7, .ref (g.1 a60)), (0, .ref (g.1 82)), (1, va_rf (Option.map g.1 (L[a]?))), (2, va_rf (Option.map g.1 (L[z]?))), (3, .int (zB true)), (4, .int sp), (5, .int gp)]) hC 1 dX2_flexKids_104 rfl (by rw [show i + 1 - a = i - a + 1 by omega]; exact nI_1 _) (by decide) rfl ?_
                  refine z_aload (pc := 107) hC 1 dX2_flexKids_107 rfl z_isr_r ?_
                  refine z_gP (pc := 109) hC 0 7 (v := va_rf (Option.map g.1 (L[i + 1]?))) (z_shb hx60) (z_ltb hC hx60) rfl inX0 (by decide) rfl zm_1_55 (by rw [hseg i a60 h60]) dX2_flexKids_109 ?_
                  refine z_astore (pc := 112) (lv' := [(7, va_rf (Option.map g.1 (L[i + 1]?))), (6, .int (nI (i + 1 - a))), (0, .ref (g.1 82)), (1, va_rf (Option.map g.1 (L[a]?))), (2, va_rf (Option.map g.1 (L[z]?))), (3, .int (zB true)), (4, .int sp), (5, .int gp)]) hC dX2_flexKids_112 (by decide) (z_isr_o _) rfl ?_
                  refine z_goto (pc := 114) (tgt := 58) hC dX2_flexKids_114 (by decide) ?_
                  exact ih (i + 1) _ (by omega) (by omega) (zset1_s hnd h60 hai hset (by rfl)) (by omega)
        have L0 := L58 (z - a + 1) a _ (Nat.le_refl a) haz (zset1_0 _ _ _ _ _) (by omega)
        rw [Nat.sub_self] at L0
        exact L0
      · skip
        rw [h12]
        show zJ C g N 8 0 0 (zputF I true (fun j => L.getD (a + j) 0) (i - a)) P J 15 [(6, .ref (g.1 a12)), (0, .ref (g.1 82)), (1, va_rf (Option.map g.1 (L[a]?))), (2, va_rf (Option.map g.1 (L[z]?))), (3, .int (zB true)), (4, .int sp), (5, .int gp)] []
        have hx12 : a12 < 40 := hL a12 (List.mem_of_getElem? h12)
        refine z_aload (pc := 15) hC 0 dX2_flexKids_15 rfl z_isr_r ?_
        refine z_aload_n (pc := 17) hC 3 dX2_flexKids_17 rfl rfl (z_isr_o _) ?_
        refine z_acmp_eq (pc := 18) (tgt := 41) (x := (some a12)) (y := (L[z]?)) hC dX2_flexKids_18 (by decide) (fun b q => by cases q; exact z_ltb hC hx12) (fun b q => z_ltb hC (hL b (List.mem_of_getElem? q))) (fun h18 => ?_) (fun h18 => ?_)
        · skip
          have ez : z = i := (zlist_inj hnd h12 h18.symm).symm
          subst ez
          refine z_aload_n (pc := 41) hC 1 dX2_flexKids_41 rfl rfl z_isr_r ?_
          refine z_gF (pc := 42) hC 2 1 (t := 83) rfl (z_lt hC (by decide)) rfl inX2 (by decide) rfl zm_1_195 rfl dX2_flexKids_42 ?_
          refine z_iload (pc := 45) hC 5 dX2_flexKids_45 rfl ?_
          refine z_iload (pc := 47) hC 6 dX2_flexKids_47 rfl ?_
          refine z_callV (pc := 49) (st := []) hC [.int sp, .int gp] ((kX1_share C.2.1 g N (zputF I true (fun j => L.getD (a + j) 0) (z - a)) P J (z - a) (by omega) (zputF_9 _ _ _ _) sp gp (fun j hj => by rw [zput89 hj]; exact hp1 j hj) (fun j hj => by rw [zput90 hj, zput86 hj]; exact hp2 j hj))) rfl (z_lt hC (by decide)) rfl zkX1_share zm_2_194 ⟨rfl, rfl⟩ rfl rfl hRm ⟨Nat.le_of_ble_eq_true rfl, Nat.le_of_ble_eq_true rfl⟩ (Nat.le_of_ble_eq_true rfl) ⟨Nat.zero_le _, Nat.zero_le _⟩ dX2_flexKids_49 ?_
          intro v I2 P2 J2 hq
          obtain ⟨hv, hP2, hJ2, hfr, hsz⟩ := hq
          subst hv
          rw [hP2, hJ2]
          have hsz2 := fun j (hj : j < z - a) => (hsz j hj).trans (fxSz_congr (fun j hj => zput86 hj) (fun j hj => zput87 hj) (fun j hj => zput88 hj) (fun j hj => zput89 hj) (fun j hj => zput90 hj) j hj)
          rw [zputF_10] at hsz2
          have hfr2 : ∀ q j, ¬ (q = 83 ∧ (j = 9 ∨ j = 10)) → ¬ (86 ≤ q ∧ q ≤ 94) → I2 q j = I q j := fun q j h1 h2 => (hfr q j (by omega) (by omega) (by omega) (by omega)).trans (zputF_o _ _ _ h1 (fun y => h2 ⟨y.1, by omega⟩))
          show zJ C g N 8 0 0 I2 P J 52 [(6, .ref (g.1 a12)), (0, .ref (g.1 82)), (1, va_rf (Option.map g.1 (L[a]?))), (2, va_rf (Option.map g.1 (L[z]?))), (3, .int (zB true)), (4, .int sp), (5, .int gp)] []
          refine z_iconst (pc := 52) (v := 0) hC dX2_flexKids_52 rfl ?_
          refine z_istore (pc := 53) (lv' := [(6, .int 0), (0, .ref (g.1 82)), (1, va_rf (Option.map g.1 (L[a]?))), (2, va_rf (Option.map g.1 (L[z]?))), (3, .int (zB true)), (4, .int sp), (5, .int gp)]) hC dX2_flexKids_53 (by decide) rfl ?_
          refine z_aload_n (pc := 55) hC 2 dX2_flexKids_55 rfl rfl (z_isr_o _) ?_
          refine z_astore (pc := 56) (lv' := [(7, va_rf (Option.map g.1 (L[a]?))), (6, .int 0), (0, .ref (g.1 82)), (1, va_rf (Option.map g.1 (L[a]?))), (2, va_rf (Option.map g.1 (L[z]?))), (3, .int (zB true)), (4, .int sp), (5, .int gp)]) hC dX2_flexKids_56 (by decide) (z_isr_o _) rfl ?_
          have L58 : ∀ (zf : Nat) (i : Nat) (Ir : Nat → Nat → Int32) (hai : a ≤ i) (hiz : i ≤ z) (hset : zset1 14 L a i (I2 92) I2 Ir), z - i < zf → zJ C g N 8 0 0 Ir P J 58 [(7, va_rf (Option.map g.1 (L[i]?))), (6, .int (nI (i - a))), (0, .ref (g.1 82)), (1, va_rf (Option.map g.1 (L[a]?))), (2, va_rf (Option.map g.1 (L[z]?))), (3, .int (zB true)), (4, .int sp), (5, .int gp)] [] := by
            intro zf
            induction zf with
            | zero =>
              intro i Ir hai hiz hset hn2
              exact absurd hn2 (Nat.not_lt_zero _)
            | succ zf ih =>
              intro i Ir hai hiz hset hn2
              refine z_aload (pc := 58) hC 0 dX2_flexKids_58 rfl (z_isr_o _) ?_
              refine z_ifnull (pc := 60) (tgt := 117) hC dX2_flexKids_60 (by decide) (fun h60 => ?_) (fun a60 h60 => ?_)
              · skip
                rw [h60]
                show zJ C g N 8 0 0 Ir P J 117 [(7, .null), (6, .int (nI (i - a))), (0, .ref (g.1 82)), (1, va_rf (Option.map g.1 (L[a]?))), (2, va_rf (Option.map g.1 (L[z]?))), (3, .int (zB true)), (4, .int sp), (5, .int gp)] []
                have ez : z = i := by
                  rcases Nat.lt_or_ge i z with q | q
                  · rw [List.getElem?_eq_getElem (show i < L.length by omega)] at h60; cases h60
                  · omega
                subst ez
                exact z_vret (pc := 117) hC hE dX2_flexKids_117 ⟨rfl, rfl, rfl, fun q j h1 h2 h3 => (hset.1 q j h3).trans (hfr2 q j h1 h2), fun k q h1 h2 h3 => (hset.2 k q h1 h2 h3).trans (hsz2 (k - a) (by omega))⟩
              · skip
                rw [h60]
                show zJ C g N 8 0 0 Ir P J 63 [(7, .ref (g.1 a60)), (6, .int (nI (i - a))), (0, .ref (g.1 82)), (1, va_rf (Option.map g.1 (L[a]?))), (2, va_rf (Option.map g.1 (L[z]?))), (3, .int (zB true)), (4, .int sp), (5, .int gp)] []
                have hx60 : a60 < 40 := hL a60 (List.mem_of_getElem? h60)
                refine z_aload (pc := 63) hC 0 dX2_flexKids_63 rfl z_isr_r ?_
                refine z_aload_n (pc := 65) hC 4 dX2_flexKids_65 rfl rfl (z_isr_o _) ?_
                refine z_acmp_eq (pc := 66) (tgt := 117) (x := (some a60)) (y := (L[z]?)) hC dX2_flexKids_66 (by decide) (fun b q => by cases q; exact z_ltb hC hx60) (fun b q => z_ltb hC (hL b (List.mem_of_getElem? q))) (fun h66 => ?_) (fun h66 => ?_)
                · skip
                  have ez : z = i := (zlist_inj hnd h60 h66.symm).symm
                  subst ez
                  exact z_vret (pc := 117) hC hE dX2_flexKids_117 ⟨rfl, rfl, rfl, fun q j h1 h2 h3 => (hset.1 q j h3).trans (hfr2 q j h1 h2), fun k q h1 h2 h3 => (hset.2 k q h1 h2 h3).trans (hsz2 (k - a) (by omega))⟩
                · skip
                  have eiz : i < z := by
                    rcases Nat.lt_or_ge i z with q | q
                    · exact q
                    · have e : i = z := by omega
                      rw [e] at h60; exact absurd h60.symm h66
                  refine z_iload_n (pc := 69) hC 5 dX2_flexKids_69 rfl rfl ?_
                  refine z_if_eq (pc := 70) (tgt := 90) hC dX2_flexKids_70 (by decide) (fun h70 => ?_) (fun h70 => ?_)
                  · skip
                    have g70 := zB_f h70
                    exact absurd g70 (by decide)
                  · skip
                    have g70 := zB_t h70
                    refine z_aload (pc := 73) hC 0 dX2_flexKids_73 rfl z_isr_r ?_
                    refine z_aload_n (pc := 75) hC 2 dX2_flexKids_75 rfl rfl z_isr_r ?_
                    refine z_gF (pc := 76) hC 2 1 (t := 83) rfl (z_lt hC (by decide)) rfl inX2 (by decide) rfl zm_1_195 rfl dX2_flexKids_76 ?_
                    refine z_iload (pc := 79) hC 1 dX2_flexKids_79 rfl ?_
                    refine z_cV (pc := 81) (st := [.ref (g.1 a60)]) hC [.int (nI (i - a))] ((by have k := kX1_sizeAt C.2.1 g N Ir P J (i - a) (by omega) (nI (i - a)) rfl; exact k)) rfl (z_lt hC (by decide)) rfl zkX1_sizeAt zm_2_221 ⟨rfl, rfl⟩ rfl rfl hRm ⟨Nat.le_of_ble_eq_true rfl, Nat.le_of_ble_eq_true rfl⟩ (Nat.le_of_ble_eq_true rfl) ⟨Nat.zero_le _, Nat.zero_le _⟩ dX2_flexKids_81 ?_
                    rw [(hset.1 92 (i - a) (fun y => by obtain ⟨_, k, y1, y2, y3⟩ := y; have := hL _ (List.mem_of_getElem? y3); omega))]
                    refine z_pI (pc := 84) hC 0 14 (z_shb hx60) (z_ltb hC hx60) rfl inX0 tyX0_ok nmX0 (by decide) rfl zm_1_72 rfl rfl rfl dX2_flexKids_84 ?_
                    refine z_goto (pc := 87) (tgt := 104) hC dX2_flexKids_87 (by decide) ?_
                    refine z_iinc (pc := 104) (v := nI (i + 1 - a)) (lv' := [(6, .int (nI (i + 1 - a))), (7, .ref (g.1 a60)), (0, .ref (g.1 82)), (1, va_rf (Option.map g.1 (L[a]?))), (2, va_rf (Option.map g.1 (L[z]?))), (3, .int (zB true)), (4, .int sp), (5, .int gp)]) hC 1 dX2_flexKids_104 rfl (by rw [show i + 1 - a = i - a + 1 by omega]; exact nI_1 _) (by decide) rfl ?_
                    refine z_aload (pc := 107) hC 1 dX2_flexKids_107 rfl z_isr_r ?_
                    refine z_gP (pc := 109) hC 0 7 (v := va_rf (Option.map g.1 (L[i + 1]?))) (z_shb hx60) (z_ltb hC hx60) rfl inX0 (by decide) rfl zm_1_55 (by rw [hseg i a60 h60]) dX2_flexKids_109 ?_
                    refine z_astore (pc := 112) (lv' := [(7, va_rf (Option.map g.1 (L[i + 1]?))), (6, .int (nI (i + 1 - a))), (0, .ref (g.1 82)), (1, va_rf (Option.map g.1 (L[a]?))), (2, va_rf (Option.map g.1 (L[z]?))), (3, .int (zB true)), (4, .int sp), (5, .int gp)]) hC dX2_flexKids_112 (by decide) (z_isr_o _) rfl ?_
                    refine z_goto (pc := 114) (tgt := 58) hC dX2_flexKids_114 (by decide) ?_
                    exact ih (i + 1) _ (by omega) (by omega) (zset1_s hnd h60 hai hset (by rfl)) (by omega)
          have L0 := L58 (z - a + 1) a _ (Nat.le_refl a) haz (zset1_0 _ _ _ _ _) (by omega)
          rw [Nat.sub_self] at L0
          exact L0
        · skip
          have eiz : i < z := by
            rcases Nat.lt_or_ge i z with q | q
            · exact q
            · have e : i = z := by omega
              rw [e] at h12; exact absurd h12.symm h18
          refine z_aload_n (pc := 21) hC 1 dX2_flexKids_21 rfl rfl z_isr_r ?_
          refine z_gF (pc := 22) hC 2 1 (t := 83) rfl (z_lt hC (by decide)) rfl inX2 (by decide) rfl zm_1_195 rfl dX2_flexKids_22 ?_
          refine z_aload (pc := 25) hC 0 dX2_flexKids_25 rfl z_isr_r ?_
          refine z_iload_n (pc := 27) hC 4 dX2_flexKids_27 rfl rfl ?_
          have eka : L.getD (a + (i - a)) 0 = a12 := by rw [show a + (i - a) = i by omega, List.getD_eq_getElem?_getD, h12]; rfl
          refine z_cV (pc := 28) (st := []) hC [.ref (g.1 a12), .int (zB true)] ((by have k := kX1_putT C.2.1 g N I P J (fun j => L.getD (a + j) 0) (i - a) (by omega) (by show L.getD (a + (i - a)) 0 < 40; rw [eka]; exact hx12); rw [eka] at k; exact k)) rfl (z_lt hC (by decide)) rfl zkX1_put zm_2_188 ⟨rfl, rfl⟩ rfl rfl hRm ⟨Nat.le_of_ble_eq_true rfl, Nat.le_of_ble_eq_true rfl⟩ (Nat.le_of_ble_eq_true rfl) ⟨Nat.zero_le _, Nat.zero_le _⟩ dX2_flexKids_28 ?_
          rw [show i - a + 1 = i + 1 - a by omega]
          refine z_aload (pc := 31) hC 0 dX2_flexKids_31 rfl z_isr_r ?_
          refine z_gP (pc := 33) hC 0 7 (v := va_rf (Option.map g.1 (L[i + 1]?))) (z_shb hx12) (z_ltb hC hx12) rfl inX0 (by decide) rfl zm_1_55 (by rw [hseg i a12 h12]) dX2_flexKids_33 ?_
          refine z_astore (pc := 36) (lv' := [(6, va_rf (Option.map g.1 (L[i + 1]?))), (0, .ref (g.1 82)), (1, va_rf (Option.map g.1 (L[a]?))), (2, va_rf (Option.map g.1 (L[z]?))), (3, .int (zB true)), (4, .int sp), (5, .int gp)]) hC dX2_flexKids_36 (by decide) (z_isr_o _) rfl ?_
          refine z_goto (pc := 38) (tgt := 10) hC dX2_flexKids_38 (by decide) ?_
          exact ih (i + 1) (by omega) (by omega) (by omega)
  have L0 := L10 (z - a + 1) a (Nat.le_refl a) haz (by omega)
  rw [Nat.sub_self, zputF_0] at L0
  exact L0
set_option maxHeartbeats 4000000 in
set_option maxRecDepth 100000 in
theorem kX2_flexKidsF (lx : Launch) (g : zG) (N : Nat) (I : Nat → Nat → Int32) (P : Nat → Nat → Option Nat) (J : Nat → Nat → Int64) (L : List Nat) (hL : ∀ x ∈ L, x < 40) (hnd : L.Nodup) (hseg : zseg P L) (hlen : L.length ≤ 40) (a z : Nat) (haz : a ≤ z) (hz : z ≤ L.length) (sp gp : Int32) (hp1 : ∀ j, j < z - a → 0 ≤ I (40 + L.getD (a + j) 0) 8) (hp2 : ∀ j, j < z - a → 0 ≤ I (40 + L.getD (a + j) 0) 9 * zbase I (L.getD (a + j) 0) false) : z_Ct lx yX2_flexKids (zT yX2_flexKids cX2_flexKids 8 (Option.none : Option FieldType)) ({ frames := 3, cells := 0, slots := 0, locals := 87 } : Room) g N I P J [.ref (g.1 82), va_rf (Option.map g.1 (L[a]?)), va_rf (Option.map g.1 (L[z]?)), .int (zB false), .int sp, .int gp] (zflexQ false L a z sp gp I P J) 0 0 := by
  refine z_of (by decide) (by simp [lg_sl, z_catO, z_catR, z_catI, z_catL, z_catN]) (lv0 := [(0, .ref (g.1 82)), (1, va_rf (Option.map g.1 (L[a]?))), (2, va_rf (Option.map g.1 (L[z]?))), (3, .int (zB false)), (4, .int sp), (5, .int gp)]) (by simp [lv_args, z_catO, z_catR, z_catI, z_catL, z_catN]) ?_
  intro C hlx hC hE hRm
  have hC : zX C cX2_flexKids 8 RX2 (zT yX2_flexKids cX2_flexKids 8 (Option.none : Option FieldType)) g N := hC
  refine z_aload_n (pc := 0) hC 0 dX2_flexKids_0 rfl rfl z_isr_r ?_
  refine z_gF (pc := 1) hC 2 1 (t := 83) rfl (z_lt hC (by decide)) rfl inX2 (by decide) rfl zm_1_195 rfl dX2_flexKids_1 ?_
  refine z_cV (pc := 4) (st := []) hC [] (kX1_clear C.2.1 g N I P J) rfl (z_lt hC (by decide)) rfl zkX1_clear zm_2_184 ⟨rfl, rfl⟩ rfl rfl hRm ⟨Nat.le_of_ble_eq_true rfl, Nat.le_of_ble_eq_true rfl⟩ (Nat.le_of_ble_eq_true rfl) ⟨Nat.zero_le _, Nat.zero_le _⟩ dX2_flexKids_4 ?_
  refine z_aload_n (pc := 7) hC 1 dX2_flexKids_7 rfl rfl (z_isr_o _) ?_
  refine z_astore (pc := 8) (lv' := [(6, va_rf (Option.map g.1 (L[a]?))), (0, .ref (g.1 82)), (1, va_rf (Option.map g.1 (L[a]?))), (2, va_rf (Option.map g.1 (L[z]?))), (3, .int (zB false)), (4, .int sp), (5, .int gp)]) hC dX2_flexKids_8 (by decide) (z_isr_o _) rfl ?_
  have L10 : ∀ (zf : Nat) (i : Nat) (hai : a ≤ i) (hiz : i ≤ z), z - i < zf → zJ C g N 8 0 0 (zputF I false (fun j => L.getD (a + j) 0) (i - a)) P J 10 [(6, va_rf (Option.map g.1 (L[i]?))), (0, .ref (g.1 82)), (1, va_rf (Option.map g.1 (L[a]?))), (2, va_rf (Option.map g.1 (L[z]?))), (3, .int (zB false)), (4, .int sp), (5, .int gp)] [] := by
    intro zf
    induction zf with
    | zero =>
      intro i hai hiz hn2
      exact absurd hn2 (Nat.not_lt_zero _)
    | succ zf ih =>
      intro i hai hiz hn2
      refine z_aload (pc := 10) hC 0 dX2_flexKids_10 rfl (z_isr_o _) ?_
      refine z_ifnull (pc := 12) (tgt := 41) hC dX2_flexKids_12 (by decide) (fun h12 => ?_) (fun a12 h12 => ?_)
      · skip
        rw [h12]
        show zJ C g N 8 0 0 (zputF I false (fun j => L.getD (a + j) 0) (i - a)) P J 41 [(6, .null), (0, .ref (g.1 82)), (1, va_rf (Option.map g.1 (L[a]?))), (2, va_rf (Option.map g.1 (L[z]?))), (3, .int (zB false)), (4, .int sp), (5, .int gp)] []
        have ez : z = i := by
          rcases Nat.lt_or_ge i z with q | q
          · rw [List.getElem?_eq_getElem (show i < L.length by omega)] at h12; cases h12
          · omega
        subst ez
        refine z_aload_n (pc := 41) hC 1 dX2_flexKids_41 rfl rfl z_isr_r ?_
        refine z_gF (pc := 42) hC 2 1 (t := 83) rfl (z_lt hC (by decide)) rfl inX2 (by decide) rfl zm_1_195 rfl dX2_flexKids_42 ?_
        refine z_iload (pc := 45) hC 5 dX2_flexKids_45 rfl ?_
        refine z_iload (pc := 47) hC 6 dX2_flexKids_47 rfl ?_
        refine z_callV (pc := 49) (st := []) hC [.int sp, .int gp] ((kX1_share C.2.1 g N (zputF I false (fun j => L.getD (a + j) 0) (z - a)) P J (z - a) (by omega) (zputF_9 _ _ _ _) sp gp (fun j hj => by rw [zput89 hj]; exact hp1 j hj) (fun j hj => by rw [zput90 hj, zput86 hj]; exact hp2 j hj))) rfl (z_lt hC (by decide)) rfl zkX1_share zm_2_194 ⟨rfl, rfl⟩ rfl rfl hRm ⟨Nat.le_of_ble_eq_true rfl, Nat.le_of_ble_eq_true rfl⟩ (Nat.le_of_ble_eq_true rfl) ⟨Nat.zero_le _, Nat.zero_le _⟩ dX2_flexKids_49 ?_
        intro v I2 P2 J2 hq
        obtain ⟨hv, hP2, hJ2, hfr, hsz⟩ := hq
        subst hv
        rw [hP2, hJ2]
        have hsz2 := fun j (hj : j < z - a) => (hsz j hj).trans (fxSz_congr (fun j hj => zput86 hj) (fun j hj => zput87 hj) (fun j hj => zput88 hj) (fun j hj => zput89 hj) (fun j hj => zput90 hj) j hj)
        rw [zputF_10] at hsz2
        have hfr2 : ∀ q j, ¬ (q = 83 ∧ (j = 9 ∨ j = 10)) → ¬ (86 ≤ q ∧ q ≤ 94) → I2 q j = I q j := fun q j h1 h2 => (hfr q j (by omega) (by omega) (by omega) (by omega)).trans (zputF_o _ _ _ h1 (fun y => h2 ⟨y.1, by omega⟩))
        show zJ C g N 8 0 0 I2 P J 52 [(6, .null), (0, .ref (g.1 82)), (1, va_rf (Option.map g.1 (L[a]?))), (2, va_rf (Option.map g.1 (L[z]?))), (3, .int (zB false)), (4, .int sp), (5, .int gp)] []
        refine z_iconst (pc := 52) (v := 0) hC dX2_flexKids_52 rfl ?_
        refine z_istore (pc := 53) (lv' := [(6, .int 0), (0, .ref (g.1 82)), (1, va_rf (Option.map g.1 (L[a]?))), (2, va_rf (Option.map g.1 (L[z]?))), (3, .int (zB false)), (4, .int sp), (5, .int gp)]) hC dX2_flexKids_53 (by decide) rfl ?_
        refine z_aload_n (pc := 55) hC 2 dX2_flexKids_55 rfl rfl (z_isr_o _) ?_
        refine z_astore (pc := 56) (lv' := [(7, va_rf (Option.map g.1 (L[a]?))), (6, .int 0), (0, .ref (g.1 82)), (1, va_rf (Option.map g.1 (L[a]?))), (2, va_rf (Option.map g.1 (L[z]?))), (3, .int (zB false)), (4, .int sp), (5, .int gp)]) hC dX2_flexKids_56 (by decide) (z_isr_o _) rfl ?_
        have L58 : ∀ (zf : Nat) (i : Nat) (Ir : Nat → Nat → Int32) (hai : a ≤ i) (hiz : i ≤ z) (hset : zset1 15 L a i (I2 92) I2 Ir), z - i < zf → zJ C g N 8 0 0 Ir P J 58 [(7, va_rf (Option.map g.1 (L[i]?))), (6, .int (nI (i - a))), (0, .ref (g.1 82)), (1, va_rf (Option.map g.1 (L[a]?))), (2, va_rf (Option.map g.1 (L[z]?))), (3, .int (zB false)), (4, .int sp), (5, .int gp)] [] := by
          intro zf
          induction zf with
          | zero =>
            intro i Ir hai hiz hset hn2
            exact absurd hn2 (Nat.not_lt_zero _)
          | succ zf ih =>
            intro i Ir hai hiz hset hn2
            refine z_aload (pc := 58) hC 0 dX2_flexKids_58 rfl (z_isr_o _) ?_
            refine z_ifnull (pc := 60) (tgt := 117) hC dX2_flexKids_60 (by decide) (fun h60 => ?_) (fun a60 h60 => ?_)
            · skip
              rw [h60]
              show zJ C g N 8 0 0 Ir P J 117 [(7, .null), (6, .int (nI (i - a))), (0, .ref (g.1 82)), (1, va_rf (Option.map g.1 (L[a]?))), (2, va_rf (Option.map g.1 (L[z]?))), (3, .int (zB false)), (4, .int sp), (5, .int gp)] []
              have ez : z = i := by
                rcases Nat.lt_or_ge i z with q | q
                · rw [List.getElem?_eq_getElem (show i < L.length by omega)] at h60; cases h60
                · omega
              subst ez
              exact z_vret (pc := 117) hC hE dX2_flexKids_117 ⟨rfl, rfl, rfl, fun q j h1 h2 h3 => (hset.1 q j h3).trans (hfr2 q j h1 h2), fun k q h1 h2 h3 => (hset.2 k q h1 h2 h3).trans (hsz2 (k - a) (by omega))⟩
            · skip
              rw [h60]
              show zJ C g N 8 0 0 Ir P J 63 [(7, .ref (g.1 a60)), (6, .int (nI (i - a))), (0, .ref (g.1 82)), (1, va_rf (Option.map g.1 (L[a]?))), (2, va_rf (Option.map g.1 (L[z]?))), (3, .int (zB false)), (4, .int sp), (5, .int gp)] []
              have hx60 : a60 < 40 := hL a60 (List.mem_of_getElem? h60)
              refine z_aload (pc := 63) hC 0 dX2_flexKids_63 rfl z_isr_r ?_
              refine z_aload_n (pc := 65) hC 4 dX2_flexKids_65 rfl rfl (z_isr_o _) ?_
              refine z_acmp_eq (pc := 66) (tgt := 117) (x := (some a60)) (y := (L[z]?)) hC dX2_flexKids_66 (by decide) (fun b q => by cases q; exact z_ltb hC hx60) (fun b q => z_ltb hC (hL b (List.mem_of_getElem? q))) (fun h66 => ?_) (fun h66 => ?_)
              · skip
                have ez : z = i := (zlist_inj hnd h60 h66.symm).symm
                subst ez
                exact z_vret (pc := 117) hC hE dX2_flexKids_117 ⟨rfl, rfl, rfl, fun q j h1 h2 h3 => (hset.1 q j h3).trans (hfr2 q j h1 h2), fun k q h1 h2 h3 => (hset.2 k q h1 h2 h3).trans (hsz2 (k - a) (by omega))⟩
              · skip
                have eiz : i < z := by
                  rcases Nat.lt_or_ge i z with q | q
                  · exact q
                  · have e : i = z := by omega
                    rw [e] at h60; exact absurd h60.symm h66
                refine z_iload_n (pc := 69) hC 5 dX2_flexKids_69 rfl rfl ?_
                refine z_if_eq (pc := 70) (tgt := 90) hC dX2_flexKids_70 (by decide) (fun h70 => ?_) (fun h70 => ?_)
                · skip
                  have g70 := zB_f h70
                  refine z_aload (pc := 90) hC 0 dX2_flexKids_90 rfl z_isr_r ?_
                  refine z_aload_n (pc := 92) hC 2 dX2_flexKids_92 rfl rfl z_isr_r ?_
                  refine z_gF (pc := 93) hC 2 1 (t := 83) rfl (z_lt hC (by decide)) rfl inX2 (by decide) rfl zm_1_195 rfl dX2_flexKids_93 ?_
                  refine z_iload (pc := 96) hC 1 dX2_flexKids_96 rfl ?_
                  refine z_cV (pc := 98) (st := [.ref (g.1 a60)]) hC [.int (nI (i - a))] ((by have k := kX1_sizeAt C.2.1 g N Ir P J (i - a) (by omega) (nI (i - a)) rfl; exact k)) rfl (z_lt hC (by decide)) rfl zkX1_sizeAt zm_2_221 ⟨rfl, rfl⟩ rfl rfl hRm ⟨Nat.le_of_ble_eq_true rfl, Nat.le_of_ble_eq_true rfl⟩ (Nat.le_of_ble_eq_true rfl) ⟨Nat.zero_le _, Nat.zero_le _⟩ dX2_flexKids_98 ?_
                  rw [(hset.1 92 (i - a) (fun y => by obtain ⟨_, k, y1, y2, y3⟩ := y; have := hL _ (List.mem_of_getElem? y3); omega))]
                  refine z_pI (pc := 101) hC 0 15 (z_shb hx60) (z_ltb hC hx60) rfl inX0 tyX0_ok nmX0 (by decide) rfl zm_1_75 rfl rfl rfl dX2_flexKids_101 ?_
                  refine z_iinc (pc := 104) (v := nI (i + 1 - a)) (lv' := [(6, .int (nI (i + 1 - a))), (7, .ref (g.1 a60)), (0, .ref (g.1 82)), (1, va_rf (Option.map g.1 (L[a]?))), (2, va_rf (Option.map g.1 (L[z]?))), (3, .int (zB false)), (4, .int sp), (5, .int gp)]) hC 1 dX2_flexKids_104 rfl (by rw [show i + 1 - a = i - a + 1 by omega]; exact nI_1 _) (by decide) rfl ?_
                  refine z_aload (pc := 107) hC 1 dX2_flexKids_107 rfl z_isr_r ?_
                  refine z_gP (pc := 109) hC 0 7 (v := va_rf (Option.map g.1 (L[i + 1]?))) (z_shb hx60) (z_ltb hC hx60) rfl inX0 (by decide) rfl zm_1_55 (by rw [hseg i a60 h60]) dX2_flexKids_109 ?_
                  refine z_astore (pc := 112) (lv' := [(7, va_rf (Option.map g.1 (L[i + 1]?))), (6, .int (nI (i + 1 - a))), (0, .ref (g.1 82)), (1, va_rf (Option.map g.1 (L[a]?))), (2, va_rf (Option.map g.1 (L[z]?))), (3, .int (zB false)), (4, .int sp), (5, .int gp)]) hC dX2_flexKids_112 (by decide) (z_isr_o _) rfl ?_
                  refine z_goto (pc := 114) (tgt := 58) hC dX2_flexKids_114 (by decide) ?_
                  exact ih (i + 1) _ (by omega) (by omega) (zset1_s hnd h60 hai hset (by rfl)) (by omega)
                · skip
                  have g70 := zB_t h70
                  exact absurd g70 (by decide)
        have L0 := L58 (z - a + 1) a _ (Nat.le_refl a) haz (zset1_0 _ _ _ _ _) (by omega)
        rw [Nat.sub_self] at L0
        exact L0
      · skip
        rw [h12]
        show zJ C g N 8 0 0 (zputF I false (fun j => L.getD (a + j) 0) (i - a)) P J 15 [(6, .ref (g.1 a12)), (0, .ref (g.1 82)), (1, va_rf (Option.map g.1 (L[a]?))), (2, va_rf (Option.map g.1 (L[z]?))), (3, .int (zB false)), (4, .int sp), (5, .int gp)] []
        have hx12 : a12 < 40 := hL a12 (List.mem_of_getElem? h12)
        refine z_aload (pc := 15) hC 0 dX2_flexKids_15 rfl z_isr_r ?_
        refine z_aload_n (pc := 17) hC 3 dX2_flexKids_17 rfl rfl (z_isr_o _) ?_
        refine z_acmp_eq (pc := 18) (tgt := 41) (x := (some a12)) (y := (L[z]?)) hC dX2_flexKids_18 (by decide) (fun b q => by cases q; exact z_ltb hC hx12) (fun b q => z_ltb hC (hL b (List.mem_of_getElem? q))) (fun h18 => ?_) (fun h18 => ?_)
        · skip
          have ez : z = i := (zlist_inj hnd h12 h18.symm).symm
          subst ez
          refine z_aload_n (pc := 41) hC 1 dX2_flexKids_41 rfl rfl z_isr_r ?_
          refine z_gF (pc := 42) hC 2 1 (t := 83) rfl (z_lt hC (by decide)) rfl inX2 (by decide) rfl zm_1_195 rfl dX2_flexKids_42 ?_
          refine z_iload (pc := 45) hC 5 dX2_flexKids_45 rfl ?_
          refine z_iload (pc := 47) hC 6 dX2_flexKids_47 rfl ?_
          refine z_callV (pc := 49) (st := []) hC [.int sp, .int gp] ((kX1_share C.2.1 g N (zputF I false (fun j => L.getD (a + j) 0) (z - a)) P J (z - a) (by omega) (zputF_9 _ _ _ _) sp gp (fun j hj => by rw [zput89 hj]; exact hp1 j hj) (fun j hj => by rw [zput90 hj, zput86 hj]; exact hp2 j hj))) rfl (z_lt hC (by decide)) rfl zkX1_share zm_2_194 ⟨rfl, rfl⟩ rfl rfl hRm ⟨Nat.le_of_ble_eq_true rfl, Nat.le_of_ble_eq_true rfl⟩ (Nat.le_of_ble_eq_true rfl) ⟨Nat.zero_le _, Nat.zero_le _⟩ dX2_flexKids_49 ?_
          intro v I2 P2 J2 hq
          obtain ⟨hv, hP2, hJ2, hfr, hsz⟩ := hq
          subst hv
          rw [hP2, hJ2]
          have hsz2 := fun j (hj : j < z - a) => (hsz j hj).trans (fxSz_congr (fun j hj => zput86 hj) (fun j hj => zput87 hj) (fun j hj => zput88 hj) (fun j hj => zput89 hj) (fun j hj => zput90 hj) j hj)
          rw [zputF_10] at hsz2
          have hfr2 : ∀ q j, ¬ (q = 83 ∧ (j = 9 ∨ j = 10)) → ¬ (86 ≤ q ∧ q ≤ 94) → I2 q j = I q j := fun q j h1 h2 => (hfr q j (by omega) (by omega) (by omega) (by omega)).trans (zputF_o _ _ _ h1 (fun y => h2 ⟨y.1, by omega⟩))
          show zJ C g N 8 0 0 I2 P J 52 [(6, .ref (g.1 a12)), (0, .ref (g.1 82)), (1, va_rf (Option.map g.1 (L[a]?))), (2, va_rf (Option.map g.1 (L[z]?))), (3, .int (zB false)), (4, .int sp), (5, .int gp)] []
          refine z_iconst (pc := 52) (v := 0) hC dX2_flexKids_52 rfl ?_
          refine z_istore (pc := 53) (lv' := [(6, .int 0), (0, .ref (g.1 82)), (1, va_rf (Option.map g.1 (L[a]?))), (2, va_rf (Option.map g.1 (L[z]?))), (3, .int (zB false)), (4, .int sp), (5, .int gp)]) hC dX2_flexKids_53 (by decide) rfl ?_
          refine z_aload_n (pc := 55) hC 2 dX2_flexKids_55 rfl rfl (z_isr_o _) ?_
          refine z_astore (pc := 56) (lv' := [(7, va_rf (Option.map g.1 (L[a]?))), (6, .int 0), (0, .ref (g.1 82)), (1, va_rf (Option.map g.1 (L[a]?))), (2, va_rf (Option.map g.1 (L[z]?))), (3, .int (zB false)), (4, .int sp), (5, .int gp)]) hC dX2_flexKids_56 (by decide) (z_isr_o _) rfl ?_
          have L58 : ∀ (zf : Nat) (i : Nat) (Ir : Nat → Nat → Int32) (hai : a ≤ i) (hiz : i ≤ z) (hset : zset1 15 L a i (I2 92) I2 Ir), z - i < zf → zJ C g N 8 0 0 Ir P J 58 [(7, va_rf (Option.map g.1 (L[i]?))), (6, .int (nI (i - a))), (0, .ref (g.1 82)), (1, va_rf (Option.map g.1 (L[a]?))), (2, va_rf (Option.map g.1 (L[z]?))), (3, .int (zB false)), (4, .int sp), (5, .int gp)] [] := by
            intro zf
            induction zf with
            | zero =>
              intro i Ir hai hiz hset hn2
              exact absurd hn2 (Nat.not_lt_zero _)
            | succ zf ih =>
              intro i Ir hai hiz hset hn2
              refine z_aload (pc := 58) hC 0 dX2_flexKids_58 rfl (z_isr_o _) ?_
              refine z_ifnull (pc := 60) (tgt := 117) hC dX2_flexKids_60 (by decide) (fun h60 => ?_) (fun a60 h60 => ?_)
              · skip
                rw [h60]
                show zJ C g N 8 0 0 Ir P J 117 [(7, .null), (6, .int (nI (i - a))), (0, .ref (g.1 82)), (1, va_rf (Option.map g.1 (L[a]?))), (2, va_rf (Option.map g.1 (L[z]?))), (3, .int (zB false)), (4, .int sp), (5, .int gp)] []
                have ez : z = i := by
                  rcases Nat.lt_or_ge i z with q | q
                  · rw [List.getElem?_eq_getElem (show i < L.length by omega)] at h60; cases h60
                  · omega
                subst ez
                exact z_vret (pc := 117) hC hE dX2_flexKids_117 ⟨rfl, rfl, rfl, fun q j h1 h2 h3 => (hset.1 q j h3).trans (hfr2 q j h1 h2), fun k q h1 h2 h3 => (hset.2 k q h1 h2 h3).trans (hsz2 (k - a) (by omega))⟩
              · skip
                rw [h60]
                show zJ C g N 8 0 0 Ir P J 63 [(7, .ref (g.1 a60)), (6, .int (nI (i - a))), (0, .ref (g.1 82)), (1, va_rf (Option.map g.1 (L[a]?))), (2, va_rf (Option.map g.1 (L[z]?))), (3, .int (zB false)), (4, .int sp), (5, .int gp)] []
                have hx60 : a60 < 40 := hL a60 (List.mem_of_getElem? h60)
                refine z_aload (pc := 63) hC 0 dX2_flexKids_63 rfl z_isr_r ?_
                refine z_aload_n (pc := 65) hC 4 dX2_flexKids_65 rfl rfl (z_isr_o _) ?_
                refine z_acmp_eq (pc := 66) (tgt := 117) (x := (some a60)) (y := (L[z]?)) hC dX2_flexKids_66 (by decide) (fun b q => by cases q; exact z_ltb hC hx60) (fun b q => z_ltb hC (hL b (List.mem_of_getElem? q))) (fun h66 => ?_) (fun h66 => ?_)
                · skip
                  have ez : z = i := (zlist_inj hnd h60 h66.symm).symm
                  subst ez
                  exact z_vret (pc := 117) hC hE dX2_flexKids_117 ⟨rfl, rfl, rfl, fun q j h1 h2 h3 => (hset.1 q j h3).trans (hfr2 q j h1 h2), fun k q h1 h2 h3 => (hset.2 k q h1 h2 h3).trans (hsz2 (k - a) (by omega))⟩
                · skip
                  have eiz : i < z := by
                    rcases Nat.lt_or_ge i z with q | q
                    · exact q
                    · have e : i = z := by omega
                      rw [e] at h60; exact absurd h60.symm h66
                  refine z_iload_n (pc := 69) hC 5 dX2_flexKids_69 rfl rfl ?_
                  refine z_if_eq (pc := 70) (tgt := 90) hC dX2_flexKids_70 (by decide) (fun h70 => ?_) (fun h70 => ?_)
                  · skip
                    have g70 := zB_f h70
                    refine z_aload (pc := 90) hC 0 dX2_flexKids_90 rfl z_isr_r ?_
                    refine z_aload_n (pc := 92) hC 2 dX2_flexKids_92 rfl rfl z_isr_r ?_
                    refine z_gF (pc := 93) hC 2 1 (t := 83) rfl (z_lt hC (by decide)) rfl inX2 (by decide) rfl zm_1_195 rfl dX2_flexKids_93 ?_
                    refine z_iload (pc := 96) hC 1 dX2_flexKids_96 rfl ?_
                    refine z_cV (pc := 98) (st := [.ref (g.1 a60)]) hC [.int (nI (i - a))] ((by have k := kX1_sizeAt C.2.1 g N Ir P J (i - a) (by omega) (nI (i - a)) rfl; exact k)) rfl (z_lt hC (by decide)) rfl zkX1_sizeAt zm_2_221 ⟨rfl, rfl⟩ rfl rfl hRm ⟨Nat.le_of_ble_eq_true rfl, Nat.le_of_ble_eq_true rfl⟩ (Nat.le_of_ble_eq_true rfl) ⟨Nat.zero_le _, Nat.zero_le _⟩ dX2_flexKids_98 ?_
                    rw [(hset.1 92 (i - a) (fun y => by obtain ⟨_, k, y1, y2, y3⟩ := y; have := hL _ (List.mem_of_getElem? y3); omega))]
                    refine z_pI (pc := 101) hC 0 15 (z_shb hx60) (z_ltb hC hx60) rfl inX0 tyX0_ok nmX0 (by decide) rfl zm_1_75 rfl rfl rfl dX2_flexKids_101 ?_
                    refine z_iinc (pc := 104) (v := nI (i + 1 - a)) (lv' := [(6, .int (nI (i + 1 - a))), (7, .ref (g.1 a60)), (0, .ref (g.1 82)), (1, va_rf (Option.map g.1 (L[a]?))), (2, va_rf (Option.map g.1 (L[z]?))), (3, .int (zB false)), (4, .int sp), (5, .int gp)]) hC 1 dX2_flexKids_104 rfl (by rw [show i + 1 - a = i - a + 1 by omega]; exact nI_1 _) (by decide) rfl ?_
                    refine z_aload (pc := 107) hC 1 dX2_flexKids_107 rfl z_isr_r ?_
                    refine z_gP (pc := 109) hC 0 7 (v := va_rf (Option.map g.1 (L[i + 1]?))) (z_shb hx60) (z_ltb hC hx60) rfl inX0 (by decide) rfl zm_1_55 (by rw [hseg i a60 h60]) dX2_flexKids_109 ?_
                    refine z_astore (pc := 112) (lv' := [(7, va_rf (Option.map g.1 (L[i + 1]?))), (6, .int (nI (i + 1 - a))), (0, .ref (g.1 82)), (1, va_rf (Option.map g.1 (L[a]?))), (2, va_rf (Option.map g.1 (L[z]?))), (3, .int (zB false)), (4, .int sp), (5, .int gp)]) hC dX2_flexKids_112 (by decide) (z_isr_o _) rfl ?_
                    refine z_goto (pc := 114) (tgt := 58) hC dX2_flexKids_114 (by decide) ?_
                    exact ih (i + 1) _ (by omega) (by omega) (zset1_s hnd h60 hai hset (by rfl)) (by omega)
                  · skip
                    have g70 := zB_t h70
                    exact absurd g70 (by decide)
          have L0 := L58 (z - a + 1) a _ (Nat.le_refl a) haz (zset1_0 _ _ _ _ _) (by omega)
          rw [Nat.sub_self] at L0
          exact L0
        · skip
          have eiz : i < z := by
            rcases Nat.lt_or_ge i z with q | q
            · exact q
            · have e : i = z := by omega
              rw [e] at h12; exact absurd h12.symm h18
          refine z_aload_n (pc := 21) hC 1 dX2_flexKids_21 rfl rfl z_isr_r ?_
          refine z_gF (pc := 22) hC 2 1 (t := 83) rfl (z_lt hC (by decide)) rfl inX2 (by decide) rfl zm_1_195 rfl dX2_flexKids_22 ?_
          refine z_aload (pc := 25) hC 0 dX2_flexKids_25 rfl z_isr_r ?_
          refine z_iload_n (pc := 27) hC 4 dX2_flexKids_27 rfl rfl ?_
          have eka : L.getD (a + (i - a)) 0 = a12 := by rw [show a + (i - a) = i by omega, List.getD_eq_getElem?_getD, h12]; rfl
          refine z_cV (pc := 28) (st := []) hC [.ref (g.1 a12), .int (zB false)] ((by have k := kX1_putF C.2.1 g N I P J (fun j => L.getD (a + j) 0) (i - a) (by omega) (by show L.getD (a + (i - a)) 0 < 40; rw [eka]; exact hx12); rw [eka] at k; exact k)) rfl (z_lt hC (by decide)) rfl zkX1_put zm_2_188 ⟨rfl, rfl⟩ rfl rfl hRm ⟨Nat.le_of_ble_eq_true rfl, Nat.le_of_ble_eq_true rfl⟩ (Nat.le_of_ble_eq_true rfl) ⟨Nat.zero_le _, Nat.zero_le _⟩ dX2_flexKids_28 ?_
          rw [show i - a + 1 = i + 1 - a by omega]
          refine z_aload (pc := 31) hC 0 dX2_flexKids_31 rfl z_isr_r ?_
          refine z_gP (pc := 33) hC 0 7 (v := va_rf (Option.map g.1 (L[i + 1]?))) (z_shb hx12) (z_ltb hC hx12) rfl inX0 (by decide) rfl zm_1_55 (by rw [hseg i a12 h12]) dX2_flexKids_33 ?_
          refine z_astore (pc := 36) (lv' := [(6, va_rf (Option.map g.1 (L[i + 1]?))), (0, .ref (g.1 82)), (1, va_rf (Option.map g.1 (L[a]?))), (2, va_rf (Option.map g.1 (L[z]?))), (3, .int (zB false)), (4, .int sp), (5, .int gp)]) hC dX2_flexKids_36 (by decide) (z_isr_o _) rfl ?_
          refine z_goto (pc := 38) (tgt := 10) hC dX2_flexKids_38 (by decide) ?_
          exact ih (i + 1) (by omega) (by omega) (by omega)
  have L0 := L10 (z - a + 1) a (Nat.le_refl a) haz (by omega)
  rw [Nat.sub_self, zputF_0] at L0
  exact L0
end ZFKM
