section ZFM
theorem zkX1_clear : z_pkV yX1_clear cX1_clear 1 (Option.none : Option FieldType) RX1 0 := ⟨zm_2_185, zm_2_186, zm_1_5, zm_2_187, rfl, by decide, by decide, by decide +kernel⟩
theorem zkX1_put : z_pkV yX1_put cX1_put 3 (Option.none : Option FieldType) RX1 2 := ⟨zm_2_189, zm_2_190, zm_1_5, zm_2_191, rfl, by decide, by decide, by decide +kernel⟩
theorem zkX1_baseOf : z_pkS yX1_baseOf cX1_baseOf 2 (Option.some FieldType.int) 2 := ⟨zm_2_170, zm_1_5, zm_2_171, by decide, by decide, by decide +kernel⟩
theorem zkX1_sizeAt : z_pkV yX1_sizeAt cX1_sizeAt 2 (Option.some FieldType.int) RX1 1 := ⟨zm_2_222, zm_2_223, zm_1_5, zm_2_224, rfl, by decide, by decide, by decide +kernel⟩
theorem zkX1_share : z_pkV yX1_share cX1_share 9 (Option.none : Option FieldType) RX1 2 := ⟨zm_2_195, zm_2_196, zm_1_5, zm_2_197, rfl, by decide, by decide, by decide +kernel⟩
theorem zkX1_begin : z_pkV yX1_begin cX1_begin 3 (Option.some FieldType.int) RX1 0 := ⟨zm_2_201, zs_X1_begin, zm_1_5, zm_2_202, rfl, by decide, by decide, by decide +kernel⟩
theorem zkX1_restOf : z_pkV yX1_restOf cX1_restOf 4 (Option.some FieldType.int) RX1 1 := ⟨zm_2_210, zs_X1_restOf, zm_1_5, zm_2_211, rfl, by decide, by decide, by decide +kernel⟩
theorem zkX1_openFactors : z_pkV yX1_openFactors cX1_openFactors 4 (Option.some FieldType.long) RX1 0 := ⟨zm_2_206, zs_X1_openFactors, zm_1_5, zm_2_207, rfl, by decide, by decide, by decide +kernel⟩
theorem zkX1_propose : z_pkV yX1_propose cX1_propose 17 (Option.some FieldType.long) RX1 3 := ⟨zm_2_215, zs_X1_propose, zm_1_5, zm_2_216, rfl, by decide, by decide, by decide +kernel⟩
theorem zkX1_settle : z_pkV yX1_settle cX1_settle 5 (Option.none : Option FieldType) RX1 1 := ⟨zm_2_219, zs_X1_settle, zm_1_5, zm_2_220, rfl, by decide, by decide, by decide +kernel⟩
set_option maxHeartbeats 4000000 in
set_option maxRecDepth 100000 in
theorem kX1_clear (lx : Launch) (g : zG) (N : Nat) (I : Nat → Nat → Int32) (P : Nat → Nat → Option Nat) (J : Nat → Nat → Int64)  : z_Ct lx yX1_clear (zT yX1_clear cX1_clear 1 (Option.none : Option FieldType)) ({ frames := 0, cells := 0, slots := 0, locals := 0 } : Room) g N I P J [.ref (g.1 83)] (zMu none (z_u (z_u I 83 9 0) 83 10 0) P J) 0 0 := by
  refine z_of (by decide) (Nat.le_of_ble_eq_true rfl) (lv0 := [(0, .ref (g.1 83))]) rfl ?_
  intro C hlx hC hE hRm
  have hC : zX C cX1_clear 1 RX1 (zT yX1_clear cX1_clear 1 (Option.none : Option FieldType)) g N := hC
  refine z_aload_n (pc := 0) hC 0 dX1_clear_0 rfl rfl z_isr_r ?_
  refine z_iconst (pc := 1) (v := 0) hC dX1_clear_1 rfl ?_
  refine z_pI (pc := 2) hC 1 9 rfl (z_lt hC (by decide)) rfl inX1 tyX1_ok nmX1 (by decide) rfl zm_1_168 rfl rfl rfl dX1_clear_2 ?_
  refine z_aload_n (pc := 5) hC 0 dX1_clear_5 rfl rfl z_isr_r ?_
  refine z_iconst (pc := 6) (v := 0) hC dX1_clear_6 rfl ?_
  refine z_pI (pc := 7) hC 1 10 rfl (z_lt hC (by decide)) rfl inX1 tyX1_ok nmX1 (by decide) rfl zm_1_169 rfl rfl rfl dX1_clear_7 ?_
  exact z_vret (pc := 10) hC hE dX1_clear_10 (zMu_i rfl)
set_option maxHeartbeats 4000000 in
set_option maxRecDepth 100000 in
theorem kX1_baseOf (lx : Launch) (g : zG) (N : Nat) (I : Nat → Nat → Int32) (P : Nat → Nat → Option Nat) (J : Nat → Nat → Int64) (b : Nat) (hb : b < 40) (wd : Bool) : z_Ct lx yX1_baseOf (zT yX1_baseOf cX1_baseOf 2 (Option.some FieldType.int)) ({ frames := 1, cells := 0, slots := 0, locals := 21 } : Room) g N I P J [.ref (g.1 b), .int (zB wd)] (zMu (some (.int (zbase I b wd))) I P J) 0 0 := by
  refine z_of (by decide) (Nat.le_of_ble_eq_true rfl) (lv0 := [(0, .ref (g.1 b)), (1, .int (zB wd))]) rfl ?_
  intro C hlx hC hE hRm
  have hC : zX C cX1_baseOf 2 RX1 (zT yX1_baseOf cX1_baseOf 2 (Option.some FieldType.int)) g N := hC
  refine z_aload_n (pc := 0) hC 0 dX1_baseOf_0 rfl rfl z_isr_r ?_
  refine z_bipush (pc := 1) (v := 7) hC dX1_baseOf_1 rfl ?_
  refine z_cV (pc := 3) (st := []) hC [.int 7] (kX0_of C.2.1 g N I P J b 7 hb (by decide) 7 rfl (I (40 + b) 7) rfl) (z_shb hb) (z_ltb hC hb) rfl zkX0_of zm_2_172 ⟨rfl, rfl⟩ rfl rfl hRm ⟨Nat.le_of_ble_eq_true rfl, Nat.le_of_ble_eq_true rfl⟩ (Nat.le_of_ble_eq_true rfl) ⟨Nat.zero_le _, Nat.zero_le _⟩ dX1_baseOf_3 ?_
  refine z_iconst (pc := 6) (v := (-1)) hC dX1_baseOf_6 rfl ?_
  refine z_icmp_eq (pc := 7) (tgt := 17) hC dX1_baseOf_7 (by decide) (fun h7 => ?_) (fun h7 => ?_)
  · skip
    refine z_iload_n (pc := 17) hC 1 dX1_baseOf_17 rfl rfl ?_
    refine z_if_eq (pc := 18) (tgt := 28) hC dX1_baseOf_18 (by decide) (fun h18 => ?_) (fun h18 => ?_)
    · skip
      have g18 := zB_f h18
      refine z_aload_n (pc := 28) hC 0 dX1_baseOf_28 rfl rfl z_isr_r ?_
      refine z_gI (pc := 29) hC 0 11 (x := I b 11) (z_shb hb) (z_ltb hC hb) rfl inX0 (by decide) rfl zm_1_64 rfl dX1_baseOf_29 ?_
      exact z_iret (pc := 32) hC hE dX1_baseOf_32 (zMu_i (by simp [zbase, h7, h18, g18]))
    · skip
      have g18 := zB_t h18
      refine z_aload_n (pc := 21) hC 0 dX1_baseOf_21 rfl rfl z_isr_r ?_
      refine z_gI (pc := 22) hC 0 10 (x := I b 10) (z_shb hb) (z_ltb hC hb) rfl inX0 (by decide) rfl zm_1_63 rfl dX1_baseOf_22 ?_
      refine z_goto (pc := 25) (tgt := 32) hC dX1_baseOf_25 (by decide) ?_
      exact z_iret (pc := 32) hC hE dX1_baseOf_32 (zMu_i (by simp [zbase, h7, h18, g18]))
  · skip
    refine z_aload_n (pc := 10) hC 0 dX1_baseOf_10 rfl rfl z_isr_r ?_
    refine z_bipush (pc := 11) (v := 7) hC dX1_baseOf_11 rfl ?_
    refine z_cV (pc := 13) (st := []) hC [.int 7] (kX0_of C.2.1 g N I P J b 7 hb (by decide) 7 rfl (I (40 + b) 7) rfl) (z_shb hb) (z_ltb hC hb) rfl zkX0_of zm_2_172 ⟨rfl, rfl⟩ rfl rfl hRm ⟨Nat.le_of_ble_eq_true rfl, Nat.le_of_ble_eq_true rfl⟩ (Nat.le_of_ble_eq_true rfl) ⟨Nat.zero_le _, Nat.zero_le _⟩ dX1_baseOf_13 ?_
    exact z_iret (pc := 16) hC hE dX1_baseOf_16 (zMu_i (by simp [zbase, h7]))
set_option maxHeartbeats 4000000 in
set_option maxRecDepth 100000 in
theorem kX1_sizeAt (lx : Launch) (g : zG) (N : Nat) (I : Nat → Nat → Int32) (P : Nat → Nat → Option Nat) (J : Nat → Nat → Int64) (k : Nat) (hk : k < 40) (x : Int32) (hx : x = nI k) : z_Ct lx yX1_sizeAt (zT yX1_sizeAt cX1_sizeAt 2 (Option.some FieldType.int)) ({ frames := 0, cells := 0, slots := 0, locals := 0 } : Room) g N I P J [.ref (g.1 83), .int x] (zMu (some (.int (I 92 k))) I P J) 0 0 := by
  refine z_of (by decide) (Nat.le_of_ble_eq_true rfl) (lv0 := [(0, .ref (g.1 83)), (1, .int x)]) rfl ?_
  intro C hlx hC hE hRm
  have hC : zX C cX1_sizeAt 2 RX1 (zT yX1_sizeAt cX1_sizeAt 2 (Option.some FieldType.int)) g N := hC
  refine z_iload_n (pc := 0) hC 1 dX1_sizeAt_0 rfl rfl ?_
  refine z_if_lt (pc := 1) (tgt := 19) hC dX1_sizeAt_1 (by decide) (fun h1 => ?_) (fun h1 => ?_)
  · skip
    have g1 := Int32.not_le.mpr h1
    exact absurd h1 (by rw [hx]; exact nI_pos (by omega))
  · skip
    have g1 := Int32.not_lt.mp h1
    refine z_iload_n (pc := 4) hC 1 dX1_sizeAt_4 rfl rfl ?_
    refine z_bipush (pc := 5) (v := 40) hC dX1_sizeAt_5 rfl ?_
    refine z_icmp_ge (pc := 7) (tgt := 19) hC dX1_sizeAt_7 (by decide) (fun h7 => ?_) (fun h7 => ?_)
    · skip
      have g7 := Int32.not_lt.mpr h7
      exact absurd h7 (by rw [hx]; intro q; exact nI_ge (a := k) (b := 40) hk (by decide) q)
    · skip
      have g7 := Int32.not_le.mp h7
      refine z_aload_n (pc := 10) hC 0 dX1_sizeAt_10 rfl rfl z_isr_r ?_
      refine z_gF (pc := 11) hC 1 6 (t := 92) rfl (z_lt hC (by decide)) rfl inX1 (by decide) rfl zm_1_165 rfl dX1_sizeAt_11 ?_
      refine z_iload_n (pc := 14) hC 1 dX1_sizeAt_14 rfl rfl ?_
      refine z_iaN (pc := 15) hC k (x := I 92 k) rfl (z_lt hC (by decide)) hx hk (by decide) rfl dX1_sizeAt_15 ?_
      refine z_goto (pc := 16) (tgt := 20) hC dX1_sizeAt_16 (by decide) ?_
      exact z_iret (pc := 20) hC hE dX1_sizeAt_20 (zMu_i rfl)
set_option maxHeartbeats 4000000 in
set_option maxRecDepth 100000 in
theorem kX1_begin (lx : Launch) (g : zG) (N : Nat) (I : Nat → Nat → Int32) (P : Nat → Nat → Option Nat) (J : Nat → Nat → Int64) (n : Nat) (hn40 : n ≤ 40) (hn : I 83 9 = nI n) : z_Ct lx yX1_begin (zT yX1_begin cX1_begin 3 (Option.some FieldType.int)) ({ frames := 1, cells := 0, slots := 0, locals := 23 } : Room) g N I P J [.ref (g.1 83)] (zMu (some (.int (zsum (fxStart (I 86) (I 87) (I 88)) n))) (zrow (fxStart (I 86) (I 87) (I 88)) I 92 n) P J) 0 0 := by
  refine z_of (by decide) (Nat.le_of_ble_eq_true rfl) (lv0 := [(0, .ref (g.1 83))]) rfl ?_
  intro C hlx hC hE hRm
  have hC : zX C cX1_begin 3 RX1 (zT yX1_begin cX1_begin 3 (Option.some FieldType.int)) g N := hC
  refine z_iconst (pc := 0) (v := 0) hC dX1_begin_0 rfl ?_
  refine z_istore_n (pc := 1) (lv' := [(1, .int 0), (0, .ref (g.1 83))]) hC dX1_begin_1 rfl (by decide) rfl ?_
  refine z_iconst (pc := 2) (v := 0) hC dX1_begin_2 rfl ?_
  refine z_istore_n (pc := 3) (lv' := [(2, .int 0), (1, .int 0), (0, .ref (g.1 83))]) hC dX1_begin_3 rfl (by decide) rfl ?_
  have L4 : ∀ (zf : Nat) (i : Nat) (hi : i ≤ n), n - i < zf → zJ C g N 3 0 0 (zrow (fxStart (I 86) (I 87) (I 88)) I 92 i) P J 4 [(2, .int (nI i)), (1, .int (zsum (fxStart (I 86) (I 87) (I 88)) i)), (0, .ref (g.1 83))] [] := by
    intro zf
    induction zf with
    | zero =>
      intro i hi hn2
      exact absurd hn2 (Nat.not_lt_zero _)
    | succ zf ih =>
      intro i hi hn2
      refine z_iload_n (pc := 4) hC 0 dX1_begin_4 rfl rfl ?_
      refine z_aload_n (pc := 5) hC 2 dX1_begin_5 rfl rfl z_isr_r ?_
      refine z_gI (pc := 6) hC 1 9 (x := nI n) rfl (z_lt hC (by decide)) rfl inX1 (by decide) rfl zm_1_168 ((zrow_o _ _ (by decide)).trans hn) dX1_begin_6 ?_
      refine z_icmp_ge (pc := 9) (tgt := 60) hC dX1_begin_9 (by decide) (fun h9 => ?_) (fun h9 => ?_)
      · skip
        have g9 := Int32.not_lt.mpr h9
        have e9 : n = i := (Nat.le_antisymm hi (zc_ge h9 (by omega) (by omega))).symm
        subst e9
        refine z_iload_n (pc := 60) hC 1 dX1_begin_60 rfl rfl ?_
        exact z_iret (pc := 61) hC hE dX1_begin_61 (zMu_i rfl)
      · skip
        have g9 := Int32.not_le.mp h9
        have e9 : i < n := zc_lt h9 (by omega) (by omega)
        refine z_iload_n (pc := 12) hC 0 dX1_begin_12 rfl rfl ?_
        refine z_bipush (pc := 13) (v := 40) hC dX1_begin_13 rfl ?_
        refine z_icmp_ge (pc := 15) (tgt := 60) hC dX1_begin_15 (by decide) (fun h15 => ?_) (fun h15 => ?_)
        · skip
          have g15 := Int32.not_lt.mpr h15
          exact absurd (zc_ge (n := 40) h15 (by omega) (by decide)) (by omega)
        · skip
          have g15 := Int32.not_le.mp h15
          refine z_aload_n (pc := 18) hC 2 dX1_begin_18 rfl rfl z_isr_r ?_
          refine z_gF (pc := 19) hC 1 6 (t := 92) rfl (z_lt hC (by decide)) rfl inX1 (by decide) rfl zm_1_165 rfl dX1_begin_19 ?_
          refine z_iload_n (pc := 22) hC 0 dX1_begin_22 rfl rfl ?_
          refine z_aload_n (pc := 23) hC 2 dX1_begin_23 rfl rfl z_isr_r ?_
          refine z_gF (pc := 24) hC 1 0 (t := 86) rfl (z_lt hC (by decide)) rfl inX1 (by decide) rfl zm_1_159 rfl dX1_begin_24 ?_
          refine z_iload_n (pc := 27) hC 0 dX1_begin_27 rfl rfl ?_
          refine z_iaN (pc := 28) hC i (x := I 86 i) rfl (z_lt hC (by decide)) rfl (by omega) (by decide) (zrow_o _ _ (by decide)) dX1_begin_28 ?_
          refine z_aload_n (pc := 29) hC 2 dX1_begin_29 rfl rfl z_isr_r ?_
          refine z_gF (pc := 30) hC 1 1 (t := 87) rfl (z_lt hC (by decide)) rfl inX1 (by decide) rfl zm_1_160 rfl dX1_begin_30 ?_
          refine z_iload_n (pc := 33) hC 0 dX1_begin_33 rfl rfl ?_
          refine z_iaN (pc := 34) hC i (x := I 87 i) rfl (z_lt hC (by decide)) rfl (by omega) (by decide) (zrow_o _ _ (by decide)) dX1_begin_34 ?_
          refine z_aload_n (pc := 35) hC 2 dX1_begin_35 rfl rfl z_isr_r ?_
          refine z_gF (pc := 36) hC 1 2 (t := 88) rfl (z_lt hC (by decide)) rfl inX1 (by decide) rfl zm_1_161 rfl dX1_begin_36 ?_
          refine z_iload_n (pc := 39) hC 0 dX1_begin_39 rfl rfl ?_
          refine z_iaN (pc := 40) hC i (x := I 88 i) rfl (z_lt hC (by decide)) rfl (by omega) (by decide) (zrow_o _ _ (by decide)) dX1_begin_40 ?_
          refine z_cSN (pc := 41) (st := [.int (nI i), .ref (g.1 92)]) hC [.int (I 86 i), .int (I 87 i), .int (I 88 i)] (kX5_limited C.2.1 g N (zrow (fxStart (I 86) (I 87) (I 88)) I 92 i) P J (I 86 i) (I 87 i) (I 88 i)) zkX5_limited (hC.2.2.2.2.2.1.2.2.2.2.2.2.2.2.2.1) ⟨rfl, rfl⟩ rfl rfl hRm ⟨Nat.le_of_ble_eq_true rfl, Nat.le_of_ble_eq_true rfl⟩ (Nat.le_of_ble_eq_true rfl) ⟨Nat.zero_le _, Nat.zero_le _⟩ dX1_begin_41 ?_
          refine z_isN (pc := 44) hC i rfl (z_lt hC (by decide)) rfl (by omega) (by decide) dX1_begin_44 ?_
          rw [show z_u (zrow (fxStart (I 86) (I 87) (I 88)) I 92 i) 92 i (zlim (I 86 i) (I 87 i) (I 88 i)) = zrow (fxStart (I 86) (I 87) (I 88)) I 92 (i + 1) from zrow_s _ _ _ _]
          refine z_iload_n (pc := 45) hC 1 dX1_begin_45 rfl rfl ?_
          refine z_aload_n (pc := 46) hC 2 dX1_begin_46 rfl rfl z_isr_r ?_
          refine z_gF (pc := 47) hC 1 6 (t := 92) rfl (z_lt hC (by decide)) rfl inX1 (by decide) rfl zm_1_165 rfl dX1_begin_47 ?_
          refine z_iload_n (pc := 50) hC 0 dX1_begin_50 rfl rfl ?_
          refine z_iaN (pc := 51) hC i (x := fxStart (I 86) (I 87) (I 88) i) rfl (z_lt hC (by decide)) rfl (by omega) (by decide) (zrow_i _ _ (Nat.lt_succ_self _)) dX1_begin_51 ?_
          refine z_iadd (pc := 52) hC dX1_begin_52 ?_
          refine z_istore_n (pc := 53) (lv' := [(1, .int ((zsum (fxStart (I 86) (I 87) (I 88)) i) + (fxStart (I 86) (I 87) (I 88) i))), (2, .int (nI i)), (0, .ref (g.1 83))]) hC dX1_begin_53 rfl (by decide) rfl ?_
          refine z_iinc (pc := 54) (v := nI (i + 1)) (lv' := [(2, .int (nI (i + 1))), (1, .int ((zsum (fxStart (I 86) (I 87) (I 88)) i) + (fxStart (I 86) (I 87) (I 88) i))), (0, .ref (g.1 83))]) hC 1 dX1_begin_54 rfl (nI_1 i) (by decide) rfl ?_
          refine z_goto (pc := 57) (tgt := 4) hC dX1_begin_57 (by decide) ?_
          exact ih (i + 1) (by omega) (by omega)
  have L := L4 (n + 1) 0 (by omega) (by omega)
  rw [zrow_0] at L
  exact L
set_option maxHeartbeats 4000000 in
set_option maxRecDepth 100000 in
theorem kX1_restOf (lx : Launch) (g : zG) (N : Nat) (I : Nat → Nat → Int32) (P : Nat → Nat → Option Nat) (J : Nat → Nat → Int64) (n : Nat) (hn40 : n ≤ 40) (hn : I 83 9 = nI n) (r : Int32) : z_Ct lx yX1_restOf (zT yX1_restOf cX1_restOf 4 (Option.some FieldType.int)) ({ frames := 0, cells := 0, slots := 0, locals := 0 } : Room) g N I P J [.ref (g.1 83), .int r] (zMu (some (.int (fxRest r (I 86) (I 92) (zst I) n))) I P J) 0 0 := by
  refine z_of (by decide) (Nat.le_of_ble_eq_true rfl) (lv0 := [(0, .ref (g.1 83)), (1, .int r)]) rfl ?_
  intro C hlx hC hE hRm
  have hC : zX C cX1_restOf 4 RX1 (zT yX1_restOf cX1_restOf 4 (Option.some FieldType.int)) g N := hC
  refine z_iload_n (pc := 0) hC 1 dX1_restOf_0 rfl rfl ?_
  refine z_istore_n (pc := 1) (lv' := [(2, .int r), (0, .ref (g.1 83)), (1, .int r)]) hC dX1_restOf_1 rfl (by decide) rfl ?_
  refine z_iconst (pc := 2) (v := 0) hC dX1_restOf_2 rfl ?_
  refine z_istore_n (pc := 3) (lv' := [(3, .int 0), (2, .int r), (0, .ref (g.1 83)), (1, .int r)]) hC dX1_restOf_3 rfl (by decide) rfl ?_
  have L4 : ∀ (zf : Nat) (i : Nat) (hi : i ≤ n), n - i < zf → zJ C g N 4 0 0 I P J 4 [(3, .int (nI i)), (2, .int (zfsub r (fun j => if zst I j = true then I 92 j else I 86 j) i)), (0, .ref (g.1 83))] [] := by
    intro zf
    induction zf with
    | zero =>
      intro i hi hn2
      exact absurd hn2 (Nat.not_lt_zero _)
    | succ zf ih =>
      intro i hi hn2
      refine z_iload_n (pc := 4) hC 0 dX1_restOf_4 rfl rfl ?_
      refine z_aload_n (pc := 5) hC 2 dX1_restOf_5 rfl rfl z_isr_r ?_
      refine z_gI (pc := 6) hC 1 9 (x := nI n) rfl (z_lt hC (by decide)) rfl inX1 (by decide) rfl zm_1_168 hn dX1_restOf_6 ?_
      refine z_icmp_ge (pc := 9) (tgt := 51) hC dX1_restOf_9 (by decide) (fun h9 => ?_) (fun h9 => ?_)
      · skip
        have g9 := Int32.not_lt.mpr h9
        have e9 : n = i := (Nat.le_antisymm hi (zc_ge h9 (by omega) (by omega))).symm
        subst e9
        refine z_iload_n (pc := 51) hC 1 dX1_restOf_51 rfl rfl ?_
        exact z_iret (pc := 52) hC hE dX1_restOf_52 (zMu_i rfl)
      · skip
        have g9 := Int32.not_le.mp h9
        have e9 : i < n := zc_lt h9 (by omega) (by omega)
        refine z_iload_n (pc := 12) hC 0 dX1_restOf_12 rfl rfl ?_
        refine z_bipush (pc := 13) (v := 40) hC dX1_restOf_13 rfl ?_
        refine z_icmp_ge (pc := 15) (tgt := 51) hC dX1_restOf_15 (by decide) (fun h15 => ?_) (fun h15 => ?_)
        · skip
          have g15 := Int32.not_lt.mpr h15
          exact absurd (zc_ge (n := 40) h15 (by omega) (by decide)) (by omega)
        · skip
          have g15 := Int32.not_le.mp h15
          refine z_iload_n (pc := 18) hC 1 dX1_restOf_18 rfl rfl ?_
          refine z_aload_n (pc := 19) hC 2 dX1_restOf_19 rfl rfl z_isr_r ?_
          refine z_gF (pc := 20) hC 1 8 (t := 94) rfl (z_lt hC (by decide)) rfl inX1 (by decide) rfl zm_1_167 rfl dX1_restOf_20 ?_
          refine z_iload_n (pc := 23) hC 0 dX1_restOf_23 rfl rfl ?_
          refine z_zaN (pc := 24) hC i (x := I 94 i) rfl (z_lt hC (by decide)) rfl (by omega) (by decide) rfl dX1_restOf_24 ?_
          refine z_if_eq (pc := 25) (tgt := 37) hC dX1_restOf_25 (by decide) (fun h25 => ?_) (fun h25 => ?_)
          · skip
            have gz := zst_f h25
            refine z_aload_n (pc := 37) hC 2 dX1_restOf_37 rfl rfl z_isr_r ?_
            refine z_gF (pc := 38) hC 1 0 (t := 86) rfl (z_lt hC (by decide)) rfl inX1 (by decide) rfl zm_1_159 rfl dX1_restOf_38 ?_
            refine z_iload_n (pc := 41) hC 0 dX1_restOf_41 rfl rfl ?_
            refine z_iaN (pc := 42) hC i (x := I 86 i) rfl (z_lt hC (by decide)) rfl (by omega) (by decide) rfl dX1_restOf_42 ?_
            refine z_isub (pc := 43) hC dX1_restOf_43 ?_
            rw [show (zfsub r (fun j => if zst I j = true then I 92 j else I 86 j) i) - (I 86 i) = zfsub r (fun j => if zst I j = true then I 92 j else I 86 j) (i + 1) from by show _ = zfsub r (fun j => if zst I j = true then I 92 j else I 86 j) i - (if zst I i = true then I 92 i else I 86 i); rw [gz]; rfl]
            refine z_istore_n (pc := 44) (lv' := [(2, .int (zfsub r (fun j => if zst I j = true then I 92 j else I 86 j) (i + 1))), (3, .int (nI i)), (0, .ref (g.1 83))]) hC dX1_restOf_44 rfl (by decide) rfl ?_
            refine z_iinc (pc := 45) (v := nI (i + 1)) (lv' := [(3, .int (nI (i + 1))), (2, .int (zfsub r (fun j => if zst I j = true then I 92 j else I 86 j) (i + 1))), (0, .ref (g.1 83))]) hC 1 dX1_restOf_45 rfl (nI_1 i) (by decide) rfl ?_
            refine z_goto (pc := 48) (tgt := 4) hC dX1_restOf_48 (by decide) ?_
            exact ih (i + 1) (by omega) (by omega)
          · skip
            have gz := zst_t h25
            refine z_aload_n (pc := 28) hC 2 dX1_restOf_28 rfl rfl z_isr_r ?_
            refine z_gF (pc := 29) hC 1 6 (t := 92) rfl (z_lt hC (by decide)) rfl inX1 (by decide) rfl zm_1_165 rfl dX1_restOf_29 ?_
            refine z_iload_n (pc := 32) hC 0 dX1_restOf_32 rfl rfl ?_
            refine z_iaN (pc := 33) hC i (x := I 92 i) rfl (z_lt hC (by decide)) rfl (by omega) (by decide) rfl dX1_restOf_33 ?_
            refine z_goto (pc := 34) (tgt := 43) hC dX1_restOf_34 (by decide) ?_
            refine z_isub (pc := 43) hC dX1_restOf_43 ?_
            rw [show (zfsub r (fun j => if zst I j = true then I 92 j else I 86 j) i) - (I 92 i) = zfsub r (fun j => if zst I j = true then I 92 j else I 86 j) (i + 1) from by show _ = zfsub r (fun j => if zst I j = true then I 92 j else I 86 j) i - (if zst I i = true then I 92 i else I 86 i); rw [gz]; rfl]
            refine z_istore_n (pc := 44) (lv' := [(2, .int (zfsub r (fun j => if zst I j = true then I 92 j else I 86 j) (i + 1))), (3, .int (nI i)), (0, .ref (g.1 83))]) hC dX1_restOf_44 rfl (by decide) rfl ?_
            refine z_iinc (pc := 45) (v := nI (i + 1)) (lv' := [(3, .int (nI (i + 1))), (2, .int (zfsub r (fun j => if zst I j = true then I 92 j else I 86 j) (i + 1))), (0, .ref (g.1 83))]) hC 1 dX1_restOf_45 rfl (nI_1 i) (by decide) rfl ?_
            refine z_goto (pc := 48) (tgt := 4) hC dX1_restOf_48 (by decide) ?_
            exact ih (i + 1) (by omega) (by omega)
  refine z_lvs (lv' := [(3, .int 0), (2, .int r), (0, .ref (g.1 83))]) [0, 1, 2] rfl ?_
  exact L4 (n + 1) 0 (by omega) (by omega)
set_option maxHeartbeats 4000000 in
set_option maxRecDepth 100000 in
theorem kX1_openFactors (lx : Launch) (g : zG) (N : Nat) (I : Nat → Nat → Int32) (P : Nat → Nat → Option Nat) (J : Nat → Nat → Int64) (n : Nat) (hn40 : n ≤ 40) (hn : I 83 9 = nI n) : z_Ct lx yX1_openFactors (zT yX1_openFactors cX1_openFactors 4 (Option.some FieldType.long)) ({ frames := 0, cells := 0, slots := 0, locals := 0 } : Room) g N I P J [.ref (g.1 83)] (zMu (some (.long (fxOpen (I 91) (zst I) n))) I P J) 0 0 := by
  refine z_of (by decide) (Nat.le_of_ble_eq_true rfl) (lv0 := [(0, .ref (g.1 83))]) rfl ?_
  intro C hlx hC hE hRm
  have hC : zX C cX1_openFactors 4 RX1 (zT yX1_openFactors cX1_openFactors 4 (Option.some FieldType.long)) g N := hC
  refine z_lconst (pc := 0) (v := 0) hC dX1_openFactors_0 rfl ?_
  refine z_lstore_n (pc := 1) (lv' := [(1, .long 0), (0, .ref (g.1 83))]) hC dX1_openFactors_1 rfl (by decide) rfl ?_
  refine z_iconst (pc := 2) (v := 0) hC dX1_openFactors_2 rfl ?_
  refine z_istore_n (pc := 3) (lv' := [(3, .int 0), (1, .long 0), (0, .ref (g.1 83))]) hC dX1_openFactors_3 rfl (by decide) rfl ?_
  have L4 : ∀ (zf : Nat) (i : Nat) (hi : i ≤ n), n - i < zf → zJ C g N 4 0 0 I P J 4 [(3, .int (nI i)), (1, .long (zsumL (fun j => if zst I j = true then 0 else (I 91 j).toInt64) i)), (0, .ref (g.1 83))] [] := by
    intro zf
    induction zf with
    | zero =>
      intro i hi hn2
      exact absurd hn2 (Nat.not_lt_zero _)
    | succ zf ih =>
      intro i hi hn2
      refine z_iload_n (pc := 4) hC 0 dX1_openFactors_4 rfl rfl ?_
      refine z_aload_n (pc := 5) hC 2 dX1_openFactors_5 rfl rfl z_isr_r ?_
      refine z_gI (pc := 6) hC 1 9 (x := nI n) rfl (z_lt hC (by decide)) rfl inX1 (by decide) rfl zm_1_168 hn dX1_openFactors_6 ?_
      refine z_icmp_ge (pc := 9) (tgt := 47) hC dX1_openFactors_9 (by decide) (fun h9 => ?_) (fun h9 => ?_)
      · skip
        have g9 := Int32.not_lt.mpr h9
        have e9 : n = i := (Nat.le_antisymm hi (zc_ge h9 (by omega) (by omega))).symm
        subst e9
        refine z_lload_n (pc := 47) hC 1 dX1_openFactors_47 rfl rfl ?_
        exact z_lret (pc := 48) hC hE dX1_openFactors_48 (zMu_i rfl)
      · skip
        have g9 := Int32.not_le.mp h9
        have e9 : i < n := zc_lt h9 (by omega) (by omega)
        refine z_iload_n (pc := 12) hC 0 dX1_openFactors_12 rfl rfl ?_
        refine z_bipush (pc := 13) (v := 40) hC dX1_openFactors_13 rfl ?_
        refine z_icmp_ge (pc := 15) (tgt := 47) hC dX1_openFactors_15 (by decide) (fun h15 => ?_) (fun h15 => ?_)
        · skip
          have g15 := Int32.not_lt.mpr h15
          exact absurd (zc_ge (n := 40) h15 (by omega) (by decide)) (by omega)
        · skip
          have g15 := Int32.not_le.mp h15
          refine z_lload_n (pc := 18) hC 1 dX1_openFactors_18 rfl rfl ?_
          refine z_aload_n (pc := 19) hC 2 dX1_openFactors_19 rfl rfl z_isr_r ?_
          refine z_gF (pc := 20) hC 1 8 (t := 94) rfl (z_lt hC (by decide)) rfl inX1 (by decide) rfl zm_1_167 rfl dX1_openFactors_20 ?_
          refine z_iload_n (pc := 23) hC 0 dX1_openFactors_23 rfl rfl ?_
          refine z_zaN (pc := 24) hC i (x := I 94 i) rfl (z_lt hC (by decide)) rfl (by omega) (by decide) rfl dX1_openFactors_24 ?_
          refine z_if_eq (pc := 25) (tgt := 32) hC dX1_openFactors_25 (by decide) (fun h25 => ?_) (fun h25 => ?_)
          · skip
            have gz := zst_f h25
            refine z_aload_n (pc := 32) hC 2 dX1_openFactors_32 rfl rfl z_isr_r ?_
            refine z_gF (pc := 33) hC 1 5 (t := 91) rfl (z_lt hC (by decide)) rfl inX1 (by decide) rfl zm_1_164 rfl dX1_openFactors_33 ?_
            refine z_iload_n (pc := 36) hC 0 dX1_openFactors_36 rfl rfl ?_
            refine z_iaN (pc := 37) hC i (x := I 91 i) rfl (z_lt hC (by decide)) rfl (by omega) (by decide) rfl dX1_openFactors_37 ?_
            refine z_i2l (pc := 38) hC dX1_openFactors_38 ?_
            refine z_ladd (pc := 39) hC dX1_openFactors_39 ?_
            rw [show (zsumL (fun j => if zst I j = true then 0 else (I 91 j).toInt64) i) + ((I 91 i).toInt64) = zsumL (fun j => if zst I j = true then 0 else (I 91 j).toInt64) (i + 1) from by show _ = zsumL (fun j => if zst I j = true then 0 else (I 91 j).toInt64) i + (if zst I i = true then 0 else (I 91 i).toInt64); rw [gz]; rfl]
            refine z_lstore_n (pc := 40) (lv' := [(1, .long (zsumL (fun j => if zst I j = true then 0 else (I 91 j).toInt64) (i + 1))), (3, .int (nI i)), (0, .ref (g.1 83))]) hC dX1_openFactors_40 rfl (by decide) rfl ?_
            refine z_iinc (pc := 41) (v := nI (i + 1)) (lv' := [(3, .int (nI (i + 1))), (1, .long (zsumL (fun j => if zst I j = true then 0 else (I 91 j).toInt64) (i + 1))), (0, .ref (g.1 83))]) hC 1 dX1_openFactors_41 rfl (nI_1 i) (by decide) rfl ?_
            refine z_goto (pc := 44) (tgt := 4) hC dX1_openFactors_44 (by decide) ?_
            exact ih (i + 1) (by omega) (by omega)
          · skip
            have gz := zst_t h25
            refine z_lconst (pc := 28) (v := 0) hC dX1_openFactors_28 rfl ?_
            refine z_goto (pc := 29) (tgt := 39) hC dX1_openFactors_29 (by decide) ?_
            refine z_ladd (pc := 39) hC dX1_openFactors_39 ?_
            rw [show (zsumL (fun j => if zst I j = true then 0 else (I 91 j).toInt64) i) + 0 = zsumL (fun j => if zst I j = true then 0 else (I 91 j).toInt64) (i + 1) from by show _ = zsumL (fun j => if zst I j = true then 0 else (I 91 j).toInt64) i + (if zst I i = true then 0 else (I 91 i).toInt64); rw [gz]; rfl]
            refine z_lstore_n (pc := 40) (lv' := [(1, .long (zsumL (fun j => if zst I j = true then 0 else (I 91 j).toInt64) (i + 1))), (3, .int (nI i)), (0, .ref (g.1 83))]) hC dX1_openFactors_40 rfl (by decide) rfl ?_
            refine z_iinc (pc := 41) (v := nI (i + 1)) (lv' := [(3, .int (nI (i + 1))), (1, .long (zsumL (fun j => if zst I j = true then 0 else (I 91 j).toInt64) (i + 1))), (0, .ref (g.1 83))]) hC 1 dX1_openFactors_41 rfl (nI_1 i) (by decide) rfl ?_
            refine z_goto (pc := 44) (tgt := 4) hC dX1_openFactors_44 (by decide) ?_
            exact ih (i + 1) (by omega) (by omega)
  exact L4 (n + 1) 0 (by omega) (by omega)
set_option maxHeartbeats 4000000 in
set_option maxRecDepth 100000 in
theorem kX1_propose (lx : Launch) (g : zG) (N : Nat) (I : Nat → Nat → Int32) (P : Nat → Nat → Option Nat) (J : Nat → Nat → Int64) (n : Nat) (hn40 : n ≤ 40) (hn : I 83 9 = nI n) (am al : Int64) (hal : 0 < al) (gr : Bool) : z_Ct lx yX1_propose (zT yX1_propose cX1_propose 17 (Option.some FieldType.long)) ({ frames := 1, cells := 0, slots := 0, locals := 23 } : Room) g N I P J [.ref (g.1 83), .long am, .long al, .int (zB gr)] (zMu (some (.long (fxSum (fxDev (I 87) (I 88) (fxP gr am al (I 86) (I 91) (zst I))) (zst I) n))) (zprop I (fxP gr am al (I 86) (I 91) (zst I)) (fxDev (I 87) (I 88) (fxP gr am al (I 86) (I 91) (zst I))) n) P J) 0 0 := by
  refine z_of (by decide) (Nat.le_of_ble_eq_true rfl) (lv0 := [(0, .ref (g.1 83)), (1, .long am), (3, .long al), (5, .int (zB gr))]) rfl ?_
  intro C hlx hC hE hRm
  have hC : zX C cX1_propose 17 RX1 (zT yX1_propose cX1_propose 17 (Option.some FieldType.long)) g N := hC
  refine z_lconst (pc := 0) (v := 0) hC dX1_propose_0 rfl ?_
  refine z_lstore (pc := 1) (lv' := [(6, .long 0), (0, .ref (g.1 83)), (1, .long am), (3, .long al), (5, .int (zB gr))]) hC dX1_propose_1 (by decide) rfl ?_
  refine z_lconst (pc := 3) (v := 0) hC dX1_propose_3 rfl ?_
  refine z_lstore (pc := 4) (lv' := [(8, .long 0), (6, .long 0), (0, .ref (g.1 83)), (1, .long am), (3, .long al), (5, .int (zB gr))]) hC dX1_propose_4 (by decide) rfl ?_
  refine z_lconst (pc := 6) (v := 0) hC dX1_propose_6 rfl ?_
  refine z_lstore (pc := 7) (lv' := [(10, .long 0), (8, .long 0), (6, .long 0), (0, .ref (g.1 83)), (1, .long am), (3, .long al), (5, .int (zB gr))]) hC dX1_propose_7 (by decide) rfl ?_
  refine z_iconst (pc := 9) (v := 0) hC dX1_propose_9 rfl ?_
  refine z_istore (pc := 10) (lv' := [(12, .int 0), (10, .long 0), (8, .long 0), (6, .long 0), (0, .ref (g.1 83)), (1, .long am), (3, .long al), (5, .int (zB gr))]) hC dX1_propose_10 (by decide) rfl ?_
  have L12 : ∀ (zf : Nat) (i : Nat) (hi : i ≤ n), n - i < zf → zJ C g N 17 0 0 (zprop I (fxP gr am al (I 86) (I 91) (zst I)) (fxDev (I 87) (I 88) (fxP gr am al (I 86) (I 91) (zst I))) i) P J 12 [(12, .int (nI i)), (10, .long (fxSum (fxDev (I 87) (I 88) (fxP gr am al (I 86) (I 91) (zst I))) (zst I) i)), (8, .long (am * fxOpen (I 91) (zst I) i / al)), (6, .long (fxOpen (I 91) (zst I) i)), (0, .ref (g.1 83)), (1, .long am), (3, .long al), (5, .int (zB gr))] [] := by
    intro zf
    induction zf with
    | zero =>
      intro i hi hn2
      exact absurd hn2 (Nat.not_lt_zero _)
    | succ zf ih =>
      intro i hi hn2
      refine z_iload (pc := 12) hC 0 dX1_propose_12 rfl ?_
      refine z_aload_n (pc := 14) hC 4 dX1_propose_14 rfl rfl z_isr_r ?_
      refine z_gI (pc := 15) hC 1 9 (x := nI n) rfl (z_lt hC (by decide)) rfl inX1 (by decide) rfl zm_1_168 ((zprop_o _ _ _ (by decide) (by decide)).trans hn) dX1_propose_15 ?_
      refine z_icmp_ge (pc := 18) (tgt := 157) hC dX1_propose_18 (by decide) (fun h18 => ?_) (fun h18 => ?_)
      · skip
        have g18 := Int32.not_lt.mpr h18
        have e18 : n = i := (Nat.le_antisymm hi (zc_ge h18 (by omega) (by omega))).symm
        subst e18
        refine z_lload (pc := 157) hC 1 dX1_propose_157 rfl ?_
        exact z_lret (pc := 159) hC hE dX1_propose_159 (zMu_i rfl)
      · skip
        have g18 := Int32.not_le.mp h18
        have e18 : i < n := zc_lt h18 (by omega) (by omega)
        refine z_iload (pc := 21) hC 0 dX1_propose_21 rfl ?_
        refine z_bipush (pc := 23) (v := 40) hC dX1_propose_23 rfl ?_
        refine z_icmp_ge (pc := 25) (tgt := 157) hC dX1_propose_25 (by decide) (fun h25 => ?_) (fun h25 => ?_)
        · skip
          have g25 := Int32.not_lt.mpr h25
          exact absurd (zc_ge (n := 40) h25 (by omega) (by decide)) (by omega)
        · skip
          have g25 := Int32.not_le.mp h25
          refine z_aload_n (pc := 28) hC 4 dX1_propose_28 rfl rfl z_isr_r ?_
          refine z_gF (pc := 29) hC 1 8 (t := 94) rfl (z_lt hC (by decide)) rfl inX1 (by decide) rfl zm_1_167 rfl dX1_propose_29 ?_
          refine z_iload (pc := 32) hC 0 dX1_propose_32 rfl ?_
          refine z_zaN (pc := 34) hC i (x := I 94 i) rfl (z_lt hC (by decide)) rfl (by omega) (by decide) (zprop_o _ _ _ (by decide) (by decide)) dX1_propose_34 ?_
          refine z_if_ne (pc := 35) (tgt := 151) hC dX1_propose_35 (by decide) (fun h35 => ?_) (fun h35 => ?_)
          · skip
            have gz := zst_t h35
            refine z_iinc (pc := 151) (v := nI (i + 1)) (lv' := [(12, .int (nI (i + 1))), (10, .long (fxSum (fxDev (I 87) (I 88) (fxP gr am al (I 86) (I 91) (zst I))) (zst I) i)), (8, .long (am * fxOpen (I 91) (zst I) i / al)), (6, .long (fxOpen (I 91) (zst I) i)), (0, .ref (g.1 83)), (1, .long am), (3, .long al), (5, .int (zB gr))]) hC 0 dX1_propose_151 rfl (nI_1 i) (by decide) rfl ?_
            refine z_goto (pc := 154) (tgt := 12) hC dX1_propose_154 (by decide) ?_
            rw [← zprop_k I (fxP gr am al (I 86) (I 91) (zst I)) (fxDev (I 87) (I 88) (fxP gr am al (I 86) (I 91) (zst I))) gz]
            have k1 : fxOpen (I 91) (zst I) (i + 1) = fxOpen (I 91) (zst I) i := by show _ + (if zst I i = true then 0 else (I 91 i).toInt64) = _; rw [gz]; exact Int64.add_zero _
            have k2 : fxSum (fxDev (I 87) (I 88) (fxP gr am al (I 86) (I 91) (zst I))) (zst I) (i + 1) = fxSum (fxDev (I 87) (I 88) (fxP gr am al (I 86) (I 91) (zst I))) (zst I) i := by show _ + (if zst I i = true then 0 else ((fxDev (I 87) (I 88) (fxP gr am al (I 86) (I 91) (zst I))) i).toInt64) = _; rw [gz]; exact Int64.add_zero _
            rw [← k1, ← k2]
            exact ih (i + 1) (by omega) (by omega)
          · skip
            have gz := zst_f h35
            refine z_lload_n (pc := 38) hC 6 dX1_propose_38 rfl rfl ?_
            refine z_lconst (pc := 39) (v := 0) hC dX1_propose_39 rfl ?_
            refine z_lcmp (pc := 40) hC dX1_propose_40 ?_
            refine z_if_le (pc := 41) (tgt := 151) hC dX1_propose_41 (by decide) (fun h41 => ?_) (fun h41 => ?_)
            · skip
              have g41 := Int32.not_lt.mpr h41
              exact absurd hal (zlc_le h41)
            · skip
              have g41 := Int32.not_le.mp h41
              refine z_lload (pc := 44) hC 3 dX1_propose_44 rfl ?_
              refine z_aload_n (pc := 46) hC 4 dX1_propose_46 rfl rfl z_isr_r ?_
              refine z_gF (pc := 47) hC 1 5 (t := 91) rfl (z_lt hC (by decide)) rfl inX1 (by decide) rfl zm_1_164 rfl dX1_propose_47 ?_
              refine z_iload (pc := 50) hC 0 dX1_propose_50 rfl ?_
              refine z_iaN (pc := 52) hC i (x := I 91 i) rfl (z_lt hC (by decide)) rfl (by omega) (by decide) (zprop_o _ _ _ (by decide) (by decide)) dX1_propose_52 ?_
              refine z_i2l (pc := 53) hC dX1_propose_53 ?_
              refine z_ladd (pc := 54) hC dX1_propose_54 ?_
              rw [show (fxOpen (I 91) (zst I) i) + ((I 91 i).toInt64) = fxOpen (I 91) (zst I) (i + 1) from by show _ = fxOpen (I 91) (zst I) i + (if zst I i = true then 0 else (I 91 i).toInt64); rw [gz]; rfl]
              refine z_lstore (pc := 55) (lv' := [(6, .long (fxOpen (I 91) (zst I) (i + 1))), (12, .int (nI i)), (10, .long (fxSum (fxDev (I 87) (I 88) (fxP gr am al (I 86) (I 91) (zst I))) (zst I) i)), (8, .long (am * fxOpen (I 91) (zst I) i / al)), (0, .ref (g.1 83)), (1, .long am), (3, .long al), (5, .int (zB gr))]) hC dX1_propose_55 (by decide) rfl ?_
              refine z_lload_n (pc := 57) hC 5 dX1_propose_57 rfl rfl ?_
              refine z_lload (pc := 58) hC 0 dX1_propose_58 rfl ?_
              refine z_lmul (pc := 60) hC dX1_propose_60 ?_
              refine z_lload_n (pc := 61) hC 6 dX1_propose_61 rfl rfl ?_
              refine z_ldiv (pc := 62) hC dX1_propose_62 (fun q => by rw [q] at hal; exact absurd hal (by decide)) ?_
              refine z_lstore (pc := 63) (lv' := [(13, .long ((am * (fxOpen (I 91) (zst I) (i + 1))) / al)), (6, .long (fxOpen (I 91) (zst I) (i + 1))), (12, .int (nI i)), (10, .long (fxSum (fxDev (I 87) (I 88) (fxP gr am al (I 86) (I 91) (zst I))) (zst I) i)), (8, .long (am * fxOpen (I 91) (zst I) i / al)), (0, .ref (g.1 83)), (1, .long am), (3, .long al), (5, .int (zB gr))]) hC dX1_propose_63 (by decide) rfl ?_
              refine z_lload (pc := 65) hC 0 dX1_propose_65 rfl ?_
              refine z_lload (pc := 67) hC 4 dX1_propose_67 rfl ?_
              refine z_lsub (pc := 69) hC dX1_propose_69 ?_
              refine z_l2i (pc := 70) hC dX1_propose_70 ?_
              rw [show (((am * (fxOpen (I 91) (zst I) (i + 1))) / al) - (am * fxOpen (I 91) (zst I) i / al)).toInt32 = fxPart am al (I 91) (zst I) i from rfl]
              refine z_istore (pc := 71) (lv' := [(15, .int (fxPart am al (I 91) (zst I) i)), (13, .long ((am * (fxOpen (I 91) (zst I) (i + 1))) / al)), (6, .long (fxOpen (I 91) (zst I) (i + 1))), (12, .int (nI i)), (10, .long (fxSum (fxDev (I 87) (I 88) (fxP gr am al (I 86) (I 91) (zst I))) (zst I) i)), (8, .long (am * fxOpen (I 91) (zst I) i / al)), (0, .ref (g.1 83)), (1, .long am), (3, .long al), (5, .int (zB gr))]) hC dX1_propose_71 (by decide) rfl ?_
              refine z_lload (pc := 73) hC 1 dX1_propose_73 rfl ?_
              refine z_lstore (pc := 75) (lv' := [(8, .long ((am * (fxOpen (I 91) (zst I) (i + 1))) / al)), (15, .int (fxPart am al (I 91) (zst I) i)), (13, .long ((am * (fxOpen (I 91) (zst I) (i + 1))) / al)), (6, .long (fxOpen (I 91) (zst I) (i + 1))), (12, .int (nI i)), (10, .long (fxSum (fxDev (I 87) (I 88) (fxP gr am al (I 86) (I 91) (zst I))) (zst I) i)), (0, .ref (g.1 83)), (1, .long am), (3, .long al), (5, .int (zB gr))]) hC dX1_propose_75 (by decide) rfl ?_
              refine z_aload_n (pc := 77) hC 6 dX1_propose_77 rfl rfl z_isr_r ?_
              refine z_gF (pc := 78) hC 1 0 (t := 86) rfl (z_lt hC (by decide)) rfl inX1 (by decide) rfl zm_1_159 rfl dX1_propose_78 ?_
              refine z_iload (pc := 81) hC 4 dX1_propose_81 rfl ?_
              refine z_iaN (pc := 83) hC i (x := I 86 i) rfl (z_lt hC (by decide)) rfl (by omega) (by decide) (zprop_o _ _ _ (by decide) (by decide)) dX1_propose_83 ?_
              refine z_iload (pc := 84) hC 9 dX1_propose_84 rfl ?_
              refine z_if_eq (pc := 86) (tgt := 94) hC dX1_propose_86 (by decide) (fun h86 => ?_) (fun h86 => ?_)
              · skip
                have g86 := zB_f h86
                refine z_iload (pc := 94) hC 1 dX1_propose_94 rfl ?_
                refine z_ineg (pc := 96) hC dX1_propose_96 ?_
                refine z_iadd (pc := 97) hC dX1_propose_97 ?_
                rw [show (I 86 i) + (-(fxPart am al (I 91) (zst I) i)) = fxP gr am al (I 86) (I 91) (zst I) i from by unfold fxP; rw [g86]; rfl]
                refine z_istore (pc := 98) (lv' := [(16, .int (fxP gr am al (I 86) (I 91) (zst I) i)), (8, .long ((am * (fxOpen (I 91) (zst I) (i + 1))) / al)), (15, .int (fxPart am al (I 91) (zst I) i)), (13, .long ((am * (fxOpen (I 91) (zst I) (i + 1))) / al)), (6, .long (fxOpen (I 91) (zst I) (i + 1))), (12, .int (nI i)), (10, .long (fxSum (fxDev (I 87) (I 88) (fxP gr am al (I 86) (I 91) (zst I))) (zst I) i)), (0, .ref (g.1 83)), (1, .long am), (3, .long al), (5, .int (zB gr))]) hC dX1_propose_98 (by decide) rfl ?_
                refine z_aload_n (pc := 100) hC 7 dX1_propose_100 rfl rfl z_isr_r ?_
                refine z_gF (pc := 101) hC 1 6 (t := 92) rfl (z_lt hC (by decide)) rfl inX1 (by decide) rfl zm_1_165 rfl dX1_propose_101 ?_
                refine z_iload (pc := 104) hC 5 dX1_propose_104 rfl ?_
                refine z_iload (pc := 106) hC 0 dX1_propose_106 rfl ?_
                refine z_isN (pc := 108) hC i rfl (z_lt hC (by decide)) rfl (by omega) (by decide) dX1_propose_108 ?_
                refine z_aload_n (pc := 109) hC 7 dX1_propose_109 rfl rfl z_isr_r ?_
                refine z_gF (pc := 110) hC 1 7 (t := 93) rfl (z_lt hC (by decide)) rfl inX1 (by decide) rfl zm_1_166 rfl dX1_propose_110 ?_
                refine z_iload (pc := 113) hC 5 dX1_propose_113 rfl ?_
                refine z_iload (pc := 115) hC 0 dX1_propose_115 rfl ?_
                refine z_aload_n (pc := 117) hC 7 dX1_propose_117 rfl rfl z_isr_r ?_
                refine z_gF (pc := 118) hC 1 1 (t := 87) rfl (z_lt hC (by decide)) rfl inX1 (by decide) rfl zm_1_160 rfl dX1_propose_118 ?_
                refine z_iload (pc := 121) hC 5 dX1_propose_121 rfl ?_
                refine z_iaN (pc := 123) hC i (x := I 87 i) rfl (z_lt hC (by decide)) rfl (by omega) (by decide) ((z_u_a _ _ (by decide)).trans (zprop_o _ _ _ (by decide) (by decide))) dX1_propose_123 ?_
                refine z_aload_n (pc := 124) hC 7 dX1_propose_124 rfl rfl z_isr_r ?_
                refine z_gF (pc := 125) hC 1 2 (t := 88) rfl (z_lt hC (by decide)) rfl inX1 (by decide) rfl zm_1_161 rfl dX1_propose_125 ?_
                refine z_iload (pc := 128) hC 5 dX1_propose_128 rfl ?_
                refine z_iaN (pc := 130) hC i (x := I 88 i) rfl (z_lt hC (by decide)) rfl (by omega) (by decide) ((z_u_a _ _ (by decide)).trans (zprop_o _ _ _ (by decide) (by decide))) dX1_propose_130 ?_
                refine z_cSN (pc := 131) (st := [.int (nI i), .ref (g.1 93)]) hC [.int (fxP gr am al (I 86) (I 91) (zst I) i), .int (I 87 i), .int (I 88 i)] (kX5_limited C.2.1 g N (z_u (zprop I (fxP gr am al (I 86) (I 91) (zst I)) (fxDev (I 87) (I 88) (fxP gr am al (I 86) (I 91) (zst I))) i) 92 i (fxP gr am al (I 86) (I 91) (zst I) i)) P J (fxP gr am al (I 86) (I 91) (zst I) i) (I 87 i) (I 88 i)) zkX5_limited (hC.2.2.2.2.2.1.2.2.2.2.2.2.2.2.2.1) ⟨rfl, rfl⟩ rfl rfl hRm ⟨Nat.le_of_ble_eq_true rfl, Nat.le_of_ble_eq_true rfl⟩ (Nat.le_of_ble_eq_true rfl) ⟨Nat.zero_le _, Nat.zero_le _⟩ dX1_propose_131 ?_
                refine z_iload (pc := 134) hC 0 dX1_propose_134 rfl ?_
                refine z_isub (pc := 136) hC dX1_propose_136 ?_
                rw [show (zlim (fxP gr am al (I 86) (I 91) (zst I) i) (I 87 i) (I 88 i)) - (fxP gr am al (I 86) (I 91) (zst I) i) = fxDev (I 87) (I 88) (fxP gr am al (I 86) (I 91) (zst I)) i from rfl]
                refine z_isN (pc := 137) hC i rfl (z_lt hC (by decide)) rfl (by omega) (by decide) dX1_propose_137 ?_
                refine z_lload (pc := 138) hC 6 dX1_propose_138 rfl ?_
                refine z_aload_n (pc := 140) hC 7 dX1_propose_140 rfl rfl z_isr_r ?_
                refine z_gF (pc := 141) hC 1 7 (t := 93) rfl (z_lt hC (by decide)) rfl inX1 (by decide) rfl zm_1_166 rfl dX1_propose_141 ?_
                refine z_iload (pc := 144) hC 5 dX1_propose_144 rfl ?_
                refine z_iaN (pc := 146) hC i (x := fxDev (I 87) (I 88) (fxP gr am al (I 86) (I 91) (zst I)) i) rfl (z_lt hC (by decide)) rfl (by omega) (by decide) (z_u_s _ _ _ _) dX1_propose_146 ?_
                refine z_i2l (pc := 147) hC dX1_propose_147 ?_
                refine z_ladd (pc := 148) hC dX1_propose_148 ?_
                rw [show (fxSum (fxDev (I 87) (I 88) (fxP gr am al (I 86) (I 91) (zst I))) (zst I) i) + ((fxDev (I 87) (I 88) (fxP gr am al (I 86) (I 91) (zst I)) i).toInt64) = fxSum (fxDev (I 87) (I 88) (fxP gr am al (I 86) (I 91) (zst I))) (zst I) (i + 1) from by show _ = fxSum (fxDev (I 87) (I 88) (fxP gr am al (I 86) (I 91) (zst I))) (zst I) i + (if zst I i = true then 0 else ((fxDev (I 87) (I 88) (fxP gr am al (I 86) (I 91) (zst I))) i).toInt64); rw [gz]; rfl]
                refine z_lstore (pc := 149) (lv' := [(10, .long (fxSum (fxDev (I 87) (I 88) (fxP gr am al (I 86) (I 91) (zst I))) (zst I) (i + 1))), (16, .int (fxP gr am al (I 86) (I 91) (zst I) i)), (8, .long ((am * (fxOpen (I 91) (zst I) (i + 1))) / al)), (15, .int (fxPart am al (I 91) (zst I) i)), (13, .long ((am * (fxOpen (I 91) (zst I) (i + 1))) / al)), (6, .long (fxOpen (I 91) (zst I) (i + 1))), (12, .int (nI i)), (0, .ref (g.1 83)), (1, .long am), (3, .long al), (5, .int (zB gr))]) hC dX1_propose_149 (by decide) rfl ?_
                refine z_iinc (pc := 151) (v := nI (i + 1)) (lv' := [(12, .int (nI (i + 1))), (10, .long (fxSum (fxDev (I 87) (I 88) (fxP gr am al (I 86) (I 91) (zst I))) (zst I) (i + 1))), (16, .int (fxP gr am al (I 86) (I 91) (zst I) i)), (8, .long ((am * (fxOpen (I 91) (zst I) (i + 1))) / al)), (15, .int (fxPart am al (I 91) (zst I) i)), (13, .long ((am * (fxOpen (I 91) (zst I) (i + 1))) / al)), (6, .long (fxOpen (I 91) (zst I) (i + 1))), (0, .ref (g.1 83)), (1, .long am), (3, .long al), (5, .int (zB gr))]) hC 6 dX1_propose_151 rfl (nI_1 i) (by decide) rfl ?_
                refine z_goto (pc := 154) (tgt := 12) hC dX1_propose_154 (by decide) ?_
                rw [zprop_s I (fxP gr am al (I 86) (I 91) (zst I)) (fxDev (I 87) (I 88) (fxP gr am al (I 86) (I 91) (zst I))) gz]
                refine z_lvs (lv' := [(12, .int (nI (i + 1))), (10, .long (fxSum (fxDev (I 87) (I 88) (fxP gr am al (I 86) (I 91) (zst I))) (zst I) (i + 1))), (8, .long (am * fxOpen (I 91) (zst I) (i + 1) / al)), (6, .long (fxOpen (I 91) (zst I) (i + 1))), (0, .ref (g.1 83)), (1, .long am), (3, .long al), (5, .int (zB gr))]) [0, 1, 3, 6, 7, 8, 9, 10] rfl ?_
                exact ih (i + 1) (by omega) (by omega)
              · skip
                have g86 := zB_t h86
                refine z_iload (pc := 89) hC 1 dX1_propose_89 rfl ?_
                refine z_goto (pc := 91) (tgt := 97) hC dX1_propose_91 (by decide) ?_
                refine z_iadd (pc := 97) hC dX1_propose_97 ?_
                rw [show (I 86 i) + (fxPart am al (I 91) (zst I) i) = fxP gr am al (I 86) (I 91) (zst I) i from by unfold fxP; rw [g86]; rfl]
                refine z_istore (pc := 98) (lv' := [(16, .int (fxP gr am al (I 86) (I 91) (zst I) i)), (8, .long ((am * (fxOpen (I 91) (zst I) (i + 1))) / al)), (15, .int (fxPart am al (I 91) (zst I) i)), (13, .long ((am * (fxOpen (I 91) (zst I) (i + 1))) / al)), (6, .long (fxOpen (I 91) (zst I) (i + 1))), (12, .int (nI i)), (10, .long (fxSum (fxDev (I 87) (I 88) (fxP gr am al (I 86) (I 91) (zst I))) (zst I) i)), (0, .ref (g.1 83)), (1, .long am), (3, .long al), (5, .int (zB gr))]) hC dX1_propose_98 (by decide) rfl ?_
                refine z_aload_n (pc := 100) hC 7 dX1_propose_100 rfl rfl z_isr_r ?_
                refine z_gF (pc := 101) hC 1 6 (t := 92) rfl (z_lt hC (by decide)) rfl inX1 (by decide) rfl zm_1_165 rfl dX1_propose_101 ?_
                refine z_iload (pc := 104) hC 5 dX1_propose_104 rfl ?_
                refine z_iload (pc := 106) hC 0 dX1_propose_106 rfl ?_
                refine z_isN (pc := 108) hC i rfl (z_lt hC (by decide)) rfl (by omega) (by decide) dX1_propose_108 ?_
                refine z_aload_n (pc := 109) hC 7 dX1_propose_109 rfl rfl z_isr_r ?_
                refine z_gF (pc := 110) hC 1 7 (t := 93) rfl (z_lt hC (by decide)) rfl inX1 (by decide) rfl zm_1_166 rfl dX1_propose_110 ?_
                refine z_iload (pc := 113) hC 5 dX1_propose_113 rfl ?_
                refine z_iload (pc := 115) hC 0 dX1_propose_115 rfl ?_
                refine z_aload_n (pc := 117) hC 7 dX1_propose_117 rfl rfl z_isr_r ?_
                refine z_gF (pc := 118) hC 1 1 (t := 87) rfl (z_lt hC (by decide)) rfl inX1 (by decide) rfl zm_1_160 rfl dX1_propose_118 ?_
                refine z_iload (pc := 121) hC 5 dX1_propose_121 rfl ?_
                refine z_iaN (pc := 123) hC i (x := I 87 i) rfl (z_lt hC (by decide)) rfl (by omega) (by decide) ((z_u_a _ _ (by decide)).trans (zprop_o _ _ _ (by decide) (by decide))) dX1_propose_123 ?_
                refine z_aload_n (pc := 124) hC 7 dX1_propose_124 rfl rfl z_isr_r ?_
                refine z_gF (pc := 125) hC 1 2 (t := 88) rfl (z_lt hC (by decide)) rfl inX1 (by decide) rfl zm_1_161 rfl dX1_propose_125 ?_
                refine z_iload (pc := 128) hC 5 dX1_propose_128 rfl ?_
                refine z_iaN (pc := 130) hC i (x := I 88 i) rfl (z_lt hC (by decide)) rfl (by omega) (by decide) ((z_u_a _ _ (by decide)).trans (zprop_o _ _ _ (by decide) (by decide))) dX1_propose_130 ?_
                refine z_cSN (pc := 131) (st := [.int (nI i), .ref (g.1 93)]) hC [.int (fxP gr am al (I 86) (I 91) (zst I) i), .int (I 87 i), .int (I 88 i)] (kX5_limited C.2.1 g N (z_u (zprop I (fxP gr am al (I 86) (I 91) (zst I)) (fxDev (I 87) (I 88) (fxP gr am al (I 86) (I 91) (zst I))) i) 92 i (fxP gr am al (I 86) (I 91) (zst I) i)) P J (fxP gr am al (I 86) (I 91) (zst I) i) (I 87 i) (I 88 i)) zkX5_limited (hC.2.2.2.2.2.1.2.2.2.2.2.2.2.2.2.1) ⟨rfl, rfl⟩ rfl rfl hRm ⟨Nat.le_of_ble_eq_true rfl, Nat.le_of_ble_eq_true rfl⟩ (Nat.le_of_ble_eq_true rfl) ⟨Nat.zero_le _, Nat.zero_le _⟩ dX1_propose_131 ?_
                refine z_iload (pc := 134) hC 0 dX1_propose_134 rfl ?_
                refine z_isub (pc := 136) hC dX1_propose_136 ?_
                rw [show (zlim (fxP gr am al (I 86) (I 91) (zst I) i) (I 87 i) (I 88 i)) - (fxP gr am al (I 86) (I 91) (zst I) i) = fxDev (I 87) (I 88) (fxP gr am al (I 86) (I 91) (zst I)) i from rfl]
                refine z_isN (pc := 137) hC i rfl (z_lt hC (by decide)) rfl (by omega) (by decide) dX1_propose_137 ?_
                refine z_lload (pc := 138) hC 6 dX1_propose_138 rfl ?_
                refine z_aload_n (pc := 140) hC 7 dX1_propose_140 rfl rfl z_isr_r ?_
                refine z_gF (pc := 141) hC 1 7 (t := 93) rfl (z_lt hC (by decide)) rfl inX1 (by decide) rfl zm_1_166 rfl dX1_propose_141 ?_
                refine z_iload (pc := 144) hC 5 dX1_propose_144 rfl ?_
                refine z_iaN (pc := 146) hC i (x := fxDev (I 87) (I 88) (fxP gr am al (I 86) (I 91) (zst I)) i) rfl (z_lt hC (by decide)) rfl (by omega) (by decide) (z_u_s _ _ _ _) dX1_propose_146 ?_
                refine z_i2l (pc := 147) hC dX1_propose_147 ?_
                refine z_ladd (pc := 148) hC dX1_propose_148 ?_
                rw [show (fxSum (fxDev (I 87) (I 88) (fxP gr am al (I 86) (I 91) (zst I))) (zst I) i) + ((fxDev (I 87) (I 88) (fxP gr am al (I 86) (I 91) (zst I)) i).toInt64) = fxSum (fxDev (I 87) (I 88) (fxP gr am al (I 86) (I 91) (zst I))) (zst I) (i + 1) from by show _ = fxSum (fxDev (I 87) (I 88) (fxP gr am al (I 86) (I 91) (zst I))) (zst I) i + (if zst I i = true then 0 else ((fxDev (I 87) (I 88) (fxP gr am al (I 86) (I 91) (zst I))) i).toInt64); rw [gz]; rfl]
                refine z_lstore (pc := 149) (lv' := [(10, .long (fxSum (fxDev (I 87) (I 88) (fxP gr am al (I 86) (I 91) (zst I))) (zst I) (i + 1))), (16, .int (fxP gr am al (I 86) (I 91) (zst I) i)), (8, .long ((am * (fxOpen (I 91) (zst I) (i + 1))) / al)), (15, .int (fxPart am al (I 91) (zst I) i)), (13, .long ((am * (fxOpen (I 91) (zst I) (i + 1))) / al)), (6, .long (fxOpen (I 91) (zst I) (i + 1))), (12, .int (nI i)), (0, .ref (g.1 83)), (1, .long am), (3, .long al), (5, .int (zB gr))]) hC dX1_propose_149 (by decide) rfl ?_
                refine z_iinc (pc := 151) (v := nI (i + 1)) (lv' := [(12, .int (nI (i + 1))), (10, .long (fxSum (fxDev (I 87) (I 88) (fxP gr am al (I 86) (I 91) (zst I))) (zst I) (i + 1))), (16, .int (fxP gr am al (I 86) (I 91) (zst I) i)), (8, .long ((am * (fxOpen (I 91) (zst I) (i + 1))) / al)), (15, .int (fxPart am al (I 91) (zst I) i)), (13, .long ((am * (fxOpen (I 91) (zst I) (i + 1))) / al)), (6, .long (fxOpen (I 91) (zst I) (i + 1))), (0, .ref (g.1 83)), (1, .long am), (3, .long al), (5, .int (zB gr))]) hC 6 dX1_propose_151 rfl (nI_1 i) (by decide) rfl ?_
                refine z_goto (pc := 154) (tgt := 12) hC dX1_propose_154 (by decide) ?_
                rw [zprop_s I (fxP gr am al (I 86) (I 91) (zst I)) (fxDev (I 87) (I 88) (fxP gr am al (I 86) (I 91) (zst I))) gz]
                refine z_lvs (lv' := [(12, .int (nI (i + 1))), (10, .long (fxSum (fxDev (I 87) (I 88) (fxP gr am al (I 86) (I 91) (zst I))) (zst I) (i + 1))), (8, .long (am * fxOpen (I 91) (zst I) (i + 1) / al)), (6, .long (fxOpen (I 91) (zst I) (i + 1))), (0, .ref (g.1 83)), (1, .long am), (3, .long al), (5, .int (zB gr))]) [0, 1, 3, 6, 7, 8, 9, 10] rfl ?_
                exact ih (i + 1) (by omega) (by omega)
  have L := L12 (n + 1) 0 (by omega) (by omega)
  rw [zprop_0, show fxOpen (I 91) (zst I) 0 = 0 from rfl, zl_mul0] at L
  exact L
theorem zlc_nle {x y : Int64} (h : ¬ y < x) : lg_cmp x y ≤ 0 := by
  unfold lg_cmp
  rw [if_neg h]
  split <;> decide
set_option maxHeartbeats 4000000 in
set_option maxRecDepth 100000 in
theorem kX1_settle (lx : Launch) (g : zG) (N : Nat) (I : Nat → Nat → Int32) (P : Nat → Nat → Option Nat) (J : Nat → Nat → Int64) (n : Nat) (hn40 : n ≤ 40) (hn : I 83 9 = nI n) (sm : Int64) : z_Ct lx yX1_settle (zT yX1_settle cX1_settle 5 (Option.none : Option FieldType)) ({ frames := 0, cells := 0, slots := 0, locals := 0 } : Room) g N I P J [.ref (g.1 83), .long sm] (zMu none (zsetl I sm n) P J) 0 0 := by
  refine z_of (by decide) (Nat.le_of_ble_eq_true rfl) (lv0 := [(0, .ref (g.1 83)), (1, .long sm)]) rfl ?_
  intro C hlx hC hE hRm
  have hC : zX C cX1_settle 5 RX1 (zT yX1_settle cX1_settle 5 (Option.none : Option FieldType)) g N := hC
  refine z_iconst (pc := 0) (v := 0) hC dX1_settle_0 rfl ?_
  refine z_istore_n (pc := 1) (lv' := [(3, .int 0), (0, .ref (g.1 83)), (1, .long sm)]) hC dX1_settle_1 rfl (by decide) rfl ?_
  have L2 : ∀ (zf : Nat) (i : Nat) (hi : i ≤ n), n - i < zf → zJ C g N 5 0 0 (zsetl I sm i) P J 2 [(3, .int (nI i)), (0, .ref (g.1 83)), (1, .long sm)] [] := by
    intro zf
    induction zf with
    | zero =>
      intro i hi hn2
      exact absurd hn2 (Nat.not_lt_zero _)
    | succ zf ih =>
      intro i hi hn2
      refine z_iload_n (pc := 2) hC 0 dX1_settle_2 rfl rfl ?_
      refine z_aload_n (pc := 3) hC 1 dX1_settle_3 rfl rfl z_isr_r ?_
      refine z_gI (pc := 4) hC 1 9 (x := nI n) rfl (z_lt hC (by decide)) rfl inX1 (by decide) rfl zm_1_168 ((zsetl_o _ _ (by decide) (by decide)).trans hn) dX1_settle_4 ?_
      refine z_icmp_ge (pc := 7) (tgt := 82) hC dX1_settle_7 (by decide) (fun h7 => ?_) (fun h7 => ?_)
      · skip
        have g7 := Int32.not_lt.mpr h7
        have e7 : n = i := (Nat.le_antisymm hi (zc_ge h7 (by omega) (by omega))).symm
        subst e7
        exact z_vret (pc := 82) hC hE dX1_settle_82 (zMu_i rfl)
      · skip
        have g7 := Int32.not_le.mp h7
        have e7 : i < n := zc_lt h7 (by omega) (by omega)
        refine z_iload_n (pc := 10) hC 0 dX1_settle_10 rfl rfl ?_
        refine z_bipush (pc := 11) (v := 40) hC dX1_settle_11 rfl ?_
        refine z_icmp_ge (pc := 13) (tgt := 82) hC dX1_settle_13 (by decide) (fun h13 => ?_) (fun h13 => ?_)
        · skip
          have g13 := Int32.not_lt.mpr h13
          exact absurd (zc_ge (n := 40) h13 (by omega) (by decide)) (by omega)
        · skip
          have g13 := Int32.not_le.mp h13
          refine z_aload_n (pc := 16) hC 1 dX1_settle_16 rfl rfl z_isr_r ?_
          refine z_gF (pc := 17) hC 1 7 (t := 93) rfl (z_lt hC (by decide)) rfl inX1 (by decide) rfl zm_1_166 rfl dX1_settle_17 ?_
          refine z_iload_n (pc := 20) hC 0 dX1_settle_20 rfl rfl ?_
          refine z_iaN (pc := 21) hC i (x := I 93 i) rfl (z_lt hC (by decide)) rfl (by omega) (by decide) (zsetl_o _ _ (by decide) (by decide)) dX1_settle_21 ?_
          refine z_istore (pc := 22) (lv' := [(4, .int (I 93 i)), (3, .int (nI i)), (0, .ref (g.1 83)), (1, .long sm)]) hC dX1_settle_22 (by decide) rfl ?_
          refine z_aload_n (pc := 24) hC 2 dX1_settle_24 rfl rfl z_isr_r ?_
          refine z_gF (pc := 25) hC 1 8 (t := 94) rfl (z_lt hC (by decide)) rfl inX1 (by decide) rfl zm_1_167 rfl dX1_settle_25 ?_
          refine z_iload_n (pc := 28) hC 1 dX1_settle_28 rfl rfl ?_
          refine z_zaN (pc := 29) hC i (x := I 94 i) rfl (z_lt hC (by decide)) rfl (by omega) (by decide) (zsetl_g _ _ (Nat.le_refl _)) dX1_settle_29 ?_
          refine z_if_ne (pc := 30) (tgt := 76) hC dX1_settle_30 (by decide) (fun h30 => ?_) (fun h30 => ?_)
          · skip
            have hk : zst I i = true ∨ fxFix sm (I 93 i) = false := Or.inl (zst_t h30)
            refine z_iinc (pc := 76) (v := nI (i + 1)) (lv' := [(3, .int (nI (i + 1))), (4, .int (I 93 i)), (0, .ref (g.1 83)), (1, .long sm)]) hC 1 dX1_settle_76 rfl (nI_1 i) (by decide) rfl ?_
            refine z_goto (pc := 79) (tgt := 2) hC dX1_settle_79 (by decide) ?_
            rw [← zsetl_k I sm hk]
            refine z_lvs (lv' := [(3, .int (nI (i + 1))), (0, .ref (g.1 83)), (1, .long sm)]) [0, 2, 3] rfl ?_
            exact ih (i + 1) (by omega) (by omega)
          · skip
            have gz := zst_f h30
            refine z_lload_n (pc := 33) hC 3 dX1_settle_33 rfl rfl ?_
            refine z_lconst (pc := 34) (v := 0) hC dX1_settle_34 rfl ?_
            refine z_lcmp (pc := 35) hC dX1_settle_35 ?_
            refine z_if_eq (pc := 36) (tgt := 58) hC dX1_settle_36 (by decide) (fun h36 => ?_) (fun h36 => ?_)
            · skip
              have hfx : fxFix sm (I 93 i) = true := by unfold fxFix; rw [if_pos (zlc_eq h36)]
              refine z_aload_n (pc := 58) hC 2 dX1_settle_58 rfl rfl z_isr_r ?_
              refine z_gF (pc := 59) hC 1 6 (t := 92) rfl (z_lt hC (by decide)) rfl inX1 (by decide) rfl zm_1_165 rfl dX1_settle_59 ?_
              refine z_iload_n (pc := 62) hC 1 dX1_settle_62 rfl rfl ?_
              refine z_dup2 (pc := 63) hC dX1_settle_63 rfl rfl ?_
              refine z_iaN (pc := 64) hC i (x := I 92 i) rfl (z_lt hC (by decide)) rfl (by omega) (by decide) (zsetl_g _ _ (Nat.le_refl _)) dX1_settle_64 ?_
              refine z_iload (pc := 65) hC 0 dX1_settle_65 rfl ?_
              refine z_iadd (pc := 67) hC dX1_settle_67 ?_
              refine z_isN (pc := 68) hC i rfl (z_lt hC (by decide)) rfl (by omega) (by decide) dX1_settle_68 ?_
              refine z_aload_n (pc := 69) hC 2 dX1_settle_69 rfl rfl z_isr_r ?_
              refine z_gF (pc := 70) hC 1 8 (t := 94) rfl (z_lt hC (by decide)) rfl inX1 (by decide) rfl zm_1_167 rfl dX1_settle_70 ?_
              refine z_iload_n (pc := 73) hC 1 dX1_settle_73 rfl rfl ?_
              refine z_iconst (pc := 74) (v := 1) hC dX1_settle_74 rfl ?_
              refine z_zsN (pc := 75) hC i rfl (z_lt hC (by decide)) rfl (by omega) (by decide) (Or.inr rfl) dX1_settle_75 ?_
              refine z_iinc (pc := 76) (v := nI (i + 1)) (lv' := [(3, .int (nI (i + 1))), (4, .int (I 93 i)), (0, .ref (g.1 83)), (1, .long sm)]) hC 1 dX1_settle_76 rfl (nI_1 i) (by decide) rfl ?_
              refine z_goto (pc := 79) (tgt := 2) hC dX1_settle_79 (by decide) ?_
              rw [zsetl_s I sm gz hfx]
              refine z_lvs (lv' := [(3, .int (nI (i + 1))), (0, .ref (g.1 83)), (1, .long sm)]) [0, 2, 3] rfl ?_
              exact ih (i + 1) (by omega) (by omega)
            · skip
              have q0 := zlc_ne h36
              refine z_lload_n (pc := 39) hC 3 dX1_settle_39 rfl rfl ?_
              refine z_lconst (pc := 40) (v := 0) hC dX1_settle_40 rfl ?_
              refine z_lcmp (pc := 41) hC dX1_settle_41 ?_
              refine z_if_le (pc := 42) (tgt := 53) hC dX1_settle_42 (by decide) (fun h42 => ?_) (fun h42 => ?_)
              · skip
                have g42 := Int32.not_lt.mpr h42
                have q1 := zlc_le h42
                refine z_iload (pc := 53) hC 0 dX1_settle_53 rfl ?_
                refine z_if_ge (pc := 55) (tgt := 76) hC dX1_settle_55 (by decide) (fun h55 => ?_) (fun h55 => ?_)
                · skip
                  have g55 := Int32.not_lt.mpr h55
                  have hk : zst I i = true ∨ fxFix sm (I 93 i) = false := Or.inr (by unfold fxFix; rw [if_neg q0, if_neg q1]; exact decide_eq_false g55)
                  refine z_iinc (pc := 76) (v := nI (i + 1)) (lv' := [(3, .int (nI (i + 1))), (4, .int (I 93 i)), (0, .ref (g.1 83)), (1, .long sm)]) hC 1 dX1_settle_76 rfl (nI_1 i) (by decide) rfl ?_
                  refine z_goto (pc := 79) (tgt := 2) hC dX1_settle_79 (by decide) ?_
                  rw [← zsetl_k I sm hk]
                  refine z_lvs (lv' := [(3, .int (nI (i + 1))), (0, .ref (g.1 83)), (1, .long sm)]) [0, 2, 3] rfl ?_
                  exact ih (i + 1) (by omega) (by omega)
                · skip
                  have g55 := Int32.not_le.mp h55
                  have hfx : fxFix sm (I 93 i) = true := by unfold fxFix; rw [if_neg q0, if_neg q1]; exact decide_eq_true g55
                  refine z_aload_n (pc := 58) hC 2 dX1_settle_58 rfl rfl z_isr_r ?_
                  refine z_gF (pc := 59) hC 1 6 (t := 92) rfl (z_lt hC (by decide)) rfl inX1 (by decide) rfl zm_1_165 rfl dX1_settle_59 ?_
                  refine z_iload_n (pc := 62) hC 1 dX1_settle_62 rfl rfl ?_
                  refine z_dup2 (pc := 63) hC dX1_settle_63 rfl rfl ?_
                  refine z_iaN (pc := 64) hC i (x := I 92 i) rfl (z_lt hC (by decide)) rfl (by omega) (by decide) (zsetl_g _ _ (Nat.le_refl _)) dX1_settle_64 ?_
                  refine z_iload (pc := 65) hC 0 dX1_settle_65 rfl ?_
                  refine z_iadd (pc := 67) hC dX1_settle_67 ?_
                  refine z_isN (pc := 68) hC i rfl (z_lt hC (by decide)) rfl (by omega) (by decide) dX1_settle_68 ?_
                  refine z_aload_n (pc := 69) hC 2 dX1_settle_69 rfl rfl z_isr_r ?_
                  refine z_gF (pc := 70) hC 1 8 (t := 94) rfl (z_lt hC (by decide)) rfl inX1 (by decide) rfl zm_1_167 rfl dX1_settle_70 ?_
                  refine z_iload_n (pc := 73) hC 1 dX1_settle_73 rfl rfl ?_
                  refine z_iconst (pc := 74) (v := 1) hC dX1_settle_74 rfl ?_
                  refine z_zsN (pc := 75) hC i rfl (z_lt hC (by decide)) rfl (by omega) (by decide) (Or.inr rfl) dX1_settle_75 ?_
                  refine z_iinc (pc := 76) (v := nI (i + 1)) (lv' := [(3, .int (nI (i + 1))), (4, .int (I 93 i)), (0, .ref (g.1 83)), (1, .long sm)]) hC 1 dX1_settle_76 rfl (nI_1 i) (by decide) rfl ?_
                  refine z_goto (pc := 79) (tgt := 2) hC dX1_settle_79 (by decide) ?_
                  rw [zsetl_s I sm gz hfx]
                  refine z_lvs (lv' := [(3, .int (nI (i + 1))), (0, .ref (g.1 83)), (1, .long sm)]) [0, 2, 3] rfl ?_
                  exact ih (i + 1) (by omega) (by omega)
              · skip
                have g42 := Int32.not_le.mp h42
                have q1 : 0 < sm := by rcases Classical.em (0 < sm) with q | q; exact q; exact absurd (zlc_nle q) h42
                refine z_iload (pc := 45) hC 0 dX1_settle_45 rfl ?_
                refine z_if_le (pc := 47) (tgt := 76) hC dX1_settle_47 (by decide) (fun h47 => ?_) (fun h47 => ?_)
                · skip
                  have g47 := Int32.not_lt.mpr h47
                  have hk : zst I i = true ∨ fxFix sm (I 93 i) = false := Or.inr (by unfold fxFix; rw [if_neg q0, if_pos q1]; exact decide_eq_false g47)
                  refine z_iinc (pc := 76) (v := nI (i + 1)) (lv' := [(3, .int (nI (i + 1))), (4, .int (I 93 i)), (0, .ref (g.1 83)), (1, .long sm)]) hC 1 dX1_settle_76 rfl (nI_1 i) (by decide) rfl ?_
                  refine z_goto (pc := 79) (tgt := 2) hC dX1_settle_79 (by decide) ?_
                  rw [← zsetl_k I sm hk]
                  refine z_lvs (lv' := [(3, .int (nI (i + 1))), (0, .ref (g.1 83)), (1, .long sm)]) [0, 2, 3] rfl ?_
                  exact ih (i + 1) (by omega) (by omega)
                · skip
                  have g47 := Int32.not_le.mp h47
                  have hfx : fxFix sm (I 93 i) = true := by unfold fxFix; rw [if_neg q0, if_pos q1]; exact decide_eq_true g47
                  refine z_goto (pc := 50) (tgt := 58) hC dX1_settle_50 (by decide) ?_
                  refine z_aload_n (pc := 58) hC 2 dX1_settle_58 rfl rfl z_isr_r ?_
                  refine z_gF (pc := 59) hC 1 6 (t := 92) rfl (z_lt hC (by decide)) rfl inX1 (by decide) rfl zm_1_165 rfl dX1_settle_59 ?_
                  refine z_iload_n (pc := 62) hC 1 dX1_settle_62 rfl rfl ?_
                  refine z_dup2 (pc := 63) hC dX1_settle_63 rfl rfl ?_
                  refine z_iaN (pc := 64) hC i (x := I 92 i) rfl (z_lt hC (by decide)) rfl (by omega) (by decide) (zsetl_g _ _ (Nat.le_refl _)) dX1_settle_64 ?_
                  refine z_iload (pc := 65) hC 0 dX1_settle_65 rfl ?_
                  refine z_iadd (pc := 67) hC dX1_settle_67 ?_
                  refine z_isN (pc := 68) hC i rfl (z_lt hC (by decide)) rfl (by omega) (by decide) dX1_settle_68 ?_
                  refine z_aload_n (pc := 69) hC 2 dX1_settle_69 rfl rfl z_isr_r ?_
                  refine z_gF (pc := 70) hC 1 8 (t := 94) rfl (z_lt hC (by decide)) rfl inX1 (by decide) rfl zm_1_167 rfl dX1_settle_70 ?_
                  refine z_iload_n (pc := 73) hC 1 dX1_settle_73 rfl rfl ?_
                  refine z_iconst (pc := 74) (v := 1) hC dX1_settle_74 rfl ?_
                  refine z_zsN (pc := 75) hC i rfl (z_lt hC (by decide)) rfl (by omega) (by decide) (Or.inr rfl) dX1_settle_75 ?_
                  refine z_iinc (pc := 76) (v := nI (i + 1)) (lv' := [(3, .int (nI (i + 1))), (4, .int (I 93 i)), (0, .ref (g.1 83)), (1, .long sm)]) hC 1 dX1_settle_76 rfl (nI_1 i) (by decide) rfl ?_
                  refine z_goto (pc := 79) (tgt := 2) hC dX1_settle_79 (by decide) ?_
                  rw [zsetl_s I sm gz hfx]
                  refine z_lvs (lv' := [(3, .int (nI (i + 1))), (0, .ref (g.1 83)), (1, .long sm)]) [0, 2, 3] rfl ?_
                  exact ih (i + 1) (by omega) (by omega)
  have L := L2 (n + 1) 0 (by omega) (by omega)
  rw [zsetl_0] at L
  exact L
end ZFM
