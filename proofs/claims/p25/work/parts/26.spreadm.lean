section ZSM
set_option maxHeartbeats 4000000 in
set_option maxRecDepth 100000 in
theorem kX2_spreadColumn (lx : Launch) (g : zG) (N : Nat) (I : Nat → Nat → Int32) (P : Nat → Nat → Option Nat) (J : Nat → Nat → Int64) {σ : zS} (ht : zTr σ I P) (hl : zLk σ I P) (p : Nat) (he : sEx σ p = true) (W : Int32) (hW : I p 14 = W) (nw : Nat → Int32) (hnw : ∀ k, k ∈ sKids σ p → I k 10 = nw k) (hcol : sSt σ p 0 = 1) : z_Ct lx yX2_spreadColumn (zT yX2_spreadColumn cX2_spreadColumn 5 (Option.none : Option FieldType)) ({ frames := 2, cells := 0, slots := 0, locals := 44 } : Room) g N I P J [.ref (g.1 p)] (zsprQ σ nw p W I P J) 0 0 := by
  refine z_of (by decide) (Nat.le_of_ble_eq_true rfl) (lv0 := [(0, .ref (g.1 p))]) rfl ?_
  intro C hlx hC hE hRm
  have hC : zX C cX2_spreadColumn 5 RX2 (zT yX2_spreadColumn cX2_spreadColumn 5 (Option.none : Option FieldType)) g N := hC
  refine z_iconst (pc := 0) (v := 0) hC dX2_spreadColumn_0 rfl ?_
  refine z_istore_n (pc := 1) (lv' := [(1, .int 0), (0, .ref (g.1 p))]) hC dX2_spreadColumn_1 rfl (by decide) rfl ?_
  refine z_aload_n (pc := 2) hC 1 dX2_spreadColumn_2 rfl rfl z_isr_r ?_
  refine z_gP (pc := 3) hC 0 6 (v := va_rf (Option.map g.1 ((sKids σ p)[0]?))) (z_shb (zTr_lt ht he)) (z_ltb hC (zTr_lt ht he)) rfl inX0 (by decide) rfl zm_1_52 (by rw [(zLk_seg hl (zTr_lt ht he)).2]) dX2_spreadColumn_3 ?_
  refine z_astore_n (pc := 6) (lv' := [(2, va_rf (Option.map g.1 ((sKids σ p)[0]?))), (1, .int 0), (0, .ref (g.1 p))]) hC dX2_spreadColumn_6 rfl (by decide) (z_isr_o _) rfl ?_
  have L7 : ∀ (zf : Nat) (i : Nat) (Ir : Nat → Nat → Int32) (hi : i ≤ kn σ p) (hset : zsetv [14, 17] (sKids σ p) 0 i (fun k j => if j = 14 then sKW σ nw p W k else nI (sLn σ nw p W k)) I Ir), kn σ p - i < zf → zJ C g N 5 0 0 Ir P J 7 [(2, va_rf (Option.map g.1 ((sKids σ p)[i]?))), (1, .int (nI i)), (0, .ref (g.1 p))] [] := by
    intro zf
    induction zf with
    | zero =>
      intro i Ir hi hset hn2
      exact absurd hn2 (Nat.not_lt_zero _)
    | succ zf ih =>
      intro i Ir hi hset hn2
      have htr := ht.lay (hset.lay ht.1 (by decide))
      refine z_aload_n (pc := 7) hC 0 dX2_spreadColumn_7 rfl rfl (z_isr_o _) ?_
      refine z_ifnull (pc := 8) (tgt := 87) hC dX2_spreadColumn_8 (by decide) (fun h8 => ?_) (fun a8 h8 => ?_)
      · skip
        rw [h8]
        show zJ C g N 5 0 0 Ir P J 87 [(2, .null), (1, .int (nI i)), (0, .ref (g.1 p))] []
        have ei8 : i = kn σ p := Nat.le_antisymm hi (List.getElem?_eq_none_iff.mp h8)
        subst ei8
        refine z_aload_n (pc := 87) hC 2 dX2_spreadColumn_87 rfl rfl z_isr_r ?_
        refine z_iload_n (pc := 88) hC 1 dX2_spreadColumn_88 rfl rfl ?_
        refine z_pI (pc := 89) hC 0 16 (z_shb (zTr_lt ht he)) (z_ltb hC (zTr_lt ht he)) rfl inX0 tyX0_ok nmX0 (by decide) rfl zm_1_78 rfl rfl rfl dX2_spreadColumn_89 ?_
        exact z_vret (pc := 92) hC hE dX2_spreadColumn_92 (zspr_col ht.1 hcol hset)
      · skip
        rw [h8]
        show zJ C g N 5 0 0 Ir P J 11 [(2, .ref (g.1 a8)), (1, .int (nI i)), (0, .ref (g.1 p))] []
        obtain ⟨hkd8, hik8, hmem8⟩ := sKids_get h8
        have hx8 := sKids_lt ht.1 hmem8
        refine z_aload_n (pc := 11) hC 2 dX2_spreadColumn_11 rfl rfl z_isr_r ?_
        refine z_cV (pc := 12) (st := []) hC [] (kSX0_innerWidth C.2.1 g N Ir P J htr p he W ((hset.own ht.1 14).trans hW)) (z_shb (zTr_lt ht he)) (z_ltb hC (zTr_lt ht he)) rfl zkX0_innerWidth zm_2_154 ⟨rfl, rfl⟩ rfl rfl hRm ⟨Nat.le_of_ble_eq_true rfl, Nat.le_of_ble_eq_true rfl⟩ (Nat.le_of_ble_eq_true rfl) ⟨Nat.zero_le _, Nat.zero_le _⟩ dX2_spreadColumn_12 ?_
        refine z_aload_n (pc := 15) hC 0 dX2_spreadColumn_15 rfl rfl z_isr_r ?_
        refine z_cV (pc := 16) (st := [.int (sIn W (sSt σ p 5))]) hC [] (kX0_margins C.2.1 g N Ir P J a8 (zTr_lt ht hx8.2.2.1) (sSt σ a8 6) (zTr_st htr hx8.2.2.1 (by decide))) (z_shb (zTr_lt ht hx8.2.2.1)) (z_ltb hC (zTr_lt ht hx8.2.2.1)) rfl zkX0_margins zm_2_129 ⟨rfl, rfl⟩ rfl rfl hRm ⟨Nat.le_of_ble_eq_true rfl, Nat.le_of_ble_eq_true rfl⟩ (Nat.le_of_ble_eq_true rfl) ⟨Nat.zero_le _, Nat.zero_le _⟩ dX2_spreadColumn_16 ?_
        refine z_isub (pc := 19) hC dX2_spreadColumn_19 ?_
        refine z_iconst (pc := 20) (v := 0) hC dX2_spreadColumn_20 rfl ?_
        refine z_mmax (pc := 21) hC (z_tw zm_2_133) (z_tw zm_2_134) (z_tw zm_1_12) (z_tw zm_2_135) (by rw [hRm]; exact Nat.le_of_ble_eq_true rfl) (by rw [hRm]; exact (Nat.le_of_ble_eq_true rfl)) (by rw [hRm]; exact Nat.zero_le _) (by rw [hRm]; exact Nat.zero_le _) dX2_spreadColumn_21 ?_
        refine z_istore_n (pc := 24) (lv' := [(3, .int (if (sIn W (sSt σ p 5)) - (2 * sSt σ a8 6) < 0 then 0 else (sIn W (sSt σ p 5)) - (2 * sSt σ a8 6))), (2, .ref (g.1 a8)), (1, .int (nI i)), (0, .ref (g.1 p))]) hC dX2_spreadColumn_24 rfl (by decide) rfl ?_
        refine z_aload_n (pc := 25) hC 1 dX2_spreadColumn_25 rfl rfl z_isr_r ?_
        refine z_bipush (pc := 26) (v := 10) hC dX2_spreadColumn_26 rfl ?_
        refine z_cV (pc := 28) (st := []) hC [.int 10] (kX0_of C.2.1 g N Ir P J a8 10 (zTr_lt ht hx8.2.2.1) (by decide) 10 rfl (sSt σ a8 10) (zTr_st htr hx8.2.2.1 (by decide))) (z_shb (zTr_lt ht hx8.2.2.1)) (z_ltb hC (zTr_lt ht hx8.2.2.1)) rfl zkX0_of zm_2_125 ⟨rfl, rfl⟩ rfl rfl hRm ⟨Nat.le_of_ble_eq_true rfl, Nat.le_of_ble_eq_true rfl⟩ (Nat.le_of_ble_eq_true rfl) ⟨Nat.zero_le _, Nat.zero_le _⟩ dX2_spreadColumn_28 ?_
        refine z_istore (pc := 31) (lv' := [(4, .int (sSt σ a8 10)), (3, .int (if (sIn W (sSt σ p 5)) - (2 * sSt σ a8 6) < 0 then 0 else (sIn W (sSt σ p 5)) - (2 * sSt σ a8 6))), (2, .ref (g.1 a8)), (1, .int (nI i)), (0, .ref (g.1 p))]) hC dX2_spreadColumn_31 (by decide) rfl ?_
        refine z_iload (pc := 33) hC 0 dX2_spreadColumn_33 rfl ?_
        refine z_iconst (pc := 35) (v := (-1)) hC dX2_spreadColumn_35 rfl ?_
        refine z_icmp_ne (pc := 36) (tgt := 61) hC dX2_spreadColumn_36 (by decide) (fun h36 => ?_) (fun h36 => ?_)
        · skip
          refine z_aload_n (pc := 61) hC 2 dX2_spreadColumn_61 rfl rfl z_isr_r ?_
          refine z_aload_n (pc := 62) hC 2 dX2_spreadColumn_62 rfl rfl z_isr_r ?_
          refine z_iload (pc := 63) hC 0 dX2_spreadColumn_63 rfl ?_
          refine z_cV (pc := 65) (st := [.ref (g.1 a8)]) hC [.int (sSt σ a8 10)] (kSX0_limitWidth C.2.1 g N Ir P J htr a8 hx8.2.2.1 (sSt σ a8 10)) (z_shb (zTr_lt ht hx8.2.2.1)) (z_ltb hC (zTr_lt ht hx8.2.2.1)) rfl zkX0_limitWidth zm_2_140 ⟨rfl, rfl⟩ rfl rfl hRm ⟨Nat.le_of_ble_eq_true rfl, Nat.le_of_ble_eq_true rfl⟩ (Nat.le_of_ble_eq_true rfl) ⟨Nat.zero_le _, Nat.zero_le _⟩ dX2_spreadColumn_65 ?_
          rw [show sLimW σ a8 (sSt σ a8 10) = sKW σ nw p W i from zcol_w hcol hkd8 hx8.2.2.2.2 (by rw [if_neg h36])]
          refine z_pI (pc := 68) hC 0 14 (z_shb (zTr_lt ht hx8.2.2.1)) (z_ltb hC (zTr_lt ht hx8.2.2.1)) rfl inX0 tyX0_ok nmX0 (by decide) rfl zm_1_72 rfl rfl rfl dX2_spreadColumn_68 ?_
          refine z_aload_n (pc := 71) hC 2 dX2_spreadColumn_71 rfl rfl z_isr_r ?_
          refine z_iload_n (pc := 72) hC 3 dX2_spreadColumn_72 rfl rfl ?_
          refine z_pI (pc := 73) hC 0 17 (z_shb (zTr_lt ht hx8.2.2.1)) (z_ltb hC (zTr_lt ht hx8.2.2.1)) rfl inX0 tyX0_ok nmX0 (by decide) rfl zm_1_80 rfl rfl rfl dX2_spreadColumn_73 ?_
          refine z_iinc (pc := 76) (v := nI (i + 1)) (lv' := [(1, .int (nI (i + 1))), (4, .int (sSt σ a8 10)), (3, .int (if (sIn W (sSt σ p 5)) - (2 * sSt σ a8 6) < 0 then 0 else (sIn W (sSt σ p 5)) - (2 * sSt σ a8 6))), (2, .ref (g.1 a8)), (0, .ref (g.1 p))]) hC 3 dX2_spreadColumn_76 rfl (nI_1 i) (by decide) rfl ?_
          refine z_aload_n (pc := 79) hC 3 dX2_spreadColumn_79 rfl rfl z_isr_r ?_
          refine z_gP (pc := 80) hC 0 7 (v := va_rf (Option.map g.1 ((sKids σ p)[i + 1]?))) (z_shb (zTr_lt ht hx8.2.2.1)) (z_ltb hC (zTr_lt ht hx8.2.2.1)) rfl inX0 (by decide) rfl zm_1_55 (by rw [(zLk_seg hl (zTr_lt ht he)).1 i a8 h8]) dX2_spreadColumn_80 ?_
          refine z_astore_n (pc := 83) (lv' := [(2, va_rf (Option.map g.1 ((sKids σ p)[i + 1]?))), (1, .int (nI (i + 1))), (4, .int (sSt σ a8 10)), (3, .int (if (sIn W (sSt σ p 5)) - (2 * sSt σ a8 6) < 0 then 0 else (sIn W (sSt σ p 5)) - (2 * sSt σ a8 6))), (0, .ref (g.1 p))]) hC dX2_spreadColumn_83 rfl (by decide) (z_isr_o _) rfl ?_
          refine z_goto (pc := 84) (tgt := 7) hC dX2_spreadColumn_84 (by decide) ?_
          refine z_lvs (lv' := [(2, va_rf (Option.map g.1 ((sKids σ p)[i + 1]?))), (1, .int (nI (i + 1))), (0, .ref (g.1 p))]) [0, 1, 4] rfl ?_
          exact ih (i + 1) _ (by omega) (zsetv_2 sKids_nd h8 (Nat.zero_le _) hset (by decide) rfl (by show nI i = nI (sLn σ nw p W i); rw [sLn_col hcol])) (by omega)
        · skip
          refine z_aload_n (pc := 39) hC 2 dX2_spreadColumn_39 rfl rfl z_isr_r ?_
          refine z_cV (pc := 40) (st := []) hC [] (kSX0_alignment C.2.1 g N Ir P J htr a8 hx8.2.2.1 hx8.2.2.2.2) (z_shb (zTr_lt ht hx8.2.2.1)) (z_ltb hC (zTr_lt ht hx8.2.2.1)) rfl zkX0_alignment zm_2_159 ⟨rfl, rfl⟩ rfl rfl hRm ⟨Nat.le_of_ble_eq_true rfl, Nat.le_of_ble_eq_true rfl⟩ (Nat.le_of_ble_eq_true rfl) ⟨Nat.zero_le _, Nat.zero_le _⟩ dX2_spreadColumn_40 ?_
          refine z_iconst (pc := 43) (v := 3) hC dX2_spreadColumn_43 rfl ?_
          refine z_icmp_ne (pc := 44) (tgt := 51) hC dX2_spreadColumn_44 (by decide) (fun h44 => ?_) (fun h44 => ?_)
          · skip
            refine z_iload_n (pc := 51) hC 1 dX2_spreadColumn_51 rfl rfl ?_
            refine z_aload_n (pc := 52) hC 2 dX2_spreadColumn_52 rfl rfl z_isr_r ?_
            refine z_gI (pc := 53) hC 0 10 (x := nw a8) (z_shb (zTr_lt ht hx8.2.2.1)) (z_ltb hC (zTr_lt ht hx8.2.2.1)) rfl inX0 (by decide) rfl zm_1_62 ((hset.oth (by decide)).trans (hnw a8 hmem8)) dX2_spreadColumn_53 ?_
            refine z_mmin (pc := 56) hC (z_tw zm_2_163) (z_tw zm_2_164) (z_tw zm_1_12) (z_tw zm_2_165) (by rw [hRm]; exact Nat.le_of_ble_eq_true rfl) (by rw [hRm]; exact (Nat.le_of_ble_eq_true rfl)) (by rw [hRm]; exact Nat.zero_le _) (by rw [hRm]; exact Nat.zero_le _) dX2_spreadColumn_56 ?_
            refine z_istore (pc := 59) (lv' := [(4, .int (if nw a8 < (if (sIn W (sSt σ p 5)) - (2 * sSt σ a8 6) < 0 then 0 else (sIn W (sSt σ p 5)) - (2 * sSt σ a8 6)) then nw a8 else (if (sIn W (sSt σ p 5)) - (2 * sSt σ a8 6) < 0 then 0 else (sIn W (sSt σ p 5)) - (2 * sSt σ a8 6)))), (3, .int (if (sIn W (sSt σ p 5)) - (2 * sSt σ a8 6) < 0 then 0 else (sIn W (sSt σ p 5)) - (2 * sSt σ a8 6))), (2, .ref (g.1 a8)), (1, .int (nI i)), (0, .ref (g.1 p))]) hC dX2_spreadColumn_59 (by decide) rfl ?_
            refine z_aload_n (pc := 61) hC 2 dX2_spreadColumn_61 rfl rfl z_isr_r ?_
            refine z_aload_n (pc := 62) hC 2 dX2_spreadColumn_62 rfl rfl z_isr_r ?_
            refine z_iload (pc := 63) hC 0 dX2_spreadColumn_63 rfl ?_
            refine z_cV (pc := 65) (st := [.ref (g.1 a8)]) hC [.int (if nw a8 < (if (sIn W (sSt σ p 5)) - (2 * sSt σ a8 6) < 0 then 0 else (sIn W (sSt σ p 5)) - (2 * sSt σ a8 6)) then nw a8 else (if (sIn W (sSt σ p 5)) - (2 * sSt σ a8 6) < 0 then 0 else (sIn W (sSt σ p 5)) - (2 * sSt σ a8 6)))] (kSX0_limitWidth C.2.1 g N Ir P J htr a8 hx8.2.2.1 (if nw a8 < (if (sIn W (sSt σ p 5)) - (2 * sSt σ a8 6) < 0 then 0 else (sIn W (sSt σ p 5)) - (2 * sSt σ a8 6)) then nw a8 else (if (sIn W (sSt σ p 5)) - (2 * sSt σ a8 6) < 0 then 0 else (sIn W (sSt σ p 5)) - (2 * sSt σ a8 6)))) (z_shb (zTr_lt ht hx8.2.2.1)) (z_ltb hC (zTr_lt ht hx8.2.2.1)) rfl zkX0_limitWidth zm_2_140 ⟨rfl, rfl⟩ rfl rfl hRm ⟨Nat.le_of_ble_eq_true rfl, Nat.le_of_ble_eq_true rfl⟩ (Nat.le_of_ble_eq_true rfl) ⟨Nat.zero_le _, Nat.zero_le _⟩ dX2_spreadColumn_65 ?_
            rw [show sLimW σ a8 (if nw a8 < (if (sIn W (sSt σ p 5)) - (2 * sSt σ a8 6) < 0 then 0 else (sIn W (sSt σ p 5)) - (2 * sSt σ a8 6)) then nw a8 else (if (sIn W (sSt σ p 5)) - (2 * sSt σ a8 6) < 0 then 0 else (sIn W (sSt σ p 5)) - (2 * sSt σ a8 6))) = sKW σ nw p W i from zcol_w hcol hkd8 hx8.2.2.2.2 (by rw [if_pos h36, if_neg h44]; rfl)]
            refine z_pI (pc := 68) hC 0 14 (z_shb (zTr_lt ht hx8.2.2.1)) (z_ltb hC (zTr_lt ht hx8.2.2.1)) rfl inX0 tyX0_ok nmX0 (by decide) rfl zm_1_72 rfl rfl rfl dX2_spreadColumn_68 ?_
            refine z_aload_n (pc := 71) hC 2 dX2_spreadColumn_71 rfl rfl z_isr_r ?_
            refine z_iload_n (pc := 72) hC 3 dX2_spreadColumn_72 rfl rfl ?_
            refine z_pI (pc := 73) hC 0 17 (z_shb (zTr_lt ht hx8.2.2.1)) (z_ltb hC (zTr_lt ht hx8.2.2.1)) rfl inX0 tyX0_ok nmX0 (by decide) rfl zm_1_80 rfl rfl rfl dX2_spreadColumn_73 ?_
            refine z_iinc (pc := 76) (v := nI (i + 1)) (lv' := [(1, .int (nI (i + 1))), (4, .int (if nw a8 < (if (sIn W (sSt σ p 5)) - (2 * sSt σ a8 6) < 0 then 0 else (sIn W (sSt σ p 5)) - (2 * sSt σ a8 6)) then nw a8 else (if (sIn W (sSt σ p 5)) - (2 * sSt σ a8 6) < 0 then 0 else (sIn W (sSt σ p 5)) - (2 * sSt σ a8 6)))), (3, .int (if (sIn W (sSt σ p 5)) - (2 * sSt σ a8 6) < 0 then 0 else (sIn W (sSt σ p 5)) - (2 * sSt σ a8 6))), (2, .ref (g.1 a8)), (0, .ref (g.1 p))]) hC 3 dX2_spreadColumn_76 rfl (nI_1 i) (by decide) rfl ?_
            refine z_aload_n (pc := 79) hC 3 dX2_spreadColumn_79 rfl rfl z_isr_r ?_
            refine z_gP (pc := 80) hC 0 7 (v := va_rf (Option.map g.1 ((sKids σ p)[i + 1]?))) (z_shb (zTr_lt ht hx8.2.2.1)) (z_ltb hC (zTr_lt ht hx8.2.2.1)) rfl inX0 (by decide) rfl zm_1_55 (by rw [(zLk_seg hl (zTr_lt ht he)).1 i a8 h8]) dX2_spreadColumn_80 ?_
            refine z_astore_n (pc := 83) (lv' := [(2, va_rf (Option.map g.1 ((sKids σ p)[i + 1]?))), (1, .int (nI (i + 1))), (4, .int (if nw a8 < (if (sIn W (sSt σ p 5)) - (2 * sSt σ a8 6) < 0 then 0 else (sIn W (sSt σ p 5)) - (2 * sSt σ a8 6)) then nw a8 else (if (sIn W (sSt σ p 5)) - (2 * sSt σ a8 6) < 0 then 0 else (sIn W (sSt σ p 5)) - (2 * sSt σ a8 6)))), (3, .int (if (sIn W (sSt σ p 5)) - (2 * sSt σ a8 6) < 0 then 0 else (sIn W (sSt σ p 5)) - (2 * sSt σ a8 6))), (0, .ref (g.1 p))]) hC dX2_spreadColumn_83 rfl (by decide) (z_isr_o _) rfl ?_
            refine z_goto (pc := 84) (tgt := 7) hC dX2_spreadColumn_84 (by decide) ?_
            refine z_lvs (lv' := [(2, va_rf (Option.map g.1 ((sKids σ p)[i + 1]?))), (1, .int (nI (i + 1))), (0, .ref (g.1 p))]) [0, 1, 4] rfl ?_
            exact ih (i + 1) _ (by omega) (zsetv_2 sKids_nd h8 (Nat.zero_le _) hset (by decide) rfl (by show nI i = nI (sLn σ nw p W i); rw [sLn_col hcol])) (by omega)
          · skip
            refine z_iload_n (pc := 47) hC 1 dX2_spreadColumn_47 rfl rfl ?_
            refine z_goto (pc := 48) (tgt := 59) hC dX2_spreadColumn_48 (by decide) ?_
            refine z_istore (pc := 59) (lv' := [(4, .int (if (sIn W (sSt σ p 5)) - (2 * sSt σ a8 6) < 0 then 0 else (sIn W (sSt σ p 5)) - (2 * sSt σ a8 6))), (3, .int (if (sIn W (sSt σ p 5)) - (2 * sSt σ a8 6) < 0 then 0 else (sIn W (sSt σ p 5)) - (2 * sSt σ a8 6))), (2, .ref (g.1 a8)), (1, .int (nI i)), (0, .ref (g.1 p))]) hC dX2_spreadColumn_59 (by decide) rfl ?_
            refine z_aload_n (pc := 61) hC 2 dX2_spreadColumn_61 rfl rfl z_isr_r ?_
            refine z_aload_n (pc := 62) hC 2 dX2_spreadColumn_62 rfl rfl z_isr_r ?_
            refine z_iload (pc := 63) hC 0 dX2_spreadColumn_63 rfl ?_
            refine z_cV (pc := 65) (st := [.ref (g.1 a8)]) hC [.int (if (sIn W (sSt σ p 5)) - (2 * sSt σ a8 6) < 0 then 0 else (sIn W (sSt σ p 5)) - (2 * sSt σ a8 6))] (kSX0_limitWidth C.2.1 g N Ir P J htr a8 hx8.2.2.1 (if (sIn W (sSt σ p 5)) - (2 * sSt σ a8 6) < 0 then 0 else (sIn W (sSt σ p 5)) - (2 * sSt σ a8 6))) (z_shb (zTr_lt ht hx8.2.2.1)) (z_ltb hC (zTr_lt ht hx8.2.2.1)) rfl zkX0_limitWidth zm_2_140 ⟨rfl, rfl⟩ rfl rfl hRm ⟨Nat.le_of_ble_eq_true rfl, Nat.le_of_ble_eq_true rfl⟩ (Nat.le_of_ble_eq_true rfl) ⟨Nat.zero_le _, Nat.zero_le _⟩ dX2_spreadColumn_65 ?_
            rw [show sLimW σ a8 (if (sIn W (sSt σ p 5)) - (2 * sSt σ a8 6) < 0 then 0 else (sIn W (sSt σ p 5)) - (2 * sSt σ a8 6)) = sKW σ nw p W i from zcol_w hcol hkd8 hx8.2.2.2.2 (by rw [if_pos h36, if_pos h44]; rfl)]
            refine z_pI (pc := 68) hC 0 14 (z_shb (zTr_lt ht hx8.2.2.1)) (z_ltb hC (zTr_lt ht hx8.2.2.1)) rfl inX0 tyX0_ok nmX0 (by decide) rfl zm_1_72 rfl rfl rfl dX2_spreadColumn_68 ?_
            refine z_aload_n (pc := 71) hC 2 dX2_spreadColumn_71 rfl rfl z_isr_r ?_
            refine z_iload_n (pc := 72) hC 3 dX2_spreadColumn_72 rfl rfl ?_
            refine z_pI (pc := 73) hC 0 17 (z_shb (zTr_lt ht hx8.2.2.1)) (z_ltb hC (zTr_lt ht hx8.2.2.1)) rfl inX0 tyX0_ok nmX0 (by decide) rfl zm_1_80 rfl rfl rfl dX2_spreadColumn_73 ?_
            refine z_iinc (pc := 76) (v := nI (i + 1)) (lv' := [(1, .int (nI (i + 1))), (4, .int (if (sIn W (sSt σ p 5)) - (2 * sSt σ a8 6) < 0 then 0 else (sIn W (sSt σ p 5)) - (2 * sSt σ a8 6))), (3, .int (if (sIn W (sSt σ p 5)) - (2 * sSt σ a8 6) < 0 then 0 else (sIn W (sSt σ p 5)) - (2 * sSt σ a8 6))), (2, .ref (g.1 a8)), (0, .ref (g.1 p))]) hC 3 dX2_spreadColumn_76 rfl (nI_1 i) (by decide) rfl ?_
            refine z_aload_n (pc := 79) hC 3 dX2_spreadColumn_79 rfl rfl z_isr_r ?_
            refine z_gP (pc := 80) hC 0 7 (v := va_rf (Option.map g.1 ((sKids σ p)[i + 1]?))) (z_shb (zTr_lt ht hx8.2.2.1)) (z_ltb hC (zTr_lt ht hx8.2.2.1)) rfl inX0 (by decide) rfl zm_1_55 (by rw [(zLk_seg hl (zTr_lt ht he)).1 i a8 h8]) dX2_spreadColumn_80 ?_
            refine z_astore_n (pc := 83) (lv' := [(2, va_rf (Option.map g.1 ((sKids σ p)[i + 1]?))), (1, .int (nI (i + 1))), (4, .int (if (sIn W (sSt σ p 5)) - (2 * sSt σ a8 6) < 0 then 0 else (sIn W (sSt σ p 5)) - (2 * sSt σ a8 6))), (3, .int (if (sIn W (sSt σ p 5)) - (2 * sSt σ a8 6) < 0 then 0 else (sIn W (sSt σ p 5)) - (2 * sSt σ a8 6))), (0, .ref (g.1 p))]) hC dX2_spreadColumn_83 rfl (by decide) (z_isr_o _) rfl ?_
            refine z_goto (pc := 84) (tgt := 7) hC dX2_spreadColumn_84 (by decide) ?_
            refine z_lvs (lv' := [(2, va_rf (Option.map g.1 ((sKids σ p)[i + 1]?))), (1, .int (nI (i + 1))), (0, .ref (g.1 p))]) [0, 1, 4] rfl ?_
            exact ih (i + 1) _ (by omega) (zsetv_2 sKids_nd h8 (Nat.zero_le _) hset (by decide) rfl (by show nI i = nI (sLn σ nw p W i); rw [sLn_col hcol])) (by omega)
  exact L7 (kn σ p + 1) 0 _ (Nat.zero_le _) (zsetv_0 _ _ _ _ _) (by omega)
set_option maxHeartbeats 4000000 in
set_option maxRecDepth 100000 in
theorem kX2_breakLines (lx : Launch) (g : zG) (N : Nat) (I : Nat → Nat → Int32) (P : Nat → Nat → Option Nat) (J : Nat → Nat → Int64) {σ : zS} (ht : zTr σ I P) (hl : zLk σ I P) (p : Nat) (he : sEx σ p = true) (W : Int32) (hW : I p 14 = W) (nw : Nat → Int32) (hnw : ∀ k, k ∈ sKids σ p → I k 10 = nw k) (hcol : ¬ sSt σ p 0 = 1) : z_Ct lx yX2_breakLines (zT yX2_breakLines cX2_breakLines 5 (Option.none : Option FieldType)) ({ frames := 2, cells := 0, slots := 0, locals := 44 } : Room) g N I P J [.ref (g.1 p)] (zbrkQ σ nw p W I P J) 0 0 := by
  refine z_of (by decide) (Nat.le_of_ble_eq_true rfl) (lv0 := [(0, .ref (g.1 p))]) rfl ?_
  intro C hlx hC hE hRm
  have hC : zX C cX2_breakLines 5 RX2 (zT yX2_breakLines cX2_breakLines 5 (Option.none : Option FieldType)) g N := hC
  refine z_iconst (pc := 0) (v := 0) hC dX2_breakLines_0 rfl ?_
  refine z_istore_n (pc := 1) (lv' := [(1, .int 0), (0, .ref (g.1 p))]) hC dX2_breakLines_1 rfl (by decide) rfl ?_
  refine z_iconst (pc := 2) (v := 0) hC dX2_breakLines_2 rfl ?_
  refine z_istore_n (pc := 3) (lv' := [(2, .int 0), (1, .int 0), (0, .ref (g.1 p))]) hC dX2_breakLines_3 rfl (by decide) rfl ?_
  refine z_aload_n (pc := 4) hC 2 dX2_breakLines_4 rfl rfl z_isr_r ?_
  refine z_gP (pc := 5) hC 0 6 (v := va_rf (Option.map g.1 ((sKids σ p)[0]?))) (z_shb (zTr_lt ht he)) (z_ltb hC (zTr_lt ht he)) rfl inX0 (by decide) rfl zm_1_52 (by rw [(zLk_seg hl (zTr_lt ht he)).2]) dX2_breakLines_5 ?_
  refine z_astore_n (pc := 8) (lv' := [(3, va_rf (Option.map g.1 ((sKids σ p)[0]?))), (2, .int 0), (1, .int 0), (0, .ref (g.1 p))]) hC dX2_breakLines_8 rfl (by decide) (z_isr_o _) rfl ?_
  have L9 : ∀ (zf : Nat) (i : Nat) (Ir : Nat → Nat → Int32) (hi : i ≤ kn σ p) (hset : zsetv [17] (sKids σ p) 0 i (fun k _ => nI (sLn σ nw p W k)) I Ir), kn σ p - i < zf → zJ C g N 5 0 0 Ir P J 9 [(3, va_rf (Option.map g.1 ((sKids σ p)[i]?))), (2, .int ((zlu σ nw p W i).2)), (1, .int (nI (zlu σ nw p W i).1)), (0, .ref (g.1 p))] [] := by
    intro zf
    induction zf with
    | zero =>
      intro i Ir hi hset hn2
      exact absurd hn2 (Nat.not_lt_zero _)
    | succ zf ih =>
      intro i Ir hi hset hn2
      have htr := ht.lay (hset.lay ht.1 (by decide))
      refine z_aload_n (pc := 9) hC 0 dX2_breakLines_9 rfl rfl (z_isr_o _) ?_
      refine z_ifnull (pc := 10) (tgt := 100) hC dX2_breakLines_10 (by decide) (fun h10 => ?_) (fun a10 h10 => ?_)
      · skip
        rw [h10]
        show zJ C g N 5 0 0 Ir P J 100 [(3, .null), (2, .int ((zlu σ nw p W i).2)), (1, .int (nI (zlu σ nw p W i).1)), (0, .ref (g.1 p))] []
        have ei10 : i = kn σ p := Nat.le_antisymm hi (List.getElem?_eq_none_iff.mp h10)
        subst ei10
        refine z_aload_n (pc := 100) hC 3 dX2_breakLines_100 rfl rfl z_isr_r ?_
        refine z_aload_n (pc := 101) hC 3 dX2_breakLines_101 rfl rfl z_isr_r ?_
        refine z_gP (pc := 102) hC 0 6 (v := va_rf (Option.map g.1 ((sKids σ p)[0]?))) (z_shb (zTr_lt ht he)) (z_ltb hC (zTr_lt ht he)) rfl inX0 (by decide) rfl zm_1_52 (by rw [(zLk_seg hl (zTr_lt ht he)).2]) dX2_breakLines_102 ?_
        refine z_ifnonnull (pc := 105) (tgt := 112) hC dX2_breakLines_105 (by decide) (fun a105 h105 => ?_) (fun h105 => ?_)
        · skip
          refine z_iload_n (pc := 112) hC 2 dX2_breakLines_112 rfl rfl ?_
          refine z_iconst (pc := 113) (v := 1) hC dX2_breakLines_113 rfl ?_
          refine z_iadd (pc := 114) hC dX2_breakLines_114 ?_
          refine z_pI (pc := 115) hC 0 16 (z_shb (zTr_lt ht he)) (z_ltb hC (zTr_lt ht he)) rfl inX0 tyX0_ok nmX0 (by decide) rfl zm_1_78 rfl rfl rfl dX2_breakLines_115 ?_
          exact z_vret (pc := 118) hC hE dX2_breakLines_118 (zbrk_end ht.1 hset (by have hk : 0 < kn σ p := (List.getElem?_eq_some_iff.mp h105).1; unfold sLCn; rw [if_neg (show ¬ kn σ p = 0 by omega), sLn_row hcol, show kn σ p - 1 + 1 = kn σ p by omega]; exact nI_1 _))
        · skip
          refine z_iconst (pc := 108) (v := 0) hC dX2_breakLines_108 rfl ?_
          refine z_goto (pc := 109) (tgt := 115) hC dX2_breakLines_109 (by decide) ?_
          refine z_pI (pc := 115) hC 0 16 (z_shb (zTr_lt ht he)) (z_ltb hC (zTr_lt ht he)) rfl inX0 tyX0_ok nmX0 (by decide) rfl zm_1_78 rfl rfl rfl dX2_breakLines_115 ?_
          exact z_vret (pc := 118) hC hE dX2_breakLines_118 (zbrk_end ht.1 hset (by unfold sLCn; rw [if_pos (show kn σ p = 0 from Nat.le_zero.mp (List.getElem?_eq_none_iff.mp h105))]; rfl))
      · skip
        rw [h10]
        show zJ C g N 5 0 0 Ir P J 13 [(3, .ref (g.1 a10)), (2, .int ((zlu σ nw p W i).2)), (1, .int (nI (zlu σ nw p W i).1)), (0, .ref (g.1 p))] []
        obtain ⟨hkd10, hik10, hmem10⟩ := sKids_get h10
        have hx10 := sKids_lt ht.1 hmem10
        refine z_aload_n (pc := 13) hC 0 dX2_breakLines_13 rfl rfl z_isr_r ?_
        refine z_aload_n (pc := 14) hC 0 dX2_breakLines_14 rfl rfl z_isr_r ?_
        refine z_iconst (pc := 15) (v := 1) hC dX2_breakLines_15 rfl ?_
        refine z_cS (pc := 16) (st := [.ref (g.1 a10)]) hC [.ref (g.1 a10), .int 1] (kSX1_baseOf C.2.1 g N Ir P J htr a10 hx10.2.2.1 true nw (show Ir a10 10 = nw a10 from (hset.oth (by decide)).trans (hnw a10 hmem10))) zkX1_baseOf zm_2_169 ⟨rfl, rfl⟩ rfl rfl hRm ⟨Nat.le_of_ble_eq_true rfl, Nat.le_of_ble_eq_true rfl⟩ (Nat.le_of_ble_eq_true rfl) ⟨Nat.zero_le _, Nat.zero_le _⟩ dX2_breakLines_16 ?_
        refine z_cV (pc := 19) (st := []) hC [.int (sB σ nw a10)] (kSX0_limitWidth C.2.1 g N Ir P J htr a10 hx10.2.2.1 (sB σ nw a10)) (z_shb (zTr_lt ht hx10.2.2.1)) (z_ltb hC (zTr_lt ht hx10.2.2.1)) rfl zkX0_limitWidth zm_2_140 ⟨rfl, rfl⟩ rfl rfl hRm ⟨Nat.le_of_ble_eq_true rfl, Nat.le_of_ble_eq_true rfl⟩ (Nat.le_of_ble_eq_true rfl) ⟨Nat.zero_le _, Nat.zero_le _⟩ dX2_breakLines_19 ?_
        refine z_aload_n (pc := 22) hC 0 dX2_breakLines_22 rfl rfl z_isr_r ?_
        refine z_cV (pc := 23) (st := [.int (sLimW σ a10 (sB σ nw a10))]) hC [] (kX0_margins C.2.1 g N Ir P J a10 (zTr_lt ht hx10.2.2.1) (sSt σ a10 6) (zTr_st htr hx10.2.2.1 (by decide))) (z_shb (zTr_lt ht hx10.2.2.1)) (z_ltb hC (zTr_lt ht hx10.2.2.1)) rfl zkX0_margins zm_2_129 ⟨rfl, rfl⟩ rfl rfl hRm ⟨Nat.le_of_ble_eq_true rfl, Nat.le_of_ble_eq_true rfl⟩ (Nat.le_of_ble_eq_true rfl) ⟨Nat.zero_le _, Nat.zero_le _⟩ dX2_breakLines_23 ?_
        refine z_iadd (pc := 26) hC dX2_breakLines_26 ?_
        rw [show (sLimW σ a10 (sB σ nw a10)) + (2 * sSt σ a10 6) = sSO σ nw p i from sSO_eq hkd10 hx10.2.2.2.2]
        refine z_istore (pc := 27) (lv' := [(4, .int (sSO σ nw p i)), (3, .ref (g.1 a10)), (2, .int ((zlu σ nw p W i).2)), (1, .int (nI (zlu σ nw p W i).1)), (0, .ref (g.1 p))]) hC dX2_breakLines_27 (by decide) rfl ?_
        refine z_aload_n (pc := 29) hC 1 dX2_breakLines_29 rfl rfl z_isr_r ?_
        refine z_aload_n (pc := 30) hC 4 dX2_breakLines_30 rfl rfl z_isr_r ?_
        refine z_gP (pc := 31) hC 0 6 (v := va_rf (Option.map g.1 ((sKids σ p)[0]?))) (z_shb (zTr_lt ht he)) (z_ltb hC (zTr_lt ht he)) rfl inX0 (by decide) rfl zm_1_52 (by rw [(zLk_seg hl (zTr_lt ht he)).2]) dX2_breakLines_31 ?_
        refine z_acmp_ne (pc := 34) (tgt := 43) (x := (some a10)) (y := ((sKids σ p)[0]?)) hC dX2_breakLines_34 (by decide) (fun b q => by cases q; exact z_ltb hC hx10.2.1) (fun b q => z_ltb hC (sKids_lt ht.1 (List.mem_of_getElem? q)).2.1) (fun h34 => ?_) (fun h34 => ?_)
        · skip
          obtain ⟨k, rfl⟩ : ∃ k, i = k + 1 := by
            cases i with
            | zero => exact absurd h10.symm h34
            | succ k => exact ⟨k, rfl⟩
          refine z_aload_n (pc := 43) hC 4 dX2_breakLines_43 rfl rfl z_isr_r ?_
          refine z_cV (pc := 44) (st := []) hC [] (kX0_wraps C.2.1 g N Ir P J p (zTr_lt ht he) (sSt σ p 1) (zTr_st htr he (by decide))) (z_shb (zTr_lt ht he)) (z_ltb hC (zTr_lt ht he)) rfl zkX0_wraps zm_2_173 ⟨rfl, rfl⟩ rfl rfl hRm ⟨Nat.le_of_ble_eq_true rfl, Nat.le_of_ble_eq_true rfl⟩ (Nat.le_of_ble_eq_true rfl) ⟨Nat.zero_le _, Nat.zero_le _⟩ dX2_breakLines_44 ?_
          refine z_if_eq (pc := 47) (tgt := 76) hC dX2_breakLines_47 (by decide) (fun h47 => ?_) (fun h47 => ?_)
          · skip
            have g47 := zB_f h47
            have q47 := of_decide_eq_false g47
            refine z_iload_n (pc := 76) hC 2 dX2_breakLines_76 rfl rfl ?_
            refine z_aload_n (pc := 77) hC 4 dX2_breakLines_77 rfl rfl z_isr_r ?_
            refine z_iconst (pc := 78) (v := 4) hC dX2_breakLines_78 rfl ?_
            refine z_cV (pc := 79) (st := [.int ((zlu σ nw p W (k + 1)).2)]) hC [.int 4] (kX0_of C.2.1 g N Ir P J p 4 (zTr_lt ht he) (by decide) 4 rfl (sSt σ p 4) (zTr_st htr he (by decide))) (z_shb (zTr_lt ht he)) (z_ltb hC (zTr_lt ht he)) rfl zkX0_of zm_2_125 ⟨rfl, rfl⟩ rfl rfl hRm ⟨Nat.le_of_ble_eq_true rfl, Nat.le_of_ble_eq_true rfl⟩ (Nat.le_of_ble_eq_true rfl) ⟨Nat.zero_le _, Nat.zero_le _⟩ dX2_breakLines_79 ?_
            refine z_iload (pc := 82) hC 0 dX2_breakLines_82 rfl ?_
            refine z_iadd (pc := 84) hC dX2_breakLines_84 ?_
            refine z_iadd (pc := 85) hC dX2_breakLines_85 ?_
            rw [show ((zlu σ nw p W (k + 1)).2) + ((sSt σ p 4) + (sSO σ nw p (k + 1))) = (zlu σ nw p W (k + 1)).2 + sSt σ p 4 + sSO σ nw p (k + 1) from (Int32.add_assoc _ _ _).symm]
            refine z_istore_n (pc := 86) (lv' := [(2, .int ((zlu σ nw p W (k + 1)).2 + sSt σ p 4 + sSO σ nw p (k + 1))), (4, .int (sSO σ nw p (k + 1))), (3, .ref (g.1 a10)), (1, .int (nI (zlu σ nw p W (k + 1)).1)), (0, .ref (g.1 p))]) hC dX2_breakLines_86 rfl (by decide) rfl ?_
            have e87 : zlu σ nw p W (k + 1 + 1) = ((zlu σ nw p W (k + 1)).1, (zlu σ nw p W (k + 1)).2 + sSt σ p 4 + sSO σ nw p (k + 1)) := zlu_go (fun q => q47 q.1)
            show zJ C g N 5 0 0 Ir P J 87 [(2, .int (((zlu σ nw p W (k + 1)).1, (zlu σ nw p W (k + 1)).2 + sSt σ p 4 + sSO σ nw p (k + 1)).2)), (4, .int (sSO σ nw p (k + 1))), (3, .ref (g.1 a10)), (1, .int (nI ((zlu σ nw p W (k + 1)).1, (zlu σ nw p W (k + 1)).2 + sSt σ p 4 + sSO σ nw p (k + 1)).1)), (0, .ref (g.1 p))] []
            rw [← e87]
            refine z_aload_n (pc := 87) hC 2 dX2_breakLines_87 rfl rfl z_isr_r ?_
            refine z_iload_n (pc := 88) hC 3 dX2_breakLines_88 rfl rfl ?_
            refine z_pI (pc := 89) hC 0 17 (z_shb (zTr_lt ht hx10.2.2.1)) (z_ltb hC (zTr_lt ht hx10.2.2.1)) rfl inX0 tyX0_ok nmX0 (by decide) rfl zm_1_80 rfl rfl rfl dX2_breakLines_89 ?_
            refine z_aload_n (pc := 92) hC 2 dX2_breakLines_92 rfl rfl z_isr_r ?_
            refine z_gP (pc := 93) hC 0 7 (v := va_rf (Option.map g.1 ((sKids σ p)[(k + 1) + 1]?))) (z_shb (zTr_lt ht hx10.2.2.1)) (z_ltb hC (zTr_lt ht hx10.2.2.1)) rfl inX0 (by decide) rfl zm_1_55 (by rw [(zLk_seg hl (zTr_lt ht he)).1 _ a10 h10]) dX2_breakLines_93 ?_
            refine z_astore_n (pc := 96) (lv' := [(3, va_rf (Option.map g.1 ((sKids σ p)[(k + 1) + 1]?))), (2, .int ((zlu σ nw p W (k + 1 + 1)).2)), (4, .int (sSO σ nw p (k + 1))), (1, .int (nI (zlu σ nw p W (k + 1 + 1)).1)), (0, .ref (g.1 p))]) hC dX2_breakLines_96 rfl (by decide) (z_isr_o _) rfl ?_
            refine z_goto (pc := 97) (tgt := 9) hC dX2_breakLines_97 (by decide) ?_
            refine z_lvs (lv' := [(3, va_rf (Option.map g.1 ((sKids σ p)[(k + 1) + 1]?))), (2, .int ((zlu σ nw p W (k + 1 + 1)).2)), (1, .int (nI (zlu σ nw p W (k + 1 + 1)).1)), (0, .ref (g.1 p))]) [0, 1, 3, 4] rfl ?_
            exact ih ((k + 1) + 1) _ (by omega) (zsetv_1 sKids_nd h10 (Nat.zero_le _) hset (by show _ = nI (sLn σ nw p W _); rw [sLn_row hcol])) (by omega)
          · skip
            have g47 := zB_t h47
            have q47 := of_decide_eq_true g47
            refine z_iload_n (pc := 50) hC 2 dX2_breakLines_50 rfl rfl ?_
            refine z_aload_n (pc := 51) hC 4 dX2_breakLines_51 rfl rfl z_isr_r ?_
            refine z_iconst (pc := 52) (v := 4) hC dX2_breakLines_52 rfl ?_
            refine z_cV (pc := 53) (st := [.int ((zlu σ nw p W (k + 1)).2)]) hC [.int 4] (kX0_of C.2.1 g N Ir P J p 4 (zTr_lt ht he) (by decide) 4 rfl (sSt σ p 4) (zTr_st htr he (by decide))) (z_shb (zTr_lt ht he)) (z_ltb hC (zTr_lt ht he)) rfl zkX0_of zm_2_125 ⟨rfl, rfl⟩ rfl rfl hRm ⟨Nat.le_of_ble_eq_true rfl, Nat.le_of_ble_eq_true rfl⟩ (Nat.le_of_ble_eq_true rfl) ⟨Nat.zero_le _, Nat.zero_le _⟩ dX2_breakLines_53 ?_
            refine z_iadd (pc := 56) hC dX2_breakLines_56 ?_
            refine z_iload (pc := 57) hC 0 dX2_breakLines_57 rfl ?_
            refine z_iadd (pc := 59) hC dX2_breakLines_59 ?_
            refine z_aload_n (pc := 60) hC 4 dX2_breakLines_60 rfl rfl z_isr_r ?_
            refine z_cV (pc := 61) (st := [.int ((((zlu σ nw p W (k + 1)).2) + (sSt σ p 4)) + (sSO σ nw p (k + 1)))]) hC [] (kSX0_innerWidth C.2.1 g N Ir P J htr p he W ((hset.own ht.1 14).trans hW)) (z_shb (zTr_lt ht he)) (z_ltb hC (zTr_lt ht he)) rfl zkX0_innerWidth zm_2_154 ⟨rfl, rfl⟩ rfl rfl hRm ⟨Nat.le_of_ble_eq_true rfl, Nat.le_of_ble_eq_true rfl⟩ (Nat.le_of_ble_eq_true rfl) ⟨Nat.zero_le _, Nat.zero_le _⟩ dX2_breakLines_61 ?_
            refine z_icmp_le (pc := 64) (tgt := 76) hC dX2_breakLines_64 (by decide) (fun h64 => ?_) (fun h64 => ?_)
            · skip
              have g64 := Int32.not_lt.mpr h64
              refine z_iload_n (pc := 76) hC 2 dX2_breakLines_76 rfl rfl ?_
              refine z_aload_n (pc := 77) hC 4 dX2_breakLines_77 rfl rfl z_isr_r ?_
              refine z_iconst (pc := 78) (v := 4) hC dX2_breakLines_78 rfl ?_
              refine z_cV (pc := 79) (st := [.int ((zlu σ nw p W (k + 1)).2)]) hC [.int 4] (kX0_of C.2.1 g N Ir P J p 4 (zTr_lt ht he) (by decide) 4 rfl (sSt σ p 4) (zTr_st htr he (by decide))) (z_shb (zTr_lt ht he)) (z_ltb hC (zTr_lt ht he)) rfl zkX0_of zm_2_125 ⟨rfl, rfl⟩ rfl rfl hRm ⟨Nat.le_of_ble_eq_true rfl, Nat.le_of_ble_eq_true rfl⟩ (Nat.le_of_ble_eq_true rfl) ⟨Nat.zero_le _, Nat.zero_le _⟩ dX2_breakLines_79 ?_
              refine z_iload (pc := 82) hC 0 dX2_breakLines_82 rfl ?_
              refine z_iadd (pc := 84) hC dX2_breakLines_84 ?_
              refine z_iadd (pc := 85) hC dX2_breakLines_85 ?_
              rw [show ((zlu σ nw p W (k + 1)).2) + ((sSt σ p 4) + (sSO σ nw p (k + 1))) = (zlu σ nw p W (k + 1)).2 + sSt σ p 4 + sSO σ nw p (k + 1) from (Int32.add_assoc _ _ _).symm]
              refine z_istore_n (pc := 86) (lv' := [(2, .int ((zlu σ nw p W (k + 1)).2 + sSt σ p 4 + sSO σ nw p (k + 1))), (4, .int (sSO σ nw p (k + 1))), (3, .ref (g.1 a10)), (1, .int (nI (zlu σ nw p W (k + 1)).1)), (0, .ref (g.1 p))]) hC dX2_breakLines_86 rfl (by decide) rfl ?_
              have e87 : zlu σ nw p W (k + 1 + 1) = ((zlu σ nw p W (k + 1)).1, (zlu σ nw p W (k + 1)).2 + sSt σ p 4 + sSO σ nw p (k + 1)) := zlu_go (fun q => g64 q.2)
              show zJ C g N 5 0 0 Ir P J 87 [(2, .int (((zlu σ nw p W (k + 1)).1, (zlu σ nw p W (k + 1)).2 + sSt σ p 4 + sSO σ nw p (k + 1)).2)), (4, .int (sSO σ nw p (k + 1))), (3, .ref (g.1 a10)), (1, .int (nI ((zlu σ nw p W (k + 1)).1, (zlu σ nw p W (k + 1)).2 + sSt σ p 4 + sSO σ nw p (k + 1)).1)), (0, .ref (g.1 p))] []
              rw [← e87]
              refine z_aload_n (pc := 87) hC 2 dX2_breakLines_87 rfl rfl z_isr_r ?_
              refine z_iload_n (pc := 88) hC 3 dX2_breakLines_88 rfl rfl ?_
              refine z_pI (pc := 89) hC 0 17 (z_shb (zTr_lt ht hx10.2.2.1)) (z_ltb hC (zTr_lt ht hx10.2.2.1)) rfl inX0 tyX0_ok nmX0 (by decide) rfl zm_1_80 rfl rfl rfl dX2_breakLines_89 ?_
              refine z_aload_n (pc := 92) hC 2 dX2_breakLines_92 rfl rfl z_isr_r ?_
              refine z_gP (pc := 93) hC 0 7 (v := va_rf (Option.map g.1 ((sKids σ p)[(k + 1) + 1]?))) (z_shb (zTr_lt ht hx10.2.2.1)) (z_ltb hC (zTr_lt ht hx10.2.2.1)) rfl inX0 (by decide) rfl zm_1_55 (by rw [(zLk_seg hl (zTr_lt ht he)).1 _ a10 h10]) dX2_breakLines_93 ?_
              refine z_astore_n (pc := 96) (lv' := [(3, va_rf (Option.map g.1 ((sKids σ p)[(k + 1) + 1]?))), (2, .int ((zlu σ nw p W (k + 1 + 1)).2)), (4, .int (sSO σ nw p (k + 1))), (1, .int (nI (zlu σ nw p W (k + 1 + 1)).1)), (0, .ref (g.1 p))]) hC dX2_breakLines_96 rfl (by decide) (z_isr_o _) rfl ?_
              refine z_goto (pc := 97) (tgt := 9) hC dX2_breakLines_97 (by decide) ?_
              refine z_lvs (lv' := [(3, va_rf (Option.map g.1 ((sKids σ p)[(k + 1) + 1]?))), (2, .int ((zlu σ nw p W (k + 1 + 1)).2)), (1, .int (nI (zlu σ nw p W (k + 1 + 1)).1)), (0, .ref (g.1 p))]) [0, 1, 3, 4] rfl ?_
              exact ih ((k + 1) + 1) _ (by omega) (zsetv_1 sKids_nd h10 (Nat.zero_le _) hset (by show _ = nI (sLn σ nw p W _); rw [sLn_row hcol])) (by omega)
            · skip
              have g64 := Int32.not_le.mp h64
              refine z_iinc (pc := 67) (v := nI ((zlu σ nw p W (k + 1)).1 + 1)) (lv' := [(1, .int (nI ((zlu σ nw p W (k + 1)).1 + 1))), (4, .int (sSO σ nw p (k + 1))), (3, .ref (g.1 a10)), (2, .int ((zlu σ nw p W (k + 1)).2)), (0, .ref (g.1 p))]) hC 3 dX2_breakLines_67 rfl (nI_1 _) (by decide) rfl ?_
              refine z_iload (pc := 70) hC 1 dX2_breakLines_70 rfl ?_
              refine z_istore_n (pc := 72) (lv' := [(2, .int (sSO σ nw p (k + 1))), (1, .int (nI ((zlu σ nw p W (k + 1)).1 + 1))), (4, .int (sSO σ nw p (k + 1))), (3, .ref (g.1 a10)), (0, .ref (g.1 p))]) hC dX2_breakLines_72 rfl (by decide) rfl ?_
              refine z_goto (pc := 73) (tgt := 87) hC dX2_breakLines_73 (by decide) ?_
              have e87 : zlu σ nw p W (k + 1 + 1) = ((zlu σ nw p W (k + 1)).1 + 1, sSO σ nw p (k + 1)) := zlu_brk q47 g64
              show zJ C g N 5 0 0 Ir P J 87 [(2, .int (((zlu σ nw p W (k + 1)).1 + 1, sSO σ nw p (k + 1)).2)), (1, .int (nI ((zlu σ nw p W (k + 1)).1 + 1, sSO σ nw p (k + 1)).1)), (4, .int (sSO σ nw p (k + 1))), (3, .ref (g.1 a10)), (0, .ref (g.1 p))] []
              rw [← e87]
              refine z_aload_n (pc := 87) hC 3 dX2_breakLines_87 rfl rfl z_isr_r ?_
              refine z_iload_n (pc := 88) hC 1 dX2_breakLines_88 rfl rfl ?_
              refine z_pI (pc := 89) hC 0 17 (z_shb (zTr_lt ht hx10.2.2.1)) (z_ltb hC (zTr_lt ht hx10.2.2.1)) rfl inX0 tyX0_ok nmX0 (by decide) rfl zm_1_80 rfl rfl rfl dX2_breakLines_89 ?_
              refine z_aload_n (pc := 92) hC 3 dX2_breakLines_92 rfl rfl z_isr_r ?_
              refine z_gP (pc := 93) hC 0 7 (v := va_rf (Option.map g.1 ((sKids σ p)[(k + 1) + 1]?))) (z_shb (zTr_lt ht hx10.2.2.1)) (z_ltb hC (zTr_lt ht hx10.2.2.1)) rfl inX0 (by decide) rfl zm_1_55 (by rw [(zLk_seg hl (zTr_lt ht he)).1 _ a10 h10]) dX2_breakLines_93 ?_
              refine z_astore_n (pc := 96) (lv' := [(3, va_rf (Option.map g.1 ((sKids σ p)[(k + 1) + 1]?))), (2, .int ((zlu σ nw p W (k + 1 + 1)).2)), (1, .int (nI (zlu σ nw p W (k + 1 + 1)).1)), (4, .int (sSO σ nw p (k + 1))), (0, .ref (g.1 p))]) hC dX2_breakLines_96 rfl (by decide) (z_isr_o _) rfl ?_
              refine z_goto (pc := 97) (tgt := 9) hC dX2_breakLines_97 (by decide) ?_
              refine z_lvs (lv' := [(3, va_rf (Option.map g.1 ((sKids σ p)[(k + 1) + 1]?))), (2, .int ((zlu σ nw p W (k + 1 + 1)).2)), (1, .int (nI (zlu σ nw p W (k + 1 + 1)).1)), (0, .ref (g.1 p))]) [0, 1, 2, 4] rfl ?_
              exact ih ((k + 1) + 1) _ (by omega) (zsetv_1 sKids_nd h10 (Nat.zero_le _) hset (by show _ = nI (sLn σ nw p W _); rw [sLn_row hcol])) (by omega)
        · skip
          have e0 : i = 0 := zlist_inj sKids_nd h10 h34.symm
          subst e0
          refine z_iload (pc := 37) hC 0 dX2_breakLines_37 rfl ?_
          refine z_istore_n (pc := 39) (lv' := [(2, .int (sSO σ nw p 0)), (4, .int (sSO σ nw p 0)), (3, .ref (g.1 a10)), (1, .int (nI (zlu σ nw p W 0).1)), (0, .ref (g.1 p))]) hC dX2_breakLines_39 rfl (by decide) rfl ?_
          refine z_goto (pc := 40) (tgt := 87) hC dX2_breakLines_40 (by decide) ?_
          show zJ C g N 5 0 0 Ir P J 87 [(2, .int ((zlu σ nw p W (0 + 1)).2)), (4, .int (sSO σ nw p 0)), (3, .ref (g.1 a10)), (1, .int (nI (zlu σ nw p W (0 + 1)).1)), (0, .ref (g.1 p))] []
          refine z_aload_n (pc := 87) hC 2 dX2_breakLines_87 rfl rfl z_isr_r ?_
          refine z_iload_n (pc := 88) hC 3 dX2_breakLines_88 rfl rfl ?_
          refine z_pI (pc := 89) hC 0 17 (z_shb (zTr_lt ht hx10.2.2.1)) (z_ltb hC (zTr_lt ht hx10.2.2.1)) rfl inX0 tyX0_ok nmX0 (by decide) rfl zm_1_80 rfl rfl rfl dX2_breakLines_89 ?_
          refine z_aload_n (pc := 92) hC 2 dX2_breakLines_92 rfl rfl z_isr_r ?_
          refine z_gP (pc := 93) hC 0 7 (v := va_rf (Option.map g.1 ((sKids σ p)[0 + 1]?))) (z_shb (zTr_lt ht hx10.2.2.1)) (z_ltb hC (zTr_lt ht hx10.2.2.1)) rfl inX0 (by decide) rfl zm_1_55 (by rw [(zLk_seg hl (zTr_lt ht he)).1 _ a10 h10]) dX2_breakLines_93 ?_
          refine z_astore_n (pc := 96) (lv' := [(3, va_rf (Option.map g.1 ((sKids σ p)[0 + 1]?))), (2, .int ((zlu σ nw p W (0 + 1)).2)), (4, .int (sSO σ nw p 0)), (1, .int (nI (zlu σ nw p W (0 + 1)).1)), (0, .ref (g.1 p))]) hC dX2_breakLines_96 rfl (by decide) (z_isr_o _) rfl ?_
          refine z_goto (pc := 97) (tgt := 9) hC dX2_breakLines_97 (by decide) ?_
          refine z_lvs (lv' := [(3, va_rf (Option.map g.1 ((sKids σ p)[0 + 1]?))), (2, .int ((zlu σ nw p W (0 + 1)).2)), (1, .int (nI (zlu σ nw p W (0 + 1)).1)), (0, .ref (g.1 p))]) [0, 1, 3, 4] rfl ?_
          exact ih (0 + 1) _ (by omega) (zsetv_1 sKids_nd h10 (Nat.zero_le _) hset (by show _ = nI (sLn σ nw p W _); rw [sLn_row hcol])) (by omega)
  exact L9 (kn σ p + 1) 0 _ (Nat.zero_le _) (zsetv_0 _ _ _ _ _) (by omega)
end ZSM
