section ZM6
set_option maxHeartbeats 4000000 in
set_option maxRecDepth 100000 in
theorem kX6_content (lx : Launch) (g : zG) (N : Nat) (I : Nat → Nat → Int32) (P : Nat → Nat → Option Nat) (J : Nat → Nat → Int64) {σ : zS} (hm : zMd σ I) (p : Nat) (he : sEx σ p = true) (hk : zKq σ p I) (a : Nat) (ha : a < 2) (nat : Nat → Int32) (hn : ∀ k, k ∈ sKids σ p → I 101 (2 * k + a) = nat k) (al : Bool) : z_Ct lx yX6_content (zT yX6_content cX6_content 8 (Option.some FieldType.int)) ({ frames := 2, cells := 0, slots := 0, locals := 44 } : Room) g N I P J [.ref (g.1 95), .int (nI p), .int (nI a), .int (zB al)] (zMu (some (.int (if al = true then zsum (fun i => sO σ nat (kd σ p i)) (kn σ p) + zgap (nI (kn σ p)) (sSt σ p 4) else zmx (fun i => sO σ nat (kd σ p i)) (kn σ p)))) I P J) 0 0 := by
  refine z_of (by decide) (Nat.le_of_ble_eq_true rfl) (lv0 := [(0, .ref (g.1 95)), (1, .int (nI p)), (2, .int (nI a)), (3, .int (zB al))]) rfl ?_
  intro C hlx hC hE hRm
  have hC : zX C cX6_content 8 RX6 (zT yX6_content cX6_content 8 (Option.some FieldType.int)) g N := hC
  refine z_iconst (pc := 0) (v := 0) hC dX6_content_0 rfl ?_
  refine z_istore (pc := 1) (lv' := [(4, .int 0), (0, .ref (g.1 95)), (1, .int (nI p)), (2, .int (nI a)), (3, .int (zB al))]) hC dX6_content_1 (by decide) rfl ?_
  refine z_iconst (pc := 3) (v := 0) hC dX6_content_3 rfl ?_
  refine z_istore (pc := 4) (lv' := [(5, .int 0), (4, .int 0), (0, .ref (g.1 95)), (1, .int (nI p)), (2, .int (nI a)), (3, .int (zB al))]) hC dX6_content_4 (by decide) rfl ?_
  refine z_iconst (pc := 6) (v := 0) hC dX6_content_6 rfl ?_
  refine z_istore (pc := 7) (lv' := [(6, .int 0), (5, .int 0), (4, .int 0), (0, .ref (g.1 95)), (1, .int (nI p)), (2, .int (nI a)), (3, .int (zB al))]) hC dX6_content_7 (by decide) rfl ?_
  have L9 : ∀ (zf : Nat) (k : Nat) (hkk : k ≤ kn σ p), kn σ p - k < zf → zJ C g N 8 0 0 I P J 9 [(6, .int (nI k)), (5, .int (zmx (fun i => sO σ nat (kd σ p i)) k)), (4, .int (zsum (fun i => sO σ nat (kd σ p i)) k)), (0, .ref (g.1 95)), (1, .int (nI p)), (2, .int (nI a)), (3, .int (zB al))] [] := by
    intro zf
    induction zf with
    | zero =>
      intro k hkk hn2
      exact absurd hn2 (Nat.not_lt_zero _)
    | succ zf ih =>
      intro k hkk hn2
      refine z_iload (pc := 9) hC 0 dX6_content_9 rfl ?_
      refine z_aload_n (pc := 11) hC 3 dX6_content_11 rfl rfl z_isr_r ?_
      refine z_gI (pc := 12) hC 6 5 (x := nI (kn σ p)) rfl (z_lt hC (by decide)) rfl inX6 (by decide) rfl zm_4_78 hk.1 dX6_content_12 ?_
      refine z_icmp_ge (pc := 15) (tgt := 76) hC dX6_content_15 (by decide) (fun h15 => ?_) (fun h15 => ?_)
      · skip
        have g15 := Int32.not_lt.mpr h15
        have ek : k = kn σ p := Nat.le_antisymm hkk (zc_ge h15 (by have := kn_le hm.1 p; omega) (by have := kn_le hm.1 p; omega))
        subst ek
        refine z_iload_n (pc := 76) hC 6 dX6_content_76 rfl rfl ?_
        refine z_if_eq (pc := 77) (tgt := 95) hC dX6_content_77 (by decide) (fun h77 => ?_) (fun h77 => ?_)
        · skip
          have g77 := zB_f h77
          refine z_iload (pc := 95) hC 1 dX6_content_95 rfl ?_
          exact z_iret (pc := 97) hC hE dX6_content_97 (zMu_i (by rw [g77]; rfl))
        · skip
          have g77 := zB_t h77
          refine z_iload (pc := 80) hC 2 dX6_content_80 rfl ?_
          refine z_aload_n (pc := 82) hC 3 dX6_content_82 rfl rfl z_isr_r ?_
          refine z_iload_n (pc := 83) hC 4 dX6_content_83 rfl rfl ?_
          refine z_aload_n (pc := 84) hC 3 dX6_content_84 rfl rfl z_isr_r ?_
          refine z_gI (pc := 85) hC 6 5 (x := nI (kn σ p)) rfl (z_lt hC (by decide)) rfl inX6 (by decide) rfl zm_4_78 hk.1 dX6_content_85 ?_
          refine z_cV (pc := 88) (st := [.int (zsum (fun i => sO σ nat (kd σ p i)) (kn σ p))]) hC [.int (nI p), .int (nI (kn σ p))] (kX6_gapsOf C.2.1 g N I P J hm p he (nI (kn σ p))) rfl (z_lt hC (by decide)) rfl zkX6_gapsOf zm_4_224 ⟨rfl, rfl⟩ rfl rfl hRm ⟨Nat.le_of_ble_eq_true rfl, Nat.le_of_ble_eq_true rfl⟩ (Nat.le_of_ble_eq_true rfl) ⟨Nat.zero_le _, Nat.zero_le _⟩ dX6_content_88 ?_
          refine z_iadd (pc := 91) hC dX6_content_91 ?_
          refine z_goto (pc := 92) (tgt := 97) hC dX6_content_92 (by decide) ?_
          exact z_iret (pc := 97) hC hE dX6_content_97 (zMu_i (by rw [g77]; rfl))
      · skip
        have g15 := Int32.not_le.mp h15
        have hkn : k < kn σ p := zc_lt h15 (by have := kn_le hm.1 p; omega) (by have := kn_le hm.1 p; omega)
        have hk40 := (sKids_lt hm.1 (kd_mem hkn)).2.1
        have hkm := kn_le hm.1 p
        refine z_aload_n (pc := 18) hC 3 dX6_content_18 rfl rfl z_isr_r ?_
        refine z_aload_n (pc := 19) hC 3 dX6_content_19 rfl rfl z_isr_r ?_
        refine z_gF (pc := 20) hC 6 4 (t := 99) rfl (z_lt hC (by decide)) rfl inX6 (by decide) rfl zm_4_77 rfl dX6_content_20 ?_
        refine z_iload (pc := 23) hC 0 dX6_content_23 rfl ?_
        refine z_iaN (pc := 25) hC k (x := nI (kd σ p k)) rfl (z_lt hC (by decide)) rfl (by omega) (by decide) (hk.2 k hkn) dX6_content_25 ?_
        refine z_aload_n (pc := 26) hC 3 dX6_content_26 rfl rfl z_isr_r ?_
        refine z_gF (pc := 27) hC 6 7 (t := 101) rfl (z_lt hC (by decide)) rfl inX6 (by decide) rfl zm_4_80 rfl dX6_content_27 ?_
        refine z_iconst (pc := 30) (v := 2) hC dX6_content_30 rfl ?_
        refine z_aload_n (pc := 31) hC 3 dX6_content_31 rfl rfl z_isr_r ?_
        refine z_gF (pc := 32) hC 6 4 (t := 99) rfl (z_lt hC (by decide)) rfl inX6 (by decide) rfl zm_4_77 rfl dX6_content_32 ?_
        refine z_iload (pc := 35) hC 0 dX6_content_35 rfl ?_
        refine z_iaN (pc := 37) hC k (x := nI (kd σ p k)) rfl (z_lt hC (by decide)) rfl (by omega) (by decide) (hk.2 k hkn) dX6_content_37 ?_
        refine z_imul (pc := 38) hC dX6_content_38 ?_
        refine z_iload_n (pc := 39) hC 5 dX6_content_39 rfl rfl ?_
        refine z_iadd (pc := 40) hC dX6_content_40 ?_
        refine z_iaN (pc := 41) hC (2 * (kd σ p k) + a) (x := nat (kd σ p k)) rfl (z_lt hC (by decide)) (zix2 (kd σ p k) a) (by omega) (by decide) (hn _ (kd_mem hkn)) dX6_content_41 ?_
        refine z_cV (pc := 42) (st := []) hC [.int (nI (kd σ p k)), .int (nat (kd σ p k))] (kX6_outer C.2.1 g N I P J hm (kd σ p k) (sKids_lt hm.1 (kd_mem hkn)).2.2.1 (nat (kd σ p k))) rfl (z_lt hC (by decide)) rfl zkX6_outer zm_4_220 ⟨rfl, rfl⟩ rfl rfl hRm ⟨Nat.le_of_ble_eq_true rfl, Nat.le_of_ble_eq_true rfl⟩ (Nat.le_of_ble_eq_true rfl) ⟨Nat.zero_le _, Nat.zero_le _⟩ dX6_content_42 ?_
        rw [show (nat (kd σ p k)) + 2 * sSt σ (kd σ p k) 6 = sO σ nat (kd σ p k) from rfl]
        refine z_istore (pc := 45) (lv' := [(7, .int (sO σ nat (kd σ p k))), (6, .int (nI k)), (5, .int (zmx (fun i => sO σ nat (kd σ p i)) k)), (4, .int (zsum (fun i => sO σ nat (kd σ p i)) k)), (0, .ref (g.1 95)), (1, .int (nI p)), (2, .int (nI a)), (3, .int (zB al))]) hC dX6_content_45 (by decide) rfl ?_
        refine z_iload (pc := 47) hC 3 dX6_content_47 rfl ?_
        refine z_iload (pc := 49) hC 0 dX6_content_49 rfl ?_
        refine z_iadd (pc := 51) hC dX6_content_51 ?_
        rw [show (zsum (fun i => sO σ nat (kd σ p i)) k) + (sO σ nat (kd σ p k)) = zsum (fun i => sO σ nat (kd σ p i)) (k + 1) from rfl]
        refine z_istore (pc := 52) (lv' := [(4, .int (zsum (fun i => sO σ nat (kd σ p i)) (k + 1))), (7, .int (sO σ nat (kd σ p k))), (6, .int (nI k)), (5, .int (zmx (fun i => sO σ nat (kd σ p i)) k)), (0, .ref (g.1 95)), (1, .int (nI p)), (2, .int (nI a)), (3, .int (zB al))]) hC dX6_content_52 (by decide) rfl ?_
        refine z_iload (pc := 54) hC 1 dX6_content_54 rfl ?_
        refine z_iload (pc := 56) hC 3 dX6_content_56 rfl ?_
        refine z_icmp_le (pc := 58) (tgt := 66) hC dX6_content_58 (by decide) (fun h58 => ?_) (fun h58 => ?_)
        · skip
          have g58 := Int32.not_lt.mpr h58
          refine z_iload (pc := 66) hC 3 dX6_content_66 rfl ?_
          refine z_istore (pc := 68) (lv' := [(5, .int (zmx (fun i => sO σ nat (kd σ p i)) k)), (4, .int (zsum (fun i => sO σ nat (kd σ p i)) (k + 1))), (7, .int (sO σ nat (kd σ p k))), (6, .int (nI k)), (0, .ref (g.1 95)), (1, .int (nI p)), (2, .int (nI a)), (3, .int (zB al))]) hC dX6_content_68 (by decide) rfl ?_
          refine z_iinc (pc := 70) (v := nI (k + 1)) (lv' := [(6, .int (nI (k + 1))), (5, .int (zmx (fun i => sO σ nat (kd σ p i)) k)), (4, .int (zsum (fun i => sO σ nat (kd σ p i)) (k + 1))), (7, .int (sO σ nat (kd σ p k))), (0, .ref (g.1 95)), (1, .int (nI p)), (2, .int (nI a)), (3, .int (zB al))]) hC 3 dX6_content_70 rfl (nI_1 k) (by decide) rfl ?_
          refine z_goto (pc := 73) (tgt := 9) hC dX6_content_73 (by decide) ?_
          refine z_lvs (lv' := [(6, .int (nI (k + 1))), (5, .int (zmx (fun i => sO σ nat (kd σ p i)) k)), (4, .int (zsum (fun i => sO σ nat (kd σ p i)) (k + 1))), (0, .ref (g.1 95)), (1, .int (nI p)), (2, .int (nI a)), (3, .int (zB al))]) [0, 1, 2, 4, 5, 6, 7] rfl ?_
          have K := ih (k + 1) (by omega) (by omega)
          rw [show zmx (fun i => sO σ nat (kd σ p i)) (k + 1) = zmx (fun i => sO σ nat (kd σ p i)) k from if_neg (Int32.not_lt.mpr h58)] at K
          exact K
        · skip
          have g58 := Int32.not_le.mp h58
          refine z_iload (pc := 61) hC 1 dX6_content_61 rfl ?_
          refine z_goto (pc := 63) (tgt := 68) hC dX6_content_63 (by decide) ?_
          refine z_istore (pc := 68) (lv' := [(5, .int (sO σ nat (kd σ p k))), (4, .int (zsum (fun i => sO σ nat (kd σ p i)) (k + 1))), (7, .int (sO σ nat (kd σ p k))), (6, .int (nI k)), (0, .ref (g.1 95)), (1, .int (nI p)), (2, .int (nI a)), (3, .int (zB al))]) hC dX6_content_68 (by decide) rfl ?_
          refine z_iinc (pc := 70) (v := nI (k + 1)) (lv' := [(6, .int (nI (k + 1))), (5, .int (sO σ nat (kd σ p k))), (4, .int (zsum (fun i => sO σ nat (kd σ p i)) (k + 1))), (7, .int (sO σ nat (kd σ p k))), (0, .ref (g.1 95)), (1, .int (nI p)), (2, .int (nI a)), (3, .int (zB al))]) hC 3 dX6_content_70 rfl (nI_1 k) (by decide) rfl ?_
          refine z_goto (pc := 73) (tgt := 9) hC dX6_content_73 (by decide) ?_
          refine z_lvs (lv' := [(6, .int (nI (k + 1))), (5, .int (sO σ nat (kd σ p k))), (4, .int (zsum (fun i => sO σ nat (kd σ p i)) (k + 1))), (0, .ref (g.1 95)), (1, .int (nI p)), (2, .int (nI a)), (3, .int (zB al))]) [0, 1, 2, 4, 5, 6, 7] rfl ?_
          have K := ih (k + 1) (by omega) (by omega)
          rw [show zmx (fun i => sO σ nat (kd σ p i)) (k + 1) = sO σ nat (kd σ p k) from if_pos (Int32.not_le.mp h58)] at K
          exact K
  exact L9 41 0 (Nat.zero_le _) (by have := kn_le hm.1 p; omega)
set_option maxHeartbeats 4000000 in
set_option maxRecDepth 100000 in
theorem kX6_setNatural (lx : Launch) (g : zG) (N : Nat) (I : Nat → Nat → Int32) (P : Nat → Nat → Option Nat) (J : Nat → Nat → Int64) {σ : zS} (hm : zMd σ I) (b : Nat) (he : sEx σ b = true) (a : Nat) (ha : a < 2) (c : Int32) : z_Ct lx yX6_setNatural (zT yX6_setNatural cX6_setNatural 6 (Option.none : Option FieldType)) ({ frames := 2, cells := 0, slots := 0, locals := 48 } : Room) g N I P J [.ref (g.1 95), .int (nI b), .int (nI a), .int c] (zMu none (z_u I 101 (2 * b + a) (if b = 0 then sNat (-1) c (sSt σ b 5) else zlim (sNat (sSt σ b (10 + a)) c (sSt σ b 5)) (sSt σ b (12 + a)) (sSt σ b (14 + a)))) P J) 0 0 := by
  refine z_of (by decide) (Nat.le_of_ble_eq_true rfl) (lv0 := [(0, .ref (g.1 95)), (1, .int (nI b)), (2, .int (nI a)), (3, .int c)]) rfl ?_
  intro C hlx hC hE hRm
  have hC : zX C cX6_setNatural 6 RX6 (zT yX6_setNatural cX6_setNatural 6 (Option.none : Option FieldType)) g N := hC
  refine z_iload_n (pc := 0) hC 1 dX6_setNatural_0 rfl rfl ?_
  refine z_if_ne (pc := 1) (tgt := 8) hC dX6_setNatural_1 (by decide) (fun h1 => ?_) (fun h1 => ?_)
  · skip
    have h0 : b ≠ 0 := fun e => h1 (by rw [e]; rfl)
    refine z_aload_n (pc := 8) hC 0 dX6_setNatural_8 rfl rfl z_isr_r ?_
    refine z_iload_n (pc := 9) hC 1 dX6_setNatural_9 rfl rfl ?_
    refine z_bipush (pc := 10) (v := 10) hC dX6_setNatural_10 rfl ?_
    refine z_iload_n (pc := 12) hC 2 dX6_setNatural_12 rfl rfl ?_
    refine z_iadd (pc := 13) hC dX6_setNatural_13 ?_
    refine z_cV (pc := 14) (st := []) hC [.int (nI b), .int (10 + (nI a))] (kX6_of C.2.1 g N I P J hm b (10 + a) he (by omega) (10 + (nI a)) (nI_add 10 a)) rfl (z_lt hC (by decide)) rfl zkX6_of zm_4_162 ⟨rfl, rfl⟩ rfl rfl hRm ⟨Nat.le_of_ble_eq_true rfl, Nat.le_of_ble_eq_true rfl⟩ (Nat.le_of_ble_eq_true rfl) ⟨Nat.zero_le _, Nat.zero_le _⟩ dX6_setNatural_14 ?_
    refine z_istore (pc := 17) (lv' := [(4, .int (sSt σ b (10 + a))), (0, .ref (g.1 95)), (1, .int (nI b)), (2, .int (nI a)), (3, .int c)]) hC dX6_setNatural_17 (by decide) rfl ?_
    refine z_iload (pc := 19) hC 0 dX6_setNatural_19 rfl ?_
    refine z_iconst (pc := 21) (v := (-1)) hC dX6_setNatural_21 rfl ?_
    refine z_icmp_eq (pc := 22) (tgt := 30) hC dX6_setNatural_22 (by decide) (fun h22 => ?_) (fun h22 => ?_)
    · skip
      refine z_iload_n (pc := 30) hC 4 dX6_setNatural_30 rfl rfl ?_
      refine z_iconst (pc := 31) (v := 2) hC dX6_setNatural_31 rfl ?_
      refine z_aload_n (pc := 32) hC 1 dX6_setNatural_32 rfl rfl z_isr_r ?_
      refine z_iload_n (pc := 33) hC 2 dX6_setNatural_33 rfl rfl ?_
      refine z_iconst (pc := 34) (v := 5) hC dX6_setNatural_34 rfl ?_
      refine z_cV (pc := 35) (st := [.int 2, .int c]) hC [.int (nI b), .int 5] (kX6_of C.2.1 g N I P J hm b 5 he (by decide) 5 rfl) rfl (z_lt hC (by decide)) rfl zkX6_of zm_4_162 ⟨rfl, rfl⟩ rfl rfl hRm ⟨Nat.le_of_ble_eq_true rfl, Nat.le_of_ble_eq_true rfl⟩ (Nat.le_of_ble_eq_true rfl) ⟨Nat.zero_le _, Nat.zero_le _⟩ dX6_setNatural_35 ?_
      refine z_imul (pc := 38) hC dX6_setNatural_38 ?_
      refine z_iadd (pc := 39) hC dX6_setNatural_39 ?_
      refine z_istore (pc := 40) (lv' := [(5, .int (c + (2 * (sSt σ b 5)))), (4, .int (sSt σ b (10 + a))), (0, .ref (g.1 95)), (1, .int (nI b)), (2, .int (nI a)), (3, .int c)]) hC dX6_setNatural_40 (by decide) rfl ?_
      refine z_aload_n (pc := 42) hC 2 dX6_setNatural_42 rfl rfl z_isr_r ?_
      refine z_gF (pc := 43) hC 6 7 (t := 101) rfl (z_lt hC (by decide)) rfl inX6 (by decide) rfl zm_4_80 rfl dX6_setNatural_43 ?_
      refine z_iconst (pc := 46) (v := 2) hC dX6_setNatural_46 rfl ?_
      refine z_iload_n (pc := 47) hC 3 dX6_setNatural_47 rfl rfl ?_
      refine z_imul (pc := 48) hC dX6_setNatural_48 ?_
      refine z_iload_n (pc := 49) hC 4 dX6_setNatural_49 rfl rfl ?_
      refine z_iadd (pc := 50) hC dX6_setNatural_50 ?_
      refine z_iload_n (pc := 51) hC 3 dX6_setNatural_51 rfl rfl ?_
      refine z_if_ne (pc := 52) (tgt := 60) hC dX6_setNatural_52 (by decide) (fun h52 => ?_) (fun h52 => ?_)
      · skip
        have h52b : b ≠ 0 := fun e => h52 (by rw [e]; rfl)
        refine z_aload_n (pc := 60) hC 2 dX6_setNatural_60 rfl rfl z_isr_r ?_
        refine z_iload_n (pc := 61) hC 3 dX6_setNatural_61 rfl rfl ?_
        refine z_iload_n (pc := 62) hC 4 dX6_setNatural_62 rfl rfl ?_
        refine z_iload (pc := 63) hC 0 dX6_setNatural_63 rfl ?_
        refine z_cV (pc := 65) (st := [.int ((2 * (nI b)) + (nI a)), .ref (g.1 101)]) hC [.int (nI b), .int (nI a), .int (c + (2 * (sSt σ b 5)))] (kX6_limited C.2.1 g N I P J hm b a he ha (c + (2 * (sSt σ b 5)))) rfl (z_lt hC (by decide)) rfl zkX6_limited zm_4_232 ⟨rfl, rfl⟩ rfl rfl hRm ⟨Nat.le_of_ble_eq_true rfl, Nat.le_of_ble_eq_true rfl⟩ (Nat.le_of_ble_eq_true rfl) ⟨Nat.zero_le _, Nat.zero_le _⟩ dX6_setNatural_65 ?_
        refine z_isN (pc := 68) hC (2 * b + a) rfl (z_lt hC (by decide)) (zix2 b a) (by have := (hm.lt he).2; omega) (by decide) dX6_setNatural_68 ?_
        exact z_vret (pc := 69) hC hE dX6_setNatural_69 ⟨rfl, by unfold sNat; simp [h0, h22], rfl, rfl⟩
      · skip
        have h52b : b = 0 := zb_0 h52 (hm.lt he).2
        exact absurd h52b h0
    · skip
      refine z_iload (pc := 25) hC 0 dX6_setNatural_25 rfl ?_
      refine z_goto (pc := 27) (tgt := 40) hC dX6_setNatural_27 (by decide) ?_
      refine z_istore (pc := 40) (lv' := [(5, .int (sSt σ b (10 + a))), (4, .int (sSt σ b (10 + a))), (0, .ref (g.1 95)), (1, .int (nI b)), (2, .int (nI a)), (3, .int c)]) hC dX6_setNatural_40 (by decide) rfl ?_
      refine z_aload_n (pc := 42) hC 2 dX6_setNatural_42 rfl rfl z_isr_r ?_
      refine z_gF (pc := 43) hC 6 7 (t := 101) rfl (z_lt hC (by decide)) rfl inX6 (by decide) rfl zm_4_80 rfl dX6_setNatural_43 ?_
      refine z_iconst (pc := 46) (v := 2) hC dX6_setNatural_46 rfl ?_
      refine z_iload_n (pc := 47) hC 3 dX6_setNatural_47 rfl rfl ?_
      refine z_imul (pc := 48) hC dX6_setNatural_48 ?_
      refine z_iload_n (pc := 49) hC 4 dX6_setNatural_49 rfl rfl ?_
      refine z_iadd (pc := 50) hC dX6_setNatural_50 ?_
      refine z_iload_n (pc := 51) hC 3 dX6_setNatural_51 rfl rfl ?_
      refine z_if_ne (pc := 52) (tgt := 60) hC dX6_setNatural_52 (by decide) (fun h52 => ?_) (fun h52 => ?_)
      · skip
        have h52b : b ≠ 0 := fun e => h52 (by rw [e]; rfl)
        refine z_aload_n (pc := 60) hC 2 dX6_setNatural_60 rfl rfl z_isr_r ?_
        refine z_iload_n (pc := 61) hC 3 dX6_setNatural_61 rfl rfl ?_
        refine z_iload_n (pc := 62) hC 4 dX6_setNatural_62 rfl rfl ?_
        refine z_iload (pc := 63) hC 0 dX6_setNatural_63 rfl ?_
        refine z_cV (pc := 65) (st := [.int ((2 * (nI b)) + (nI a)), .ref (g.1 101)]) hC [.int (nI b), .int (nI a), .int (sSt σ b (10 + a))] (kX6_limited C.2.1 g N I P J hm b a he ha (sSt σ b (10 + a))) rfl (z_lt hC (by decide)) rfl zkX6_limited zm_4_232 ⟨rfl, rfl⟩ rfl rfl hRm ⟨Nat.le_of_ble_eq_true rfl, Nat.le_of_ble_eq_true rfl⟩ (Nat.le_of_ble_eq_true rfl) ⟨Nat.zero_le _, Nat.zero_le _⟩ dX6_setNatural_65 ?_
        refine z_isN (pc := 68) hC (2 * b + a) rfl (z_lt hC (by decide)) (zix2 b a) (by have := (hm.lt he).2; omega) (by decide) dX6_setNatural_68 ?_
        exact z_vret (pc := 69) hC hE dX6_setNatural_69 ⟨rfl, by unfold sNat; simp [h0, h22], rfl, rfl⟩
      · skip
        have h52b : b = 0 := zb_0 h52 (hm.lt he).2
        exact absurd h52b h0
  · skip
    have h0 : b = 0 := zb_0 h1 (hm.lt he).2
    refine z_iconst (pc := 4) (v := (-1)) hC dX6_setNatural_4 rfl ?_
    refine z_goto (pc := 5) (tgt := 17) hC dX6_setNatural_5 (by decide) ?_
    refine z_istore (pc := 17) (lv' := [(4, .int (-1)), (0, .ref (g.1 95)), (1, .int (nI b)), (2, .int (nI a)), (3, .int c)]) hC dX6_setNatural_17 (by decide) rfl ?_
    refine z_iload (pc := 19) hC 0 dX6_setNatural_19 rfl ?_
    refine z_iconst (pc := 21) (v := (-1)) hC dX6_setNatural_21 rfl ?_
    refine z_icmp_eq (pc := 22) (tgt := 30) hC dX6_setNatural_22 (by decide) (fun h22 => ?_) (fun h22 => ?_)
    · skip
      refine z_iload_n (pc := 30) hC 4 dX6_setNatural_30 rfl rfl ?_
      refine z_iconst (pc := 31) (v := 2) hC dX6_setNatural_31 rfl ?_
      refine z_aload_n (pc := 32) hC 1 dX6_setNatural_32 rfl rfl z_isr_r ?_
      refine z_iload_n (pc := 33) hC 2 dX6_setNatural_33 rfl rfl ?_
      refine z_iconst (pc := 34) (v := 5) hC dX6_setNatural_34 rfl ?_
      refine z_cV (pc := 35) (st := [.int 2, .int c]) hC [.int (nI b), .int 5] (kX6_of C.2.1 g N I P J hm b 5 he (by decide) 5 rfl) rfl (z_lt hC (by decide)) rfl zkX6_of zm_4_162 ⟨rfl, rfl⟩ rfl rfl hRm ⟨Nat.le_of_ble_eq_true rfl, Nat.le_of_ble_eq_true rfl⟩ (Nat.le_of_ble_eq_true rfl) ⟨Nat.zero_le _, Nat.zero_le _⟩ dX6_setNatural_35 ?_
      refine z_imul (pc := 38) hC dX6_setNatural_38 ?_
      refine z_iadd (pc := 39) hC dX6_setNatural_39 ?_
      refine z_istore (pc := 40) (lv' := [(5, .int (c + (2 * (sSt σ b 5)))), (4, .int (-1)), (0, .ref (g.1 95)), (1, .int (nI b)), (2, .int (nI a)), (3, .int c)]) hC dX6_setNatural_40 (by decide) rfl ?_
      refine z_aload_n (pc := 42) hC 2 dX6_setNatural_42 rfl rfl z_isr_r ?_
      refine z_gF (pc := 43) hC 6 7 (t := 101) rfl (z_lt hC (by decide)) rfl inX6 (by decide) rfl zm_4_80 rfl dX6_setNatural_43 ?_
      refine z_iconst (pc := 46) (v := 2) hC dX6_setNatural_46 rfl ?_
      refine z_iload_n (pc := 47) hC 3 dX6_setNatural_47 rfl rfl ?_
      refine z_imul (pc := 48) hC dX6_setNatural_48 ?_
      refine z_iload_n (pc := 49) hC 4 dX6_setNatural_49 rfl rfl ?_
      refine z_iadd (pc := 50) hC dX6_setNatural_50 ?_
      refine z_iload_n (pc := 51) hC 3 dX6_setNatural_51 rfl rfl ?_
      refine z_if_ne (pc := 52) (tgt := 60) hC dX6_setNatural_52 (by decide) (fun h52 => ?_) (fun h52 => ?_)
      · skip
        have h52b : b ≠ 0 := fun e => h52 (by rw [e]; rfl)
        exact absurd h0 h52b
      · skip
        have h52b : b = 0 := zb_0 h52 (hm.lt he).2
        refine z_iload (pc := 55) hC 0 dX6_setNatural_55 rfl ?_
        refine z_goto (pc := 57) (tgt := 68) hC dX6_setNatural_57 (by decide) ?_
        refine z_isN (pc := 68) hC (2 * b + a) rfl (z_lt hC (by decide)) (zix2 b a) (by have := (hm.lt he).2; omega) (by decide) dX6_setNatural_68 ?_
        exact z_vret (pc := 69) hC hE dX6_setNatural_69 ⟨rfl, by unfold sNat; simp [h0, h22], rfl, rfl⟩
    · skip
      exact absurd h22 (by decide)
set_option maxHeartbeats 4000000 in
set_option maxRecDepth 100000 in
theorem kX6_textLines (lx : Launch) (g : zG) (N : Nat) (I : Nat → Nat → Int32) (P : Nat → Nat → Option Nat) (J : Nat → Nat → Int64) {σ : zS} (hm : zMd σ I) (b : Nat) (he : sEx σ b = true) (W : Int32) (hW : I 102 (2 * b + 0) = W) : z_Ct lx yX6_textLines (zT yX6_textLines cX6_textLines 3 (Option.some FieldType.int)) ({ frames := 2, cells := 0, slots := 0, locals := 44 } : Room) g N I P J [.ref (g.1 95), .int (nI b)] (zMu (some (.int (ztl (sSt σ b 19) (sIn W (sSt σ b 5))))) I P J) 0 0 := by
  refine z_of (by decide) (Nat.le_of_ble_eq_true rfl) (lv0 := [(0, .ref (g.1 95)), (1, .int (nI b))]) rfl ?_
  intro C hlx hC hE hRm
  have hC : zX C cX6_textLines 3 RX6 (zT yX6_textLines cX6_textLines 3 (Option.some FieldType.int)) g N := hC
  have J20 : zJ C g N 3 0 0 I P J 20 [(0, .ref (g.1 95)), (1, .int (nI b))] [.int (zfit (sIn W (sSt σ b 5)))] := by
    refine z_istore_n (pc := 20) (lv' := [(2, .int (zfit (sIn W (sSt σ b 5)))), (0, .ref (g.1 95)), (1, .int (nI b))]) hC dX6_textLines_20 rfl (by decide) rfl ?_
    refine z_aload_n (pc := 21) hC 1 dX6_textLines_21 rfl rfl z_isr_r ?_
    refine z_iload_n (pc := 22) hC 2 dX6_textLines_22 rfl rfl ?_
    refine z_bipush (pc := 23) (v := 19) hC dX6_textLines_23 rfl ?_
    refine z_cV (pc := 25) (st := []) hC [.int (nI b), .int 19] (kX6_of C.2.1 g N I P J hm b 19 he (by decide) 19 rfl) rfl (z_lt hC (by decide)) rfl zkX6_of zm_4_162 ⟨rfl, rfl⟩ rfl rfl hRm ⟨Nat.le_of_ble_eq_true rfl, Nat.le_of_ble_eq_true rfl⟩ (Nat.le_of_ble_eq_true rfl) ⟨Nat.zero_le _, Nat.zero_le _⟩ dX6_textLines_25 ?_
    refine z_iload_n (pc := 28) hC 0 dX6_textLines_28 rfl rfl ?_
    refine z_iadd (pc := 29) hC dX6_textLines_29 ?_
    refine z_iconst (pc := 30) (v := 1) hC dX6_textLines_30 rfl ?_
    refine z_isub (pc := 31) hC dX6_textLines_31 ?_
    refine z_iload_n (pc := 32) hC 0 dX6_textLines_32 rfl rfl ?_
    refine z_idiv (pc := 33) hC dX6_textLines_33 (zfit_ne _) ?_
    exact z_iret (pc := 34) hC hE dX6_textLines_34 (zMu_i rfl)
  refine z_aload_n (pc := 0) hC 0 dX6_textLines_0 rfl rfl z_isr_r ?_
  refine z_iload_n (pc := 1) hC 1 dX6_textLines_1 rfl rfl ?_
  refine z_iconst (pc := 2) (v := 0) hC dX6_textLines_2 rfl ?_
  refine z_cV (pc := 3) (st := []) hC [.int (nI b), .int 0] (kX6_inner C.2.1 g N I P J hm b 0 he (by decide) W hW) rfl (z_lt hC (by decide)) rfl zkX6_inner zm_5_4 ⟨rfl, rfl⟩ rfl rfl hRm ⟨Nat.le_of_ble_eq_true rfl, Nat.le_of_ble_eq_true rfl⟩ (Nat.le_of_ble_eq_true rfl) ⟨Nat.zero_le _, Nat.zero_le _⟩ dX6_textLines_3 ?_
  refine z_bipush (pc := 6) (v := 8) hC dX6_textLines_6 rfl ?_
  refine z_idiv (pc := 8) hC dX6_textLines_8 (by decide) ?_
  refine z_istore_n (pc := 9) (lv' := [(2, .int ((sIn W (sSt σ b 5)) / 8)), (0, .ref (g.1 95)), (1, .int (nI b))]) hC dX6_textLines_9 rfl (by decide) rfl ?_
  refine z_iload_n (pc := 10) hC 0 dX6_textLines_10 rfl rfl ?_
  refine z_iconst (pc := 11) (v := 1) hC dX6_textLines_11 rfl ?_
  refine z_icmp_ge (pc := 12) (tgt := 19) hC dX6_textLines_12 (by decide) (fun h12 => ?_) (fun h12 => ?_)
  · skip
    have g12 := Int32.not_lt.mpr h12
    refine z_iload_n (pc := 19) hC 0 dX6_textLines_19 rfl rfl ?_
    refine z_lvs (lv' := [(0, .ref (g.1 95)), (1, .int (nI b))]) [1, 2] rfl ?_
    have e20 : ((sIn W (sSt σ b 5)) / 8 : Int32) = zfit (sIn W (sSt σ b 5)) := by unfold zfit; rw [if_neg (Int32.not_lt.mpr h12)]
    have K := J20
    rw [← e20] at K
    exact K
  · skip
    have g12 := Int32.not_le.mp h12
    refine z_iconst (pc := 15) (v := 1) hC dX6_textLines_15 rfl ?_
    refine z_goto (pc := 16) (tgt := 20) hC dX6_textLines_16 (by decide) ?_
    refine z_lvs (lv' := [(0, .ref (g.1 95)), (1, .int (nI b))]) [1, 2] rfl ?_
    have e20 : (1 : Int32) = zfit (sIn W (sSt σ b 5)) := by unfold zfit; rw [if_pos (Int32.not_le.mp h12)]
    have K := J20
    rw [← e20] at K
    exact K
end ZM6
