section ZRT
set_option maxHeartbeats 4000000 in
set_option maxRecDepth 100000 in
theorem kR6_add (lx : Launch) (g : zG) (N : Nat) (I : Nat → Nat → Int32) (P : Nat → Nat → Option Nat) (J : Nat → Nat → Int64) {σ : zS} (hm : zMd σ I) (x : Int32) : z_Ct lx yX6_add (zT yX6_add cX6_add 2 (Option.some FieldType.int)) ({ frames := 2, cells := 0, slots := 0, locals := 43 } : Room) g N I P J [.ref (g.1 95), .int x] (fun v I' P' J' => (∃ z, v = some (.int z)) ∧ ((zbx σ x = false ∧ I' 95 3 = 1 ∧ zMd σ I') ∨ ((zbx σ x = true ∧ sGv σ = 40 ∧ I' 95 3 = 2 ∧ zMd σ I') ∨ ∃ b, x = nI b ∧ b < 40 ∧ sEx σ b = true ∧ sGv σ < 40 ∧ v = some (.int (nI (sGv σ))) ∧ I' 95 3 = 0 ∧ zMd (sAdd σ b) I')) ∧ zKm I P J I' P' J') 0 0 := by
  refine z_of (by decide) (Nat.le_of_ble_eq_true rfl) (lv0 := [(0, .ref (g.1 95)), (1, .int x)]) rfl ?_
  intro C hlx hC hE hRm
  have hC : zX C cX6_add 2 RX6 (zT yX6_add cX6_add 2 (Option.some FieldType.int)) g N := hC
  refine z_aload_n (pc := 0) hC 0 dX6_add_0 rfl rfl z_isr_r ?_
  refine z_aload_n (pc := 1) hC 0 dX6_add_1 rfl rfl z_isr_r ?_
  refine z_iload_n (pc := 2) hC 1 dX6_add_2 rfl rfl ?_
  refine z_cV (pc := 3) (st := [.ref (g.1 95)]) hC [.int x] (kX6_isBox C.2.1 g N I P J hm x) rfl (z_lt hC (by decide)) rfl zkX6_isBox zm_4_131 ⟨rfl, rfl⟩ rfl rfl hRm ⟨Nat.le_of_ble_eq_true rfl, Nat.le_of_ble_eq_true rfl⟩ (Nat.le_of_ble_eq_true rfl) ⟨Nat.zero_le _, Nat.zero_le _⟩ dX6_add_3 ?_
  refine z_if_ne (pc := 6) (tgt := 13) hC dX6_add_6 (by decide) (fun h6 => ?_) (fun h6 => ?_)
  · skip
    have g6 := zB_t h6
    obtain ⟨b, rfl, hb, he⟩ := zbx_iff.mp g6
    refine z_aload_n (pc := 13) hC 0 dX6_add_13 rfl rfl z_isr_r ?_
    refine z_gF (pc := 14) hC 6 0 (t := 96) rfl (z_lt hC (by decide)) rfl inX6 (by decide) rfl zm_4_73 rfl dX6_add_14 ?_
    refine z_iconst (pc := 17) (v := 0) hC dX6_add_17 rfl ?_
    refine z_iaN (pc := 18) hC 0 (x := nI (sGv σ)) rfl (z_lt hC (by decide)) rfl (by decide) (by decide) hm.2.1 dX6_add_18 ?_
    refine z_bipush (pc := 19) (v := 40) hC dX6_add_19 rfl ?_
    refine z_icmp_ne (pc := 21) (tgt := 28) hC dX6_add_21 (by decide) (fun h21 => ?_) (fun h21 => ?_)
    · skip
      have hgv : sGv σ < 40 := zg_ne h21 hm.gv.2
      refine z_iconst (pc := 28) (v := 0) hC dX6_add_28 rfl ?_
      refine z_pI (pc := 29) hC 6 3 rfl (z_lt hC (by decide)) rfl inX6 tyX6_ok nmX6 (by decide) rfl zm_4_76 rfl rfl rfl dX6_add_29 ?_
      refine z_aload_n (pc := 32) hC 0 dX6_add_32 rfl rfl z_isr_r ?_
      refine z_gI (pc := 33) hC 6 3 (x := 0) rfl (z_lt hC (by decide)) rfl inX6 (by decide) rfl zm_4_76 (z_u_s _ _ _ _) dX6_add_33 ?_
      refine z_if_eq (pc := 36) (tgt := 43) hC dX6_add_36 (by decide) (fun h36 => ?_) (fun h36 => ?_)
      · skip
        refine z_aload_n (pc := 43) hC 0 dX6_add_43 rfl rfl z_isr_r ?_
        refine z_iload_n (pc := 44) hC 1 dX6_add_44 rfl rfl ?_
        refine z_cV (pc := 45) (st := []) hC [.int (nI b)] (kX6_make C.2.1 g N (z_u I 95 3 0) P J (sGv σ) hgv (hm.u (by decide)).2.1 (nI b)) rfl (z_lt hC (by decide)) rfl zkX6_make zm_4_66 ⟨rfl, rfl⟩ rfl rfl hRm ⟨Nat.le_of_ble_eq_true rfl, Nat.le_of_ble_eq_true rfl⟩ (Nat.le_of_ble_eq_true rfl) ⟨Nat.zero_le _, Nat.zero_le _⟩ dX6_add_45 ?_
        exact z_iret (pc := 48) hC hE dX6_add_48 ⟨⟨_, rfl⟩, ⟨Or.inr (Or.inr ⟨b, rfl, hb, he, hgv, rfl, (z_u_a _ _ (by decide)).trans ((zmr_o _ _ (by omega)).trans ((z_u_a _ _ (by decide)).trans (z_u_s _ _ _ _))), zMd_add (hm.u (by decide)) he hgv⟩), zadd_k⟩⟩
      · skip
        exact absurd h36 (by decide)
    · skip
      have hgv : sGv σ = 40 := (nI_eq (a := sGv σ) (b := 40) (by have := hm.gv; omega) (by decide)).mp h21
      refine z_iconst (pc := 24) (v := 2) hC dX6_add_24 rfl ?_
      refine z_goto (pc := 25) (tgt := 29) hC dX6_add_25 (by decide) ?_
      refine z_pI (pc := 29) hC 6 3 rfl (z_lt hC (by decide)) rfl inX6 tyX6_ok nmX6 (by decide) rfl zm_4_76 rfl rfl rfl dX6_add_29 ?_
      refine z_aload_n (pc := 32) hC 0 dX6_add_32 rfl rfl z_isr_r ?_
      refine z_gI (pc := 33) hC 6 3 (x := 2) rfl (z_lt hC (by decide)) rfl inX6 (by decide) rfl zm_4_76 (z_u_s _ _ _ _) dX6_add_33 ?_
      refine z_if_eq (pc := 36) (tgt := 43) hC dX6_add_36 (by decide) (fun h36 => ?_) (fun h36 => ?_)
      · skip
        exact absurd h36 (by decide)
      · skip
        refine z_iconst (pc := 39) (v := 0) hC dX6_add_39 rfl ?_
        refine z_goto (pc := 40) (tgt := 48) hC dX6_add_40 (by decide) ?_
        exact z_iret (pc := 48) hC hE dX6_add_48 ⟨⟨_, rfl⟩, ⟨Or.inr (Or.inl ⟨g6, hgv, z_u_s _ _ _ _, hm.u (by decide)⟩), zKm.rf.u (by decide)⟩⟩
  · skip
    have g6 := zB_f h6
    refine z_iconst (pc := 9) (v := 1) hC dX6_add_9 rfl ?_
    refine z_goto (pc := 10) (tgt := 29) hC dX6_add_10 (by decide) ?_
    refine z_pI (pc := 29) hC 6 3 rfl (z_lt hC (by decide)) rfl inX6 tyX6_ok nmX6 (by decide) rfl zm_4_76 rfl rfl rfl dX6_add_29 ?_
    refine z_aload_n (pc := 32) hC 0 dX6_add_32 rfl rfl z_isr_r ?_
    refine z_gI (pc := 33) hC 6 3 (x := 1) rfl (z_lt hC (by decide)) rfl inX6 (by decide) rfl zm_4_76 (z_u_s _ _ _ _) dX6_add_33 ?_
    refine z_if_eq (pc := 36) (tgt := 43) hC dX6_add_36 (by decide) (fun h36 => ?_) (fun h36 => ?_)
    · skip
      exact absurd h36 (by decide)
    · skip
      refine z_iconst (pc := 39) (v := 0) hC dX6_add_39 rfl ?_
      refine z_goto (pc := 40) (tgt := 48) hC dX6_add_40 (by decide) ?_
      exact z_iret (pc := 48) hC hE dX6_add_48 ⟨⟨_, rfl⟩, ⟨Or.inl ⟨g6, z_u_s _ _ _ _, hm.u (by decide)⟩, zKm.rf.u (by decide)⟩⟩
set_option maxHeartbeats 4000000 in
set_option maxRecDepth 100000 in
theorem kR6_remove (lx : Launch) (g : zG) (N : Nat) (I : Nat → Nat → Int32) (P : Nat → Nat → Option Nat) (J : Nat → Nat → Int64) {σ : zS} (hm : zMd σ I) (x : Int32) : z_Ct lx yX6_remove (zT yX6_remove cX6_remove 4 (Option.some FieldType.int)) ({ frames := 2, cells := 0, slots := 0, locals := 43 } : Room) g N I P J [.ref (g.1 95), .int x] (fun v I' P' J' => (∃ z, v = some (.int z)) ∧ ((zbx σ x = false ∧ I' 95 3 = 1 ∧ zMd σ I') ∨ ((zbx σ x = true ∧ x = 0 ∧ I' 95 3 = 2 ∧ zMd σ I') ∨ ∃ b, x = nI b ∧ b < 40 ∧ sEx σ b = true ∧ b ≠ 0 ∧ v = some (.int (sCutC σ b 40)) ∧ I' 95 3 = 0 ∧ zMd (sRem σ b) I')) ∧ zKm I P J I' P' J') 0 0 := by
  refine z_of (by decide) (Nat.le_of_ble_eq_true rfl) (lv0 := [(0, .ref (g.1 95)), (1, .int x)]) rfl ?_
  intro C hlx hC hE hRm
  have hC : zX C cX6_remove 4 RX6 (zT yX6_remove cX6_remove 4 (Option.some FieldType.int)) g N := hC
  refine z_aload_n (pc := 0) hC 0 dX6_remove_0 rfl rfl z_isr_r ?_
  refine z_aload_n (pc := 1) hC 0 dX6_remove_1 rfl rfl z_isr_r ?_
  refine z_iload_n (pc := 2) hC 1 dX6_remove_2 rfl rfl ?_
  refine z_cV (pc := 3) (st := [.ref (g.1 95)]) hC [.int x] (kX6_isBox C.2.1 g N I P J hm x) rfl (z_lt hC (by decide)) rfl zkX6_isBox zm_4_131 ⟨rfl, rfl⟩ rfl rfl hRm ⟨Nat.le_of_ble_eq_true rfl, Nat.le_of_ble_eq_true rfl⟩ (Nat.le_of_ble_eq_true rfl) ⟨Nat.zero_le _, Nat.zero_le _⟩ dX6_remove_3 ?_
  refine z_if_ne (pc := 6) (tgt := 13) hC dX6_remove_6 (by decide) (fun h6 => ?_) (fun h6 => ?_)
  · skip
    have g6 := zB_t h6
    obtain ⟨b, rfl, hb, he⟩ := zbx_iff.mp g6
    refine z_iload_n (pc := 13) hC 1 dX6_remove_13 rfl rfl ?_
    refine z_if_ne (pc := 14) (tgt := 21) hC dX6_remove_14 (by decide) (fun h14 => ?_) (fun h14 => ?_)
    · skip
      have h0 : b ≠ 0 := fun e => h14 (by rw [e]; rfl)
      refine z_iconst (pc := 21) (v := 0) hC dX6_remove_21 rfl ?_
      refine z_pI (pc := 22) hC 6 3 rfl (z_lt hC (by decide)) rfl inX6 tyX6_ok nmX6 (by decide) rfl zm_4_76 rfl rfl rfl dX6_remove_22 ?_
      refine z_aload_n (pc := 25) hC 0 dX6_remove_25 rfl rfl z_isr_r ?_
      refine z_gI (pc := 26) hC 6 3 (x := 0) rfl (z_lt hC (by decide)) rfl inX6 (by decide) rfl zm_4_76 (z_u_s _ _ _ _) dX6_remove_26 ?_
      refine z_if_eq (pc := 29) (tgt := 34) hC dX6_remove_29 (by decide) (fun h29 => ?_) (fun h29 => ?_)
      · skip
        refine z_iconst (pc := 34) (v := 1) hC dX6_remove_34 rfl ?_
        refine z_istore_n (pc := 35) (lv' := [(2, .int 1), (0, .ref (g.1 95)), (1, .int (nI b))]) hC dX6_remove_35 rfl (by decide) rfl ?_
        refine z_aload_n (pc := 36) hC 1 dX6_remove_36 rfl rfl z_isr_r ?_
        refine z_gF (pc := 37) hC 6 0 (t := 96) rfl (z_lt hC (by decide)) rfl inX6 (by decide) rfl zm_4_73 rfl dX6_remove_37 ?_
        refine z_iconst (pc := 40) (v := 3) hC dX6_remove_40 rfl ?_
        refine z_iload_n (pc := 41) hC 2 dX6_remove_41 rfl rfl ?_
        refine z_iadd (pc := 42) hC dX6_remove_42 ?_
        refine z_bipush (pc := 43) (v := (-2)) hC dX6_remove_43 rfl ?_
        refine z_isN (pc := 45) hC (3 + b) rfl (z_lt hC (by decide)) (zix3 b) (by omega) (by decide) dX6_remove_45 ?_
        refine z_iload_n (pc := 46) hC 2 dX6_remove_46 rfl rfl ?_
        refine z_iconst (pc := 47) (v := 1) hC dX6_remove_47 rfl ?_
        refine z_iadd (pc := 48) hC dX6_remove_48 ?_
        refine z_istore_n (pc := 49) (lv' := [(3, .int ((nI b) + 1)), (2, .int 1), (0, .ref (g.1 95)), (1, .int (nI b))]) hC dX6_remove_49 rfl (by decide) rfl ?_
        rw [nI_1]
        have L50 : ∀ (zf : Nat) (n : Nat) (Ir : Nat → Nat → Int32) (hn : n ≤ sGv σ) (hbn : b < n) (hz : zmc σ b n (z_u I 95 3 0) Ir), sGv σ - n < zf → zJ C g N 4 0 0 Ir P J 50 [(3, .int (nI n)), (2, .int (sCutC σ b n)), (0, .ref (g.1 95)), (1, .int (nI b))] [] := by
          intro zf
          induction zf with
          | zero =>
            intro n Ir hn hbn hz hn2
            exact absurd hn2 (Nat.not_lt_zero _)
          | succ zf ih =>
            intro n Ir hn hbn hz hn2
            refine z_iload_n (pc := 50) hC 0 dX6_remove_50 rfl rfl ?_
            refine z_aload_n (pc := 51) hC 2 dX6_remove_51 rfl rfl z_isr_r ?_
            refine z_gF (pc := 52) hC 6 0 (t := 96) rfl (z_lt hC (by decide)) rfl inX6 (by decide) rfl zm_4_73 rfl dX6_remove_52 ?_
            refine z_iconst (pc := 55) (v := 0) hC dX6_remove_55 rfl ?_
            refine z_iaN (pc := 56) hC 0 (x := nI (sGv σ)) rfl (z_lt hC (by decide)) rfl (by decide) (by decide) ((hz.1 96 0 (by omega)).trans (hm.u (i := 95) (by decide)).2.1) dX6_remove_56 ?_
            refine z_icmp_ge (pc := 57) (tgt := 118) hC dX6_remove_57 (by decide) (fun h57 => ?_) (fun h57 => ?_)
            · skip
              have g57 := Int32.not_lt.mpr h57
              have en : n = sGv σ := Nat.le_antisymm hn (zc_ge h57 (by have := hm.gv; omega) (by have := hm.gv; omega))
              refine z_iload_n (pc := 118) hC 1 dX6_remove_118 rfl rfl ?_
              exact z_iret (pc := 119) hC hE dX6_remove_119 ⟨⟨_, rfl⟩, (by subst en; exact ⟨Or.inr (Or.inr ⟨b, rfl, hb, he, h0, by rw [sCutC_gv hm.1], (hz.1 95 3 (by omega)).trans (z_u_s _ _ _ _), zmc_end (hm.u (by decide)) h0 (sRem_wf hm.1 h0) hz⟩), rfl, fun _ _ _ => rfl, fun q j hq => (hz.1 q j (by omega)).trans (z_u_a _ _ (by omega))⟩)⟩
            · skip
              have g57 := Int32.not_le.mp h57
              have hng : n < sGv σ := zc_lt h57 (by have := hm.gv; omega) (by have := hm.gv; omega)
              have hn40 : n < 40 := by have := hm.gv; omega
              refine z_aload_n (pc := 60) hC 2 dX6_remove_60 rfl rfl z_isr_r ?_
              refine z_iload_n (pc := 61) hC 0 dX6_remove_61 rfl rfl ?_
              refine z_cV (pc := 62) (st := []) hC [.int (nI n)] (kX6_isBoxP C.2.1 g N Ir P J n (sGv σ) hng hm.gv.2 ((hz.1 96 0 (by omega)).trans (hm.u (i := 95) (by decide)).2.1) (if sCut σ b n n = true then sPnu σ n else -2) (hz.2 n hng)) rfl (z_lt hC (by decide)) rfl zkX6_isBox zm_4_131 ⟨rfl, rfl⟩ rfl rfl hRm ⟨Nat.le_of_ble_eq_true rfl, Nat.le_of_ble_eq_true rfl⟩ (Nat.le_of_ble_eq_true rfl) ⟨Nat.zero_le _, Nat.zero_le _⟩ dX6_remove_62 ?_
              refine z_if_eq (pc := 65) (tgt := 112) hC dX6_remove_65 (by decide) (fun h65 => ?_) (fun h65 => ?_)
              · skip
                have g65 := zB_f h65
                have hcf := zcx_f hm.1 (of_decide_eq_false g65)
                refine z_iinc (pc := 112) (v := nI (n + 1)) (lv' := [(3, .int (nI (n + 1))), (2, .int (sCutC σ b n)), (0, .ref (g.1 95)), (1, .int (nI b))]) hC 0 dX6_remove_112 rfl (nI_1 n) (by decide) rfl ?_
                refine z_goto (pc := 115) (tgt := 50) hC dX6_remove_115 (by decide) ?_
                have K := ih (n + 1) Ir (by omega) (by omega) (zmc_n hbn hz (fun q => by rw [hcf] at q; cases q)) (by omega)
                rw [show sCutC σ b (n + 1) = sCutC σ b n from by rw [sCutC_s, if_neg (fun q => by rw [hcf] at q; exact absurd q.2.1 (by decide))]] at K
                exact K
              · skip
                have g65 := zB_t h65
                have hcn := zcx_t (of_decide_eq_true g65)
                have hen := (sCut_ex hcn).1
                have hpl := sPa_lt hm.1 hen (by omega)
                refine z_aload_n (pc := 68) hC 2 dX6_remove_68 rfl rfl z_isr_r ?_
                refine z_gF (pc := 69) hC 6 0 (t := 96) rfl (z_lt hC (by decide)) rfl inX6 (by decide) rfl zm_4_73 rfl dX6_remove_69 ?_
                refine z_iconst (pc := 72) (v := 3) hC dX6_remove_72 rfl ?_
                refine z_iload_n (pc := 73) hC 0 dX6_remove_73 rfl rfl ?_
                refine z_iadd (pc := 74) hC dX6_remove_74 ?_
                refine z_iaN (pc := 75) hC (3 + n) (x := nI (sPa σ n)) rfl (z_lt hC (by decide)) (zix3 n) (by omega) (by decide) ((hz.2 n hng).trans ((if_pos hcn).trans (if_neg (by omega)))) dX6_remove_75 ?_
                refine z_if_le (pc := 76) (tgt := 112) hC dX6_remove_76 (by decide) (fun h76 => ?_) (fun h76 => ?_)
                · skip
                  have g76 := Int32.not_lt.mpr h76
                  have hp0 : sCut σ b n (sPa σ n) = true := by rw [z3_pa h76 (by omega)]; exact zcut_0 hm.1 h0
                  refine z_iinc (pc := 112) (v := nI (n + 1)) (lv' := [(3, .int (nI (n + 1))), (2, .int (sCutC σ b n)), (0, .ref (g.1 95)), (1, .int (nI b))]) hC 0 dX6_remove_112 rfl (nI_1 n) (by decide) rfl ?_
                  refine z_goto (pc := 115) (tgt := 50) hC dX6_remove_115 (by decide) ?_
                  have K := ih (n + 1) Ir (by omega) (by omega) (zmc_n hbn hz (fun _ => hp0)) (by omega)
                  rw [show sCutC σ b (n + 1) = sCutC σ b n from by rw [sCutC_s, if_neg (fun q => by rw [hp0] at q; exact absurd q.2.2 (by decide))]] at K
                  exact K
                · skip
                  have g76 := Int32.not_le.mp h76
                  refine z_aload_n (pc := 79) hC 2 dX6_remove_79 rfl rfl z_isr_r ?_
                  refine z_gF (pc := 80) hC 6 0 (t := 96) rfl (z_lt hC (by decide)) rfl inX6 (by decide) rfl zm_4_73 rfl dX6_remove_80 ?_
                  refine z_iconst (pc := 83) (v := 3) hC dX6_remove_83 rfl ?_
                  refine z_aload_n (pc := 84) hC 2 dX6_remove_84 rfl rfl z_isr_r ?_
                  refine z_gF (pc := 85) hC 6 0 (t := 96) rfl (z_lt hC (by decide)) rfl inX6 (by decide) rfl zm_4_73 rfl dX6_remove_85 ?_
                  refine z_iconst (pc := 88) (v := 3) hC dX6_remove_88 rfl ?_
                  refine z_iload_n (pc := 89) hC 0 dX6_remove_89 rfl rfl ?_
                  refine z_iadd (pc := 90) hC dX6_remove_90 ?_
                  refine z_iaN (pc := 91) hC (3 + n) (x := nI (sPa σ n)) rfl (z_lt hC (by decide)) (zix3 n) (by omega) (by decide) ((hz.2 n hng).trans ((if_pos hcn).trans (if_neg (by omega)))) dX6_remove_91 ?_
                  refine z_iadd (pc := 92) hC dX6_remove_92 ?_
                  refine z_iaN (pc := 93) hC (3 + sPa σ n) (x := (if sCut σ b n (sPa σ n) = true then sPnu σ (sPa σ n) else -2)) rfl (z_lt hC (by decide)) (zix3 (sPa σ n)) (by omega) (by decide) (hz.2 (sPa σ n) (by omega)) dX6_remove_93 ?_
                  refine z_bipush (pc := 94) (v := (-2)) hC dX6_remove_94 rfl ?_
                  refine z_icmp_ne (pc := 96) (tgt := 112) hC dX6_remove_96 (by decide) (fun h96 => ?_) (fun h96 => ?_)
                  · skip
                    refine z_iinc (pc := 112) (v := nI (n + 1)) (lv' := [(3, .int (nI (n + 1))), (2, .int (sCutC σ b n)), (0, .ref (g.1 95)), (1, .int (nI b))]) hC 0 dX6_remove_112 rfl (nI_1 n) (by decide) rfl ?_
                    refine z_goto (pc := 115) (tgt := 50) hC dX6_remove_115 (by decide) ?_
                    have K := ih (n + 1) Ir (by omega) (by omega) (zmc_n hbn hz (fun _ => zcy_t h96)) (by omega)
                    rw [show sCutC σ b (n + 1) = sCutC σ b n from by rw [sCutC_s, if_neg (fun q => by rw [zcy_t h96] at q; exact absurd q.2.2 (by decide))]] at K
                    exact K
                  · skip
                    refine z_aload_n (pc := 99) hC 2 dX6_remove_99 rfl rfl z_isr_r ?_
                    refine z_gF (pc := 100) hC 6 0 (t := 96) rfl (z_lt hC (by decide)) rfl inX6 (by decide) rfl zm_4_73 rfl dX6_remove_100 ?_
                    refine z_iconst (pc := 103) (v := 3) hC dX6_remove_103 rfl ?_
                    refine z_iload_n (pc := 104) hC 0 dX6_remove_104 rfl rfl ?_
                    refine z_iadd (pc := 105) hC dX6_remove_105 ?_
                    refine z_bipush (pc := 106) (v := (-2)) hC dX6_remove_106 rfl ?_
                    refine z_isN (pc := 108) hC (3 + n) rfl (z_lt hC (by decide)) (zix3 n) (by omega) (by decide) dX6_remove_108 ?_
                    refine z_iinc (pc := 109) (v := (sCutC σ b n) + 1) (lv' := [(2, .int ((sCutC σ b n) + 1)), (3, .int (nI n)), (0, .ref (g.1 95)), (1, .int (nI b))]) hC 1 dX6_remove_109 rfl rfl (by decide) rfl ?_
                    refine z_iinc (pc := 112) (v := nI (n + 1)) (lv' := [(3, .int (nI (n + 1))), (2, .int ((sCutC σ b n) + 1)), (0, .ref (g.1 95)), (1, .int (nI b))]) hC 1 dX6_remove_112 rfl (nI_1 n) (by decide) rfl ?_
                    refine z_goto (pc := 115) (tgt := 50) hC dX6_remove_115 (by decide) ?_
                    have K := ih (n + 1) _ (by omega) (by omega) (zmc_s hbn hn40 hz (zcy_f hm.1 h96)) (by omega)
                    rw [show sCutC σ b (n + 1) = (sCutC σ b n) + 1 from by rw [sCutC_s, if_pos ⟨hbn, hcn, zcy_f hm.1 h96⟩]] at K
                    exact K
        have K := L50 41 (b + 1) _ (by have := (hm.lt he).1; omega) (by omega) (zmc_0 (hm.u (i := 95) (k := 3) (v := 0) (by decide)) hb) (by have := hm.gv; omega)
        rw [(sCut_low (σ := σ) (t := b) (Nat.le_refl (b + 1))).2] at K
        exact K
      · skip
        exact absurd h29 (by decide)
    · skip
      refine z_iconst (pc := 17) (v := 2) hC dX6_remove_17 rfl ?_
      refine z_goto (pc := 18) (tgt := 22) hC dX6_remove_18 (by decide) ?_
      refine z_pI (pc := 22) hC 6 3 rfl (z_lt hC (by decide)) rfl inX6 tyX6_ok nmX6 (by decide) rfl zm_4_76 rfl rfl rfl dX6_remove_22 ?_
      refine z_aload_n (pc := 25) hC 0 dX6_remove_25 rfl rfl z_isr_r ?_
      refine z_gI (pc := 26) hC 6 3 (x := 2) rfl (z_lt hC (by decide)) rfl inX6 (by decide) rfl zm_4_76 (z_u_s _ _ _ _) dX6_remove_26 ?_
      refine z_if_eq (pc := 29) (tgt := 34) hC dX6_remove_29 (by decide) (fun h29 => ?_) (fun h29 => ?_)
      · skip
        exact absurd h29 (by decide)
      · skip
        refine z_iconst (pc := 32) (v := 0) hC dX6_remove_32 rfl ?_
        exact z_iret (pc := 33) hC hE dX6_remove_33 ⟨⟨_, rfl⟩, ⟨Or.inr (Or.inl ⟨g6, h14, z_u_s _ _ _ _, hm.u (by decide)⟩), zKm.rf.u (by decide)⟩⟩
  · skip
    have g6 := zB_f h6
    refine z_iconst (pc := 9) (v := 1) hC dX6_remove_9 rfl ?_
    refine z_goto (pc := 10) (tgt := 22) hC dX6_remove_10 (by decide) ?_
    refine z_pI (pc := 22) hC 6 3 rfl (z_lt hC (by decide)) rfl inX6 tyX6_ok nmX6 (by decide) rfl zm_4_76 rfl rfl rfl dX6_remove_22 ?_
    refine z_aload_n (pc := 25) hC 0 dX6_remove_25 rfl rfl z_isr_r ?_
    refine z_gI (pc := 26) hC 6 3 (x := 1) rfl (z_lt hC (by decide)) rfl inX6 (by decide) rfl zm_4_76 (z_u_s _ _ _ _) dX6_remove_26 ?_
    refine z_if_eq (pc := 29) (tgt := 34) hC dX6_remove_29 (by decide) (fun h29 => ?_) (fun h29 => ?_)
    · skip
      exact absurd h29 (by decide)
    · skip
      refine z_iconst (pc := 32) (v := 0) hC dX6_remove_32 rfl ?_
      exact z_iret (pc := 33) hC hE dX6_remove_33 ⟨⟨_, rfl⟩, ⟨Or.inl ⟨g6, z_u_s _ _ _ _, hm.u (by decide)⟩, zKm.rf.u (by decide)⟩⟩
set_option maxHeartbeats 4000000 in
set_option maxRecDepth 100000 in
theorem kR6_parent (lx : Launch) (g : zG) (N : Nat) (I : Nat → Nat → Int32) (P : Nat → Nat → Option Nat) (J : Nat → Nat → Int64) {σ : zS} (hm : zMd σ I) (x : Int32) : z_Ct lx yX6_parent (zT yX6_parent cX6_parent 2 (Option.some FieldType.int)) ({ frames := 2, cells := 0, slots := 0, locals := 43 } : Room) g N I P J [.ref (g.1 95), .int x] (fun v I' P' J' => (∃ z, v = some (.int z)) ∧ ((zbx σ x = false ∧ I' 95 3 = 1) ∨ ∃ b, x = nI b ∧ b < 40 ∧ sEx σ b = true ∧ v = some (.int (sPnu σ b)) ∧ I' 95 3 = 0) ∧ zMd σ I' ∧ zKm I P J I' P' J') 0 0 := by
  refine z_of (by decide) (Nat.le_of_ble_eq_true rfl) (lv0 := [(0, .ref (g.1 95)), (1, .int x)]) rfl ?_
  intro C hlx hC hE hRm
  have hC : zX C cX6_parent 2 RX6 (zT yX6_parent cX6_parent 2 (Option.some FieldType.int)) g N := hC
  refine z_aload_n (pc := 0) hC 0 dX6_parent_0 rfl rfl z_isr_r ?_
  refine z_aload_n (pc := 1) hC 0 dX6_parent_1 rfl rfl z_isr_r ?_
  refine z_iload_n (pc := 2) hC 1 dX6_parent_2 rfl rfl ?_
  refine z_cV (pc := 3) (st := [.ref (g.1 95)]) hC [.int x] (kX6_isBox C.2.1 g N I P J hm x) rfl (z_lt hC (by decide)) rfl zkX6_isBox zm_4_131 ⟨rfl, rfl⟩ rfl rfl hRm ⟨Nat.le_of_ble_eq_true rfl, Nat.le_of_ble_eq_true rfl⟩ (Nat.le_of_ble_eq_true rfl) ⟨Nat.zero_le _, Nat.zero_le _⟩ dX6_parent_3 ?_
  refine z_if_eq (pc := 6) (tgt := 13) hC dX6_parent_6 (by decide) (fun h6 => ?_) (fun h6 => ?_)
  · skip
    have g6 := zB_f h6
    refine z_iconst (pc := 13) (v := 1) hC dX6_parent_13 rfl ?_
    refine z_pI (pc := 14) hC 6 3 rfl (z_lt hC (by decide)) rfl inX6 tyX6_ok nmX6 (by decide) rfl zm_4_76 rfl rfl rfl dX6_parent_14 ?_
    refine z_aload_n (pc := 17) hC 0 dX6_parent_17 rfl rfl z_isr_r ?_
    refine z_gI (pc := 18) hC 6 3 (x := 1) rfl (z_lt hC (by decide)) rfl inX6 (by decide) rfl zm_4_76 (z_u_s _ _ _ _) dX6_parent_18 ?_
    refine z_if_eq (pc := 21) (tgt := 28) hC dX6_parent_21 (by decide) (fun h21 => ?_) (fun h21 => ?_)
    · skip
      exact absurd h21 (by decide)
    · skip
      refine z_iconst (pc := 24) (v := 0) hC dX6_parent_24 rfl ?_
      refine z_goto (pc := 25) (tgt := 36) hC dX6_parent_25 (by decide) ?_
      exact z_iret (pc := 36) hC hE dX6_parent_36 ⟨⟨_, rfl⟩, ⟨Or.inl ⟨g6, z_u_s _ _ _ _⟩, hm.u (by decide), zKm.rf.u (by decide)⟩⟩
  · skip
    have g6 := zB_t h6
    obtain ⟨b, rfl, hb, he⟩ := zbx_iff.mp g6
    refine z_iconst (pc := 9) (v := 0) hC dX6_parent_9 rfl ?_
    refine z_goto (pc := 10) (tgt := 14) hC dX6_parent_10 (by decide) ?_
    refine z_pI (pc := 14) hC 6 3 rfl (z_lt hC (by decide)) rfl inX6 tyX6_ok nmX6 (by decide) rfl zm_4_76 rfl rfl rfl dX6_parent_14 ?_
    refine z_aload_n (pc := 17) hC 0 dX6_parent_17 rfl rfl z_isr_r ?_
    refine z_gI (pc := 18) hC 6 3 (x := 0) rfl (z_lt hC (by decide)) rfl inX6 (by decide) rfl zm_4_76 (z_u_s _ _ _ _) dX6_parent_18 ?_
    refine z_if_eq (pc := 21) (tgt := 28) hC dX6_parent_21 (by decide) (fun h21 => ?_) (fun h21 => ?_)
    · skip
      refine z_aload_n (pc := 28) hC 0 dX6_parent_28 rfl rfl z_isr_r ?_
      refine z_gF (pc := 29) hC 6 0 (t := 96) rfl (z_lt hC (by decide)) rfl inX6 (by decide) rfl zm_4_73 rfl dX6_parent_29 ?_
      refine z_iconst (pc := 32) (v := 3) hC dX6_parent_32 rfl ?_
      refine z_iload_n (pc := 33) hC 1 dX6_parent_33 rfl rfl ?_
      refine z_iadd (pc := 34) hC dX6_parent_34 ?_
      refine z_iaN (pc := 35) hC (3 + b) (x := sPnu σ b) rfl (z_lt hC (by decide)) (zix3 b) (by omega) (by decide) ((z_u_a _ _ (by decide)).trans (hm.pa he)) dX6_parent_35 ?_
      exact z_iret (pc := 36) hC hE dX6_parent_36 ⟨⟨_, rfl⟩, ⟨Or.inr ⟨b, rfl, hb, he, rfl, z_u_s _ _ _ _⟩, hm.u (by decide), zKm.rf.u (by decide)⟩⟩
    · skip
      exact absurd h21 (by decide)
set_option maxHeartbeats 4000000 in
set_option maxRecDepth 100000 in
theorem kR6_child (lx : Launch) (g : zG) (N : Nat) (I : Nat → Nat → Int32) (P : Nat → Nat → Option Nat) (J : Nat → Nat → Int64) {σ : zS} (hm : zMd σ I) (x i : Int32) : z_Ct lx yX6_child (zT yX6_child cX6_child 3 (Option.some FieldType.int)) ({ frames := 4, cells := 0, slots := 0, locals := 88 } : Room) g N I P J [.ref (g.1 95), .int x, .int i] (fun v I' P' J' => (∃ z, v = some (.int z)) ∧ ((zbx σ x = false ∧ I' 95 3 = 1) ∨ ∃ b, x = nI b ∧ b < 40 ∧ sEx σ b = true ∧ v = some (.int (sChl σ b i)) ∧ I' 95 3 = 0) ∧ zMd σ I' ∧ zKm I P J I' P' J') 0 0 := by
  refine z_of (by decide) (Nat.le_of_ble_eq_true rfl) (lv0 := [(0, .ref (g.1 95)), (1, .int x), (2, .int i)]) rfl ?_
  intro C hlx hC hE hRm
  have hC : zX C cX6_child 3 RX6 (zT yX6_child cX6_child 3 (Option.some FieldType.int)) g N := hC
  refine z_aload_n (pc := 0) hC 0 dX6_child_0 rfl rfl z_isr_r ?_
  refine z_aload_n (pc := 1) hC 0 dX6_child_1 rfl rfl z_isr_r ?_
  refine z_iload_n (pc := 2) hC 1 dX6_child_2 rfl rfl ?_
  refine z_cV (pc := 3) (st := [.ref (g.1 95)]) hC [.int x] (kX6_isBox C.2.1 g N I P J hm x) rfl (z_lt hC (by decide)) rfl zkX6_isBox zm_4_131 ⟨rfl, rfl⟩ rfl rfl hRm ⟨Nat.le_of_ble_eq_true rfl, Nat.le_of_ble_eq_true rfl⟩ (Nat.le_of_ble_eq_true rfl) ⟨Nat.zero_le _, Nat.zero_le _⟩ dX6_child_3 ?_
  refine z_if_eq (pc := 6) (tgt := 13) hC dX6_child_6 (by decide) (fun h6 => ?_) (fun h6 => ?_)
  · skip
    have g6 := zB_f h6
    refine z_iconst (pc := 13) (v := 1) hC dX6_child_13 rfl ?_
    refine z_pI (pc := 14) hC 6 3 rfl (z_lt hC (by decide)) rfl inX6 tyX6_ok nmX6 (by decide) rfl zm_4_76 rfl rfl rfl dX6_child_14 ?_
    refine z_aload_n (pc := 17) hC 0 dX6_child_17 rfl rfl z_isr_r ?_
    refine z_gI (pc := 18) hC 6 3 (x := 1) rfl (z_lt hC (by decide)) rfl inX6 (by decide) rfl zm_4_76 (z_u_s _ _ _ _) dX6_child_18 ?_
    refine z_if_eq (pc := 21) (tgt := 26) hC dX6_child_21 (by decide) (fun h21 => ?_) (fun h21 => ?_)
    · skip
      exact absurd h21 (by decide)
    · skip
      refine z_iconst (pc := 24) (v := 0) hC dX6_child_24 rfl ?_
      exact z_iret (pc := 25) hC hE dX6_child_25 ⟨⟨_, rfl⟩, ⟨Or.inl ⟨g6, z_u_s _ _ _ _⟩, hm.u (by decide), zKm.rf.u (by decide)⟩⟩
  · skip
    have g6 := zB_t h6
    obtain ⟨b, rfl, hb, he⟩ := zbx_iff.mp g6
    refine z_iconst (pc := 9) (v := 0) hC dX6_child_9 rfl ?_
    refine z_goto (pc := 10) (tgt := 14) hC dX6_child_10 (by decide) ?_
    refine z_pI (pc := 14) hC 6 3 rfl (z_lt hC (by decide)) rfl inX6 tyX6_ok nmX6 (by decide) rfl zm_4_76 rfl rfl rfl dX6_child_14 ?_
    refine z_aload_n (pc := 17) hC 0 dX6_child_17 rfl rfl z_isr_r ?_
    refine z_gI (pc := 18) hC 6 3 (x := 0) rfl (z_lt hC (by decide)) rfl inX6 (by decide) rfl zm_4_76 (z_u_s _ _ _ _) dX6_child_18 ?_
    refine z_if_eq (pc := 21) (tgt := 26) hC dX6_child_21 (by decide) (fun h21 => ?_) (fun h21 => ?_)
    · skip
      refine z_aload_n (pc := 26) hC 0 dX6_child_26 rfl rfl z_isr_r ?_
      refine z_iload_n (pc := 27) hC 1 dX6_child_27 rfl rfl ?_
      refine z_callV (pc := 28) (st := []) hC [.int (nI b)] ((kX6_layKids C.2.1 g N (z_u I 95 3 0) P J (hm.u (show 96 ≠ 95 by decide)) b he)) rfl (z_lt hC (by decide)) rfl zkX6_layKids zm_4_154 ⟨rfl, rfl⟩ rfl rfl hRm ⟨Nat.le_of_ble_eq_true rfl, Nat.le_of_ble_eq_true rfl⟩ (Nat.le_of_ble_eq_true rfl) ⟨Nat.zero_le _, Nat.zero_le _⟩ dX6_child_28 ?_
      intro v I2 P2 J2 hq
      obtain ⟨hv, hP2, hJ2, hfr, hkq⟩ := hq
      subst hv
      rw [hP2, hJ2]
      have hm2 := (hm.u (k := 3) (v := 0) (show 96 ≠ 95 by decide)).eq (fun k => hfr 96 k (by decide) (by omega))
      have h3 : I2 95 3 = 0 := (hfr 95 3 (by decide) (by omega)).trans (z_u_s _ _ _ _)
      have hkm : zKm I P J I2 P J := ⟨rfl, fun _ _ _ => rfl, fun q j hq => (hfr q j (by omega) (by omega)).trans (z_u_a _ _ (by omega))⟩
      show zJ C g N 3 0 0 I2 P J 31 [(0, .ref (g.1 95)), (1, .int (nI b)), (2, .int i)] []
      refine z_iload_n (pc := 31) hC 2 dX6_child_31 rfl rfl ?_
      refine z_iconst (pc := 32) (v := (-1)) hC dX6_child_32 rfl ?_
      refine z_icmp_ne (pc := 33) (tgt := 43) hC dX6_child_33 (by decide) (fun h33 => ?_) (fun h33 => ?_)
      · skip
        refine z_iload_n (pc := 43) hC 2 dX6_child_43 rfl rfl ?_
        refine z_iconst (pc := 44) (v := 0) hC dX6_child_44 rfl ?_
        refine z_aload_n (pc := 45) hC 0 dX6_child_45 rfl rfl z_isr_r ?_
        refine z_gI (pc := 46) hC 6 5 (x := nI (kn σ b)) rfl (z_lt hC (by decide)) rfl inX6 (by decide) rfl zm_4_78 hkq.1 dX6_child_46 ?_
        refine z_iconst (pc := 49) (v := 1) hC dX6_child_49 rfl ?_
        refine z_isub (pc := 50) hC dX6_child_50 ?_
        refine z_cS (pc := 51) (st := []) hC [.int i, .int 0, .int ((nI (kn σ b)) - 1)] (kX6_in C.2.1 g N I2 P J i 0 ((nI (kn σ b)) - 1)) zkX6_in zm_4_135 ⟨rfl, rfl⟩ rfl rfl hRm ⟨Nat.le_of_ble_eq_true rfl, Nat.le_of_ble_eq_true rfl⟩ (Nat.le_of_ble_eq_true rfl) ⟨Nat.zero_le _, Nat.zero_le _⟩ dX6_child_51 ?_
        refine z_if_eq (pc := 54) (tgt := 66) hC dX6_child_54 (by decide) (fun h54 => ?_) (fun h54 => ?_)
        · skip
          have g54 := zB_f h54
          refine z_iconst (pc := 66) (v := (-1)) hC dX6_child_66 rfl ?_
          exact z_iret (pc := 67) hC hE dX6_child_67 ⟨⟨_, rfl⟩, ⟨Or.inr ⟨b, rfl, hb, he, by unfold sChl; rw [if_neg h33, if_neg (zkn_out hm.1 (of_decide_eq_false g54))], h3⟩, hm2, hkm⟩⟩
        · skip
          have g54 := zB_t h54
          obtain ⟨q0, q1⟩ := of_decide_eq_true g54
          obtain ⟨k, hk, rfl⟩ := zkn_nI hm.1 q0 q1
          refine z_aload_n (pc := 57) hC 0 dX6_child_57 rfl rfl z_isr_r ?_
          refine z_gF (pc := 58) hC 6 4 (t := 99) rfl (z_lt hC (by decide)) rfl inX6 (by decide) rfl zm_4_77 rfl dX6_child_58 ?_
          refine z_iload_n (pc := 61) hC 2 dX6_child_61 rfl rfl ?_
          refine z_iaN (pc := 62) hC k (x := nI (kd σ b k)) rfl (z_lt hC (by decide)) rfl (by have := kn_le hm.1 b; omega) (by decide) (hkq.2 k hk) dX6_child_62 ?_
          refine z_goto (pc := 63) (tgt := 67) hC dX6_child_63 (by decide) ?_
          exact z_iret (pc := 67) hC hE dX6_child_67 ⟨⟨_, rfl⟩, ⟨Or.inr ⟨b, rfl, hb, he, by rw [sChl_k hm.1 hk rfl], h3⟩, hm2, hkm⟩⟩
      · skip
        refine z_aload_n (pc := 36) hC 0 dX6_child_36 rfl rfl z_isr_r ?_
        refine z_gI (pc := 37) hC 6 5 (x := nI (kn σ b)) rfl (z_lt hC (by decide)) rfl inX6 (by decide) rfl zm_4_78 hkq.1 dX6_child_37 ?_
        refine z_goto (pc := 40) (tgt := 67) hC dX6_child_40 (by decide) ?_
        exact z_iret (pc := 67) hC hE dX6_child_67 ⟨⟨_, rfl⟩, ⟨Or.inr ⟨b, rfl, hb, he, by unfold sChl; rw [if_pos h33], h3⟩, hm2, hkm⟩⟩
    · skip
      exact absurd h21 (by decide)
set_option maxHeartbeats 4000000 in
set_option maxRecDepth 100000 in
theorem kR6_set (lx : Launch) (g : zG) (N : Nat) (I : Nat → Nat → Int32) (P : Nat → Nat → Option Nat) (J : Nat → Nat → Int64) {σ : zS} (hm : zMd σ I) (x q v : Int32) : z_Ct lx yX6_set (zT yX6_set cX6_set 5 (Option.some FieldType.int)) ({ frames := 2, cells := 0, slots := 0, locals := 43 } : Room) g N I P J [.ref (g.1 95), .int x, .int q, .int v] (fun r I' P' J' => (∃ z, r = some (.int z)) ∧ ((zbx σ x = false ∧ I' 95 3 = 1 ∧ zMd σ I') ∨ ((zbx σ x = true ∧ ¬ sOk q v ∧ I' 95 3 = 2 ∧ zMd σ I') ∨ ∃ b k, x = nI b ∧ q = nI k ∧ b < 40 ∧ sEx σ b = true ∧ k < 20 ∧ (z_st 0 k ≤ v ∧ v ≤ z_st 1 k) ∧ r = some (.int (sSt σ b k)) ∧ I' 95 3 = 0 ∧ zMd (sSet σ b k v) I')) ∧ zKm I P J I' P' J') 0 0 := by
  refine z_of (by decide) (Nat.le_of_ble_eq_true rfl) (lv0 := [(0, .ref (g.1 95)), (1, .int x), (2, .int q), (3, .int v)]) rfl ?_
  intro C hlx hC hE hRm
  have hC : zX C cX6_set 5 RX6 (zT yX6_set cX6_set 5 (Option.some FieldType.int)) g N := hC
  refine z_aload_n (pc := 0) hC 0 dX6_set_0 rfl rfl z_isr_r ?_
  refine z_aload_n (pc := 1) hC 0 dX6_set_1 rfl rfl z_isr_r ?_
  refine z_iload_n (pc := 2) hC 1 dX6_set_2 rfl rfl ?_
  refine z_cV (pc := 3) (st := [.ref (g.1 95)]) hC [.int x] (kX6_isBox C.2.1 g N I P J hm x) rfl (z_lt hC (by decide)) rfl zkX6_isBox zm_4_131 ⟨rfl, rfl⟩ rfl rfl hRm ⟨Nat.le_of_ble_eq_true rfl, Nat.le_of_ble_eq_true rfl⟩ (Nat.le_of_ble_eq_true rfl) ⟨Nat.zero_le _, Nat.zero_le _⟩ dX6_set_3 ?_
  refine z_if_ne (pc := 6) (tgt := 13) hC dX6_set_6 (by decide) (fun h6 => ?_) (fun h6 => ?_)
  · skip
    have g6 := zB_t h6
    obtain ⟨b, rfl, hb, he⟩ := zbx_iff.mp g6
    refine z_iload_n (pc := 13) hC 2 dX6_set_13 rfl rfl ?_
    refine z_iconst (pc := 14) (v := 0) hC dX6_set_14 rfl ?_
    refine z_bipush (pc := 15) (v := 19) hC dX6_set_15 rfl ?_
    refine z_cS (pc := 17) (st := [.ref (g.1 95)]) hC [.int q, .int 0, .int 19] (kX6_in C.2.1 g N I P J q 0 19) zkX6_in zm_4_135 ⟨rfl, rfl⟩ rfl rfl hRm ⟨Nat.le_of_ble_eq_true rfl, Nat.le_of_ble_eq_true rfl⟩ (Nat.le_of_ble_eq_true rfl) ⟨Nat.zero_le _, Nat.zero_le _⟩ dX6_set_17 ?_
    refine z_if_eq (pc := 20) (tgt := 38) hC dX6_set_20 (by decide) (fun h20 => ?_) (fun h20 => ?_)
    · skip
      have g20 := zB_f h20
      refine z_iconst (pc := 38) (v := 2) hC dX6_set_38 rfl ?_
      refine z_goto (pc := 39) (tgt := 43) hC dX6_set_39 (by decide) ?_
      refine z_pI (pc := 43) hC 6 3 rfl (z_lt hC (by decide)) rfl inX6 tyX6_ok nmX6 (by decide) rfl zm_4_76 rfl rfl rfl dX6_set_43 ?_
      refine z_aload_n (pc := 46) hC 0 dX6_set_46 rfl rfl z_isr_r ?_
      refine z_gI (pc := 47) hC 6 3 (x := 2) rfl (z_lt hC (by decide)) rfl inX6 (by decide) rfl zm_4_76 (z_u_s _ _ _ _) dX6_set_47 ?_
      refine z_if_eq (pc := 50) (tgt := 55) hC dX6_set_50 (by decide) (fun h50 => ?_) (fun h50 => ?_)
      · skip
        exact absurd h50 (by decide)
      · skip
        refine z_iconst (pc := 53) (v := 0) hC dX6_set_53 rfl ?_
        exact z_iret (pc := 54) hC hE dX6_set_54 ⟨⟨_, rfl⟩, ⟨Or.inr (Or.inl ⟨g6, fun z => by obtain ⟨k2, e2, hk2, _⟩ := z; exact z19n (of_decide_eq_false g20) (by rw [e2]; exact nI_20 hk2), z_u_s _ _ _ _, hm.u (by decide)⟩), zKm.rf.u (by decide)⟩⟩
    · skip
      have g20 := zB_t h20
      obtain ⟨q0, q1⟩ := of_decide_eq_true g20
      obtain ⟨k, hk, rfl⟩ := zi_nI (n := 20) (by decide) q0 (z19 q1)
      refine z_iload_n (pc := 23) hC 3 dX6_set_23 rfl rfl ?_
      refine z_iload_n (pc := 24) hC 2 dX6_set_24 rfl rfl ?_
      refine z_cS (pc := 25) (st := [.int v, .ref (g.1 95)]) hC [.int (nI k)] (kX6_low C.2.1 g N I P J k hk) zkX6_low zm_4_174 ⟨rfl, rfl⟩ rfl rfl hRm ⟨Nat.le_of_ble_eq_true rfl, Nat.le_of_ble_eq_true rfl⟩ (Nat.le_of_ble_eq_true rfl) ⟨Nat.zero_le _, Nat.zero_le _⟩ dX6_set_25 ?_
      refine z_iload_n (pc := 28) hC 2 dX6_set_28 rfl rfl ?_
      refine z_cS (pc := 29) (st := [.int (z_st 0 k), .int v, .ref (g.1 95)]) hC [.int (nI k)] (kX6_high C.2.1 g N I P J k hk) zkX6_high zm_4_177 ⟨rfl, rfl⟩ rfl rfl hRm ⟨Nat.le_of_ble_eq_true rfl, Nat.le_of_ble_eq_true rfl⟩ (Nat.le_of_ble_eq_true rfl) ⟨Nat.zero_le _, Nat.zero_le _⟩ dX6_set_29 ?_
      refine z_cS (pc := 32) (st := [.ref (g.1 95)]) hC [.int v, .int (z_st 0 k), .int (z_st 1 k)] (kX6_in C.2.1 g N I P J v (z_st 0 k) (z_st 1 k)) zkX6_in zm_4_135 ⟨rfl, rfl⟩ rfl rfl hRm ⟨Nat.le_of_ble_eq_true rfl, Nat.le_of_ble_eq_true rfl⟩ (Nat.le_of_ble_eq_true rfl) ⟨Nat.zero_le _, Nat.zero_le _⟩ dX6_set_32 ?_
      refine z_if_ne (pc := 35) (tgt := 42) hC dX6_set_35 (by decide) (fun h35 => ?_) (fun h35 => ?_)
      · skip
        have g35 := zB_t h35
        obtain hv := of_decide_eq_true g35
        refine z_iconst (pc := 42) (v := 0) hC dX6_set_42 rfl ?_
        refine z_pI (pc := 43) hC 6 3 rfl (z_lt hC (by decide)) rfl inX6 tyX6_ok nmX6 (by decide) rfl zm_4_76 rfl rfl rfl dX6_set_43 ?_
        refine z_aload_n (pc := 46) hC 0 dX6_set_46 rfl rfl z_isr_r ?_
        refine z_gI (pc := 47) hC 6 3 (x := 0) rfl (z_lt hC (by decide)) rfl inX6 (by decide) rfl zm_4_76 (z_u_s _ _ _ _) dX6_set_47 ?_
        refine z_if_eq (pc := 50) (tgt := 55) hC dX6_set_50 (by decide) (fun h50 => ?_) (fun h50 => ?_)
        · skip
          refine z_aload_n (pc := 55) hC 0 dX6_set_55 rfl rfl z_isr_r ?_
          refine z_iload_n (pc := 56) hC 1 dX6_set_56 rfl rfl ?_
          refine z_iload_n (pc := 57) hC 2 dX6_set_57 rfl rfl ?_
          refine z_cV (pc := 58) (st := []) hC [.int (nI b), .int (nI k)] (kX6_of C.2.1 g N (z_u I 95 3 0) P J (hm.u (show 96 ≠ 95 by decide)) b k he hk (nI k) rfl) rfl (z_lt hC (by decide)) rfl zkX6_of zm_4_162 ⟨rfl, rfl⟩ rfl rfl hRm ⟨Nat.le_of_ble_eq_true rfl, Nat.le_of_ble_eq_true rfl⟩ (Nat.le_of_ble_eq_true rfl) ⟨Nat.zero_le _, Nat.zero_le _⟩ dX6_set_58 ?_
          refine z_istore (pc := 61) (lv' := [(4, .int (sSt σ b k)), (0, .ref (g.1 95)), (1, .int (nI b)), (2, .int (nI k)), (3, .int v)]) hC dX6_set_61 (by decide) rfl ?_
          refine z_aload_n (pc := 63) hC 1 dX6_set_63 rfl rfl z_isr_r ?_
          refine z_gF (pc := 64) hC 6 0 (t := 96) rfl (z_lt hC (by decide)) rfl inX6 (by decide) rfl zm_4_73 rfl dX6_set_64 ?_
          refine z_bipush (pc := 67) (v := 43) hC dX6_set_67 rfl ?_
          refine z_bipush (pc := 69) (v := 20) hC dX6_set_69 rfl ?_
          refine z_iload_n (pc := 71) hC 2 dX6_set_71 rfl rfl ?_
          refine z_imul (pc := 72) hC dX6_set_72 ?_
          refine z_iadd (pc := 73) hC dX6_set_73 ?_
          refine z_iload_n (pc := 74) hC 3 dX6_set_74 rfl rfl ?_
          refine z_iadd (pc := 75) hC dX6_set_75 ?_
          refine z_iload_n (pc := 76) hC 4 dX6_set_76 rfl rfl ?_
          refine z_isN (pc := 77) hC (43 + 20 * b + k) rfl (z_lt hC (by decide)) (zix b k) (by omega) (by decide) dX6_set_77 ?_
          refine z_iload (pc := 78) hC 0 dX6_set_78 rfl ?_
          exact z_iret (pc := 80) hC hE dX6_set_80 ⟨⟨_, rfl⟩, ⟨Or.inr (Or.inr ⟨b, k, rfl, rfl, hb, he, hk, hv, rfl, (z_u_a _ _ (by decide)).trans (z_u_s _ _ _ _), zMd_set (hm.u (by decide)) he hk hv⟩), (zKm.rf.u (by decide)).u (by decide)⟩⟩
        · skip
          exact absurd h50 (by decide)
      · skip
        have g35 := zB_f h35
        obtain hv := of_decide_eq_false g35
        refine z_iconst (pc := 38) (v := 2) hC dX6_set_38 rfl ?_
        refine z_goto (pc := 39) (tgt := 43) hC dX6_set_39 (by decide) ?_
        refine z_pI (pc := 43) hC 6 3 rfl (z_lt hC (by decide)) rfl inX6 tyX6_ok nmX6 (by decide) rfl zm_4_76 rfl rfl rfl dX6_set_43 ?_
        refine z_aload_n (pc := 46) hC 0 dX6_set_46 rfl rfl z_isr_r ?_
        refine z_gI (pc := 47) hC 6 3 (x := 2) rfl (z_lt hC (by decide)) rfl inX6 (by decide) rfl zm_4_76 (z_u_s _ _ _ _) dX6_set_47 ?_
        refine z_if_eq (pc := 50) (tgt := 55) hC dX6_set_50 (by decide) (fun h50 => ?_) (fun h50 => ?_)
        · skip
          exact absurd h50 (by decide)
        · skip
          refine z_iconst (pc := 53) (v := 0) hC dX6_set_53 rfl ?_
          exact z_iret (pc := 54) hC hE dX6_set_54 ⟨⟨_, rfl⟩, ⟨Or.inr (Or.inl ⟨g6, fun z => by obtain ⟨k2, e2, _, hv2⟩ := z; rw [← (nI_eq (by omega) (by omega)).mp e2] at hv2; exact hv hv2, z_u_s _ _ _ _, hm.u (by decide)⟩), zKm.rf.u (by decide)⟩⟩
  · skip
    have g6 := zB_f h6
    refine z_iconst (pc := 9) (v := 1) hC dX6_set_9 rfl ?_
    refine z_goto (pc := 10) (tgt := 43) hC dX6_set_10 (by decide) ?_
    refine z_pI (pc := 43) hC 6 3 rfl (z_lt hC (by decide)) rfl inX6 tyX6_ok nmX6 (by decide) rfl zm_4_76 rfl rfl rfl dX6_set_43 ?_
    refine z_aload_n (pc := 46) hC 0 dX6_set_46 rfl rfl z_isr_r ?_
    refine z_gI (pc := 47) hC 6 3 (x := 1) rfl (z_lt hC (by decide)) rfl inX6 (by decide) rfl zm_4_76 (z_u_s _ _ _ _) dX6_set_47 ?_
    refine z_if_eq (pc := 50) (tgt := 55) hC dX6_set_50 (by decide) (fun h50 => ?_) (fun h50 => ?_)
    · skip
      exact absurd h50 (by decide)
    · skip
      refine z_iconst (pc := 53) (v := 0) hC dX6_set_53 rfl ?_
      exact z_iret (pc := 54) hC hE dX6_set_54 ⟨⟨_, rfl⟩, ⟨Or.inl ⟨g6, z_u_s _ _ _ _, hm.u (by decide)⟩, zKm.rf.u (by decide)⟩⟩
set_option maxHeartbeats 4000000 in
set_option maxRecDepth 100000 in
theorem kR6_get (lx : Launch) (g : zG) (N : Nat) (I : Nat → Nat → Int32) (P : Nat → Nat → Option Nat) (J : Nat → Nat → Int64) {σ : zS} (hm : zMd σ I) (x q : Int32) : z_Ct lx yX6_get (zT yX6_get cX6_get 3 (Option.some FieldType.int)) ({ frames := 2, cells := 0, slots := 0, locals := 43 } : Room) g N I P J [.ref (g.1 95), .int x, .int q] (fun v I' P' J' => (∃ z, v = some (.int z)) ∧ ((zbx σ x = false ∧ I' 95 3 = 1) ∨ ((zbx σ x = true ∧ ¬ (0 ≤ q ∧ q < 20) ∧ I' 95 3 = 2) ∨ ∃ b k, x = nI b ∧ q = nI k ∧ b < 40 ∧ sEx σ b = true ∧ k < 20 ∧ v = some (.int (sSt σ b k)) ∧ I' 95 3 = 0)) ∧ zMd σ I' ∧ zKm I P J I' P' J') 0 0 := by
  refine z_of (by decide) (Nat.le_of_ble_eq_true rfl) (lv0 := [(0, .ref (g.1 95)), (1, .int x), (2, .int q)]) rfl ?_
  intro C hlx hC hE hRm
  have hC : zX C cX6_get 3 RX6 (zT yX6_get cX6_get 3 (Option.some FieldType.int)) g N := hC
  refine z_aload_n (pc := 0) hC 0 dX6_get_0 rfl rfl z_isr_r ?_
  refine z_aload_n (pc := 1) hC 0 dX6_get_1 rfl rfl z_isr_r ?_
  refine z_iload_n (pc := 2) hC 1 dX6_get_2 rfl rfl ?_
  refine z_cV (pc := 3) (st := [.ref (g.1 95)]) hC [.int x] (kX6_isBox C.2.1 g N I P J hm x) rfl (z_lt hC (by decide)) rfl zkX6_isBox zm_4_131 ⟨rfl, rfl⟩ rfl rfl hRm ⟨Nat.le_of_ble_eq_true rfl, Nat.le_of_ble_eq_true rfl⟩ (Nat.le_of_ble_eq_true rfl) ⟨Nat.zero_le _, Nat.zero_le _⟩ dX6_get_3 ?_
  refine z_if_ne (pc := 6) (tgt := 13) hC dX6_get_6 (by decide) (fun h6 => ?_) (fun h6 => ?_)
  · skip
    have g6 := zB_t h6
    obtain ⟨b, rfl, hb, he⟩ := zbx_iff.mp g6
    refine z_iload_n (pc := 13) hC 2 dX6_get_13 rfl rfl ?_
    refine z_iconst (pc := 14) (v := 0) hC dX6_get_14 rfl ?_
    refine z_bipush (pc := 15) (v := 19) hC dX6_get_15 rfl ?_
    refine z_cS (pc := 17) (st := [.ref (g.1 95)]) hC [.int q, .int 0, .int 19] (kX6_in C.2.1 g N I P J q 0 19) zkX6_in zm_4_135 ⟨rfl, rfl⟩ rfl rfl hRm ⟨Nat.le_of_ble_eq_true rfl, Nat.le_of_ble_eq_true rfl⟩ (Nat.le_of_ble_eq_true rfl) ⟨Nat.zero_le _, Nat.zero_le _⟩ dX6_get_17 ?_
    refine z_if_ne (pc := 20) (tgt := 27) hC dX6_get_20 (by decide) (fun h20 => ?_) (fun h20 => ?_)
    · skip
      have g20 := zB_t h20
      obtain ⟨q0, q1⟩ := of_decide_eq_true g20
      obtain ⟨k, hk, rfl⟩ := zi_nI (n := 20) (by decide) q0 (z19 q1)
      refine z_iconst (pc := 27) (v := 0) hC dX6_get_27 rfl ?_
      refine z_pI (pc := 28) hC 6 3 rfl (z_lt hC (by decide)) rfl inX6 tyX6_ok nmX6 (by decide) rfl zm_4_76 rfl rfl rfl dX6_get_28 ?_
      refine z_aload_n (pc := 31) hC 0 dX6_get_31 rfl rfl z_isr_r ?_
      refine z_gI (pc := 32) hC 6 3 (x := 0) rfl (z_lt hC (by decide)) rfl inX6 (by decide) rfl zm_4_76 (z_u_s _ _ _ _) dX6_get_32 ?_
      refine z_if_eq (pc := 35) (tgt := 42) hC dX6_get_35 (by decide) (fun h35 => ?_) (fun h35 => ?_)
      · skip
        refine z_aload_n (pc := 42) hC 0 dX6_get_42 rfl rfl z_isr_r ?_
        refine z_iload_n (pc := 43) hC 1 dX6_get_43 rfl rfl ?_
        refine z_iload_n (pc := 44) hC 2 dX6_get_44 rfl rfl ?_
        refine z_cV (pc := 45) (st := []) hC [.int (nI b), .int (nI k)] (kX6_of C.2.1 g N (z_u I 95 3 0) P J (hm.u (show 96 ≠ 95 by decide)) b k he hk (nI k) rfl) rfl (z_lt hC (by decide)) rfl zkX6_of zm_4_162 ⟨rfl, rfl⟩ rfl rfl hRm ⟨Nat.le_of_ble_eq_true rfl, Nat.le_of_ble_eq_true rfl⟩ (Nat.le_of_ble_eq_true rfl) ⟨Nat.zero_le _, Nat.zero_le _⟩ dX6_get_45 ?_
        exact z_iret (pc := 48) hC hE dX6_get_48 ⟨⟨_, rfl⟩, ⟨Or.inr (Or.inr ⟨b, k, rfl, rfl, hb, he, hk, rfl, z_u_s _ _ _ _⟩), hm.u (by decide), zKm.rf.u (by decide)⟩⟩
      · skip
        exact absurd h35 (by decide)
    · skip
      have g20 := zB_f h20
      refine z_iconst (pc := 23) (v := 2) hC dX6_get_23 rfl ?_
      refine z_goto (pc := 24) (tgt := 28) hC dX6_get_24 (by decide) ?_
      refine z_pI (pc := 28) hC 6 3 rfl (z_lt hC (by decide)) rfl inX6 tyX6_ok nmX6 (by decide) rfl zm_4_76 rfl rfl rfl dX6_get_28 ?_
      refine z_aload_n (pc := 31) hC 0 dX6_get_31 rfl rfl z_isr_r ?_
      refine z_gI (pc := 32) hC 6 3 (x := 2) rfl (z_lt hC (by decide)) rfl inX6 (by decide) rfl zm_4_76 (z_u_s _ _ _ _) dX6_get_32 ?_
      refine z_if_eq (pc := 35) (tgt := 42) hC dX6_get_35 (by decide) (fun h35 => ?_) (fun h35 => ?_)
      · skip
        exact absurd h35 (by decide)
      · skip
        refine z_iconst (pc := 38) (v := 0) hC dX6_get_38 rfl ?_
        refine z_goto (pc := 39) (tgt := 48) hC dX6_get_39 (by decide) ?_
        exact z_iret (pc := 48) hC hE dX6_get_48 ⟨⟨_, rfl⟩, ⟨Or.inr (Or.inl ⟨g6, z19n (of_decide_eq_false g20), z_u_s _ _ _ _⟩), hm.u (by decide), zKm.rf.u (by decide)⟩⟩
  · skip
    have g6 := zB_f h6
    refine z_iconst (pc := 9) (v := 1) hC dX6_get_9 rfl ?_
    refine z_goto (pc := 10) (tgt := 28) hC dX6_get_10 (by decide) ?_
    refine z_pI (pc := 28) hC 6 3 rfl (z_lt hC (by decide)) rfl inX6 tyX6_ok nmX6 (by decide) rfl zm_4_76 rfl rfl rfl dX6_get_28 ?_
    refine z_aload_n (pc := 31) hC 0 dX6_get_31 rfl rfl z_isr_r ?_
    refine z_gI (pc := 32) hC 6 3 (x := 1) rfl (z_lt hC (by decide)) rfl inX6 (by decide) rfl zm_4_76 (z_u_s _ _ _ _) dX6_get_32 ?_
    refine z_if_eq (pc := 35) (tgt := 42) hC dX6_get_35 (by decide) (fun h35 => ?_) (fun h35 => ?_)
    · skip
      exact absurd h35 (by decide)
    · skip
      refine z_iconst (pc := 38) (v := 0) hC dX6_get_38 rfl ?_
      refine z_goto (pc := 39) (tgt := 48) hC dX6_get_39 (by decide) ?_
      exact z_iret (pc := 48) hC hE dX6_get_48 ⟨⟨_, rfl⟩, ⟨Or.inl ⟨g6, z_u_s _ _ _ _⟩, hm.u (by decide), zKm.rf.u (by decide)⟩⟩
set_option maxHeartbeats 4000000 in
set_option maxRecDepth 100000 in
theorem kR6_x (lx : Launch) (g : zG) (N : Nat) (I : Nat → Nat → Int32) (P : Nat → Nat → Option Nat) (J : Nat → Nat → Int64) {σ : zS} (hm : zMd σ I) (x : Int32) : z_Ct lx yX6_x (zT yX6_x cX6_x 2 (Option.some FieldType.int)) ({ frames := 9, cells := 0, slots := 0, locals := 216 } : Room) g N I P J [.ref (g.1 95), .int x] (fun v I' P' J' => (∃ z, v = some (.int z)) ∧ (zGm σ x (fun b => sX σ b) I P J) v I' P' J') 0 0 := by
  refine z_of (by decide) (Nat.le_of_ble_eq_true rfl) (lv0 := [(0, .ref (g.1 95)), (1, .int x)]) rfl ?_
  intro C hlx hC hE hRm
  have hC : zX C cX6_x 2 RX6 (zT yX6_x cX6_x 2 (Option.some FieldType.int)) g N := hC
  refine z_aload_n (pc := 0) hC 0 dX6_x_0 rfl rfl z_isr_r ?_
  refine z_iload_n (pc := 1) hC 1 dX6_x_1 rfl rfl ?_
  refine z_callV (pc := 2) (st := []) hC [.int x] (kX6_hasLayout C.2.1 g N I P J hm x) rfl (z_lt hC (by decide)) rfl zkX6_hasLayout zm_4_196 ⟨rfl, rfl⟩ rfl rfl hRm ⟨Nat.le_of_ble_eq_true rfl, Nat.le_of_ble_eq_true rfl⟩ (Nat.le_of_ble_eq_true rfl) ⟨Nat.zero_le _, Nat.zero_le _⟩ dX6_x_2 ?_
  intro v I1 P1 J1 hq
  obtain ⟨c, hv, hct, hcf, hm1, hk1⟩ := hq
  subst hv
  show zJ C g N 2 0 0 I1 P1 J1 5 [(0, .ref (g.1 95)), (1, .int x)] [.int (zB c)]
  refine z_if_eq (pc := 5) (tgt := 19) hC dX6_x_5 (by decide) (fun h5 => ?_) (fun h5 => ?_)
  · skip
    have g5 := zB_f h5
    refine z_iconst (pc := 19) (v := 0) hC dX6_x_19 rfl ?_
    exact z_iret (pc := 20) hC hE dX6_x_20 ⟨⟨_, rfl⟩, ⟨Or.inl (hcf g5), hm1, hk1⟩⟩
  · skip
    have g5 := zB_t h5
    obtain ⟨b, rfl, hb, he, hs, h3, har, hsh⟩ := hct g5
    refine z_aload_n (pc := 8) hC 0 dX6_x_8 rfl rfl z_isr_r ?_
    refine z_gF (pc := 9) hC 6 9 (t := 103) rfl (z_lt hC (by decide)) rfl inX6 (by decide) rfl zm_4_82 rfl dX6_x_9 ?_
    refine z_iconst (pc := 12) (v := 2) hC dX6_x_12 rfl ?_
    refine z_iload_n (pc := 13) hC 1 dX6_x_13 rfl rfl ?_
    refine z_imul (pc := 14) hC dX6_x_14 ?_
    refine z_iaN (pc := 15) hC (2 * b + 0) (x := sX σ b) rfl (z_lt hC (by decide)) (zix2z b) (by omega) (by decide) ((har b hs).2.2.1) dX6_x_15 ?_
    refine z_goto (pc := 16) (tgt := 20) hC dX6_x_16 (by decide) ?_
    exact z_iret (pc := 20) hC hE dX6_x_20 ⟨⟨_, rfl⟩, ⟨Or.inr ⟨b, rfl, hb, he, hs, rfl, h3⟩, hm1, hk1⟩⟩
set_option maxHeartbeats 4000000 in
set_option maxRecDepth 100000 in
theorem kR6_y (lx : Launch) (g : zG) (N : Nat) (I : Nat → Nat → Int32) (P : Nat → Nat → Option Nat) (J : Nat → Nat → Int64) {σ : zS} (hm : zMd σ I) (x : Int32) : z_Ct lx yX6_y (zT yX6_y cX6_y 2 (Option.some FieldType.int)) ({ frames := 9, cells := 0, slots := 0, locals := 216 } : Room) g N I P J [.ref (g.1 95), .int x] (fun v I' P' J' => (∃ z, v = some (.int z)) ∧ (zGm σ x (fun b => sY σ b) I P J) v I' P' J') 0 0 := by
  refine z_of (by decide) (Nat.le_of_ble_eq_true rfl) (lv0 := [(0, .ref (g.1 95)), (1, .int x)]) rfl ?_
  intro C hlx hC hE hRm
  have hC : zX C cX6_y 2 RX6 (zT yX6_y cX6_y 2 (Option.some FieldType.int)) g N := hC
  refine z_aload_n (pc := 0) hC 0 dX6_y_0 rfl rfl z_isr_r ?_
  refine z_iload_n (pc := 1) hC 1 dX6_y_1 rfl rfl ?_
  refine z_callV (pc := 2) (st := []) hC [.int x] (kX6_hasLayout C.2.1 g N I P J hm x) rfl (z_lt hC (by decide)) rfl zkX6_hasLayout zm_4_196 ⟨rfl, rfl⟩ rfl rfl hRm ⟨Nat.le_of_ble_eq_true rfl, Nat.le_of_ble_eq_true rfl⟩ (Nat.le_of_ble_eq_true rfl) ⟨Nat.zero_le _, Nat.zero_le _⟩ dX6_y_2 ?_
  intro v I1 P1 J1 hq
  obtain ⟨c, hv, hct, hcf, hm1, hk1⟩ := hq
  subst hv
  show zJ C g N 2 0 0 I1 P1 J1 5 [(0, .ref (g.1 95)), (1, .int x)] [.int (zB c)]
  refine z_if_eq (pc := 5) (tgt := 21) hC dX6_y_5 (by decide) (fun h5 => ?_) (fun h5 => ?_)
  · skip
    have g5 := zB_f h5
    refine z_iconst (pc := 21) (v := 0) hC dX6_y_21 rfl ?_
    exact z_iret (pc := 22) hC hE dX6_y_22 ⟨⟨_, rfl⟩, ⟨Or.inl (hcf g5), hm1, hk1⟩⟩
  · skip
    have g5 := zB_t h5
    obtain ⟨b, rfl, hb, he, hs, h3, har, hsh⟩ := hct g5
    refine z_aload_n (pc := 8) hC 0 dX6_y_8 rfl rfl z_isr_r ?_
    refine z_gF (pc := 9) hC 6 9 (t := 103) rfl (z_lt hC (by decide)) rfl inX6 (by decide) rfl zm_4_82 rfl dX6_y_9 ?_
    refine z_iconst (pc := 12) (v := 2) hC dX6_y_12 rfl ?_
    refine z_iload_n (pc := 13) hC 1 dX6_y_13 rfl rfl ?_
    refine z_imul (pc := 14) hC dX6_y_14 ?_
    refine z_iconst (pc := 15) (v := 1) hC dX6_y_15 rfl ?_
    refine z_iadd (pc := 16) hC dX6_y_16 ?_
    refine z_iaN (pc := 17) hC (2 * b + 1) (x := sY σ b) rfl (z_lt hC (by decide)) (zix2 b 1) (by omega) (by decide) ((har b hs).2.2.2.1) dX6_y_17 ?_
    refine z_goto (pc := 18) (tgt := 22) hC dX6_y_18 (by decide) ?_
    exact z_iret (pc := 22) hC hE dX6_y_22 ⟨⟨_, rfl⟩, ⟨Or.inr ⟨b, rfl, hb, he, hs, rfl, h3⟩, hm1, hk1⟩⟩
set_option maxHeartbeats 4000000 in
set_option maxRecDepth 100000 in
theorem kR6_width (lx : Launch) (g : zG) (N : Nat) (I : Nat → Nat → Int32) (P : Nat → Nat → Option Nat) (J : Nat → Nat → Int64) {σ : zS} (hm : zMd σ I) (x : Int32) : z_Ct lx yX6_width (zT yX6_width cX6_width 2 (Option.some FieldType.int)) ({ frames := 9, cells := 0, slots := 0, locals := 216 } : Room) g N I P J [.ref (g.1 95), .int x] (fun v I' P' J' => (∃ z, v = some (.int z)) ∧ (zGm σ x (fun b => sWD σ b) I P J) v I' P' J') 0 0 := by
  refine z_of (by decide) (Nat.le_of_ble_eq_true rfl) (lv0 := [(0, .ref (g.1 95)), (1, .int x)]) rfl ?_
  intro C hlx hC hE hRm
  have hC : zX C cX6_width 2 RX6 (zT yX6_width cX6_width 2 (Option.some FieldType.int)) g N := hC
  refine z_aload_n (pc := 0) hC 0 dX6_width_0 rfl rfl z_isr_r ?_
  refine z_iload_n (pc := 1) hC 1 dX6_width_1 rfl rfl ?_
  refine z_callV (pc := 2) (st := []) hC [.int x] (kX6_hasLayout C.2.1 g N I P J hm x) rfl (z_lt hC (by decide)) rfl zkX6_hasLayout zm_4_196 ⟨rfl, rfl⟩ rfl rfl hRm ⟨Nat.le_of_ble_eq_true rfl, Nat.le_of_ble_eq_true rfl⟩ (Nat.le_of_ble_eq_true rfl) ⟨Nat.zero_le _, Nat.zero_le _⟩ dX6_width_2 ?_
  intro v I1 P1 J1 hq
  obtain ⟨c, hv, hct, hcf, hm1, hk1⟩ := hq
  subst hv
  show zJ C g N 2 0 0 I1 P1 J1 5 [(0, .ref (g.1 95)), (1, .int x)] [.int (zB c)]
  refine z_if_eq (pc := 5) (tgt := 19) hC dX6_width_5 (by decide) (fun h5 => ?_) (fun h5 => ?_)
  · skip
    have g5 := zB_f h5
    refine z_iconst (pc := 19) (v := 0) hC dX6_width_19 rfl ?_
    exact z_iret (pc := 20) hC hE dX6_width_20 ⟨⟨_, rfl⟩, ⟨Or.inl (hcf g5), hm1, hk1⟩⟩
  · skip
    have g5 := zB_t h5
    obtain ⟨b, rfl, hb, he, hs, h3, har, hsh⟩ := hct g5
    refine z_aload_n (pc := 8) hC 0 dX6_width_8 rfl rfl z_isr_r ?_
    refine z_gF (pc := 9) hC 6 8 (t := 102) rfl (z_lt hC (by decide)) rfl inX6 (by decide) rfl zm_4_81 rfl dX6_width_9 ?_
    refine z_iconst (pc := 12) (v := 2) hC dX6_width_12 rfl ?_
    refine z_iload_n (pc := 13) hC 1 dX6_width_13 rfl rfl ?_
    refine z_imul (pc := 14) hC dX6_width_14 ?_
    refine z_iaN (pc := 15) hC (2 * b + 0) (x := sWD σ b) rfl (z_lt hC (by decide)) (zix2z b) (by omega) (by decide) ((har b hs).2.2.2.2.1) dX6_width_15 ?_
    refine z_goto (pc := 16) (tgt := 20) hC dX6_width_16 (by decide) ?_
    exact z_iret (pc := 20) hC hE dX6_width_20 ⟨⟨_, rfl⟩, ⟨Or.inr ⟨b, rfl, hb, he, hs, rfl, h3⟩, hm1, hk1⟩⟩
set_option maxHeartbeats 4000000 in
set_option maxRecDepth 100000 in
theorem kR6_height (lx : Launch) (g : zG) (N : Nat) (I : Nat → Nat → Int32) (P : Nat → Nat → Option Nat) (J : Nat → Nat → Int64) {σ : zS} (hm : zMd σ I) (x : Int32) : z_Ct lx yX6_height (zT yX6_height cX6_height 2 (Option.some FieldType.int)) ({ frames := 9, cells := 0, slots := 0, locals := 216 } : Room) g N I P J [.ref (g.1 95), .int x] (fun v I' P' J' => (∃ z, v = some (.int z)) ∧ (zGm σ x (fun b => sHT σ b) I P J) v I' P' J') 0 0 := by
  refine z_of (by decide) (Nat.le_of_ble_eq_true rfl) (lv0 := [(0, .ref (g.1 95)), (1, .int x)]) rfl ?_
  intro C hlx hC hE hRm
  have hC : zX C cX6_height 2 RX6 (zT yX6_height cX6_height 2 (Option.some FieldType.int)) g N := hC
  refine z_aload_n (pc := 0) hC 0 dX6_height_0 rfl rfl z_isr_r ?_
  refine z_iload_n (pc := 1) hC 1 dX6_height_1 rfl rfl ?_
  refine z_callV (pc := 2) (st := []) hC [.int x] (kX6_hasLayout C.2.1 g N I P J hm x) rfl (z_lt hC (by decide)) rfl zkX6_hasLayout zm_4_196 ⟨rfl, rfl⟩ rfl rfl hRm ⟨Nat.le_of_ble_eq_true rfl, Nat.le_of_ble_eq_true rfl⟩ (Nat.le_of_ble_eq_true rfl) ⟨Nat.zero_le _, Nat.zero_le _⟩ dX6_height_2 ?_
  intro v I1 P1 J1 hq
  obtain ⟨c, hv, hct, hcf, hm1, hk1⟩ := hq
  subst hv
  show zJ C g N 2 0 0 I1 P1 J1 5 [(0, .ref (g.1 95)), (1, .int x)] [.int (zB c)]
  refine z_if_eq (pc := 5) (tgt := 21) hC dX6_height_5 (by decide) (fun h5 => ?_) (fun h5 => ?_)
  · skip
    have g5 := zB_f h5
    refine z_iconst (pc := 21) (v := 0) hC dX6_height_21 rfl ?_
    exact z_iret (pc := 22) hC hE dX6_height_22 ⟨⟨_, rfl⟩, ⟨Or.inl (hcf g5), hm1, hk1⟩⟩
  · skip
    have g5 := zB_t h5
    obtain ⟨b, rfl, hb, he, hs, h3, har, hsh⟩ := hct g5
    refine z_aload_n (pc := 8) hC 0 dX6_height_8 rfl rfl z_isr_r ?_
    refine z_gF (pc := 9) hC 6 8 (t := 102) rfl (z_lt hC (by decide)) rfl inX6 (by decide) rfl zm_4_81 rfl dX6_height_9 ?_
    refine z_iconst (pc := 12) (v := 2) hC dX6_height_12 rfl ?_
    refine z_iload_n (pc := 13) hC 1 dX6_height_13 rfl rfl ?_
    refine z_imul (pc := 14) hC dX6_height_14 ?_
    refine z_iconst (pc := 15) (v := 1) hC dX6_height_15 rfl ?_
    refine z_iadd (pc := 16) hC dX6_height_16 ?_
    refine z_iaN (pc := 17) hC (2 * b + 1) (x := sHT σ b) rfl (z_lt hC (by decide)) (zix2 b 1) (by omega) (by decide) ((har b hs).2.2.2.2.2.1) dX6_height_17 ?_
    refine z_goto (pc := 18) (tgt := 22) hC dX6_height_18 (by decide) ?_
    exact z_iret (pc := 22) hC hE dX6_height_22 ⟨⟨_, rfl⟩, ⟨Or.inr ⟨b, rfl, hb, he, hs, rfl, h3⟩, hm1, hk1⟩⟩
set_option maxHeartbeats 4000000 in
set_option maxRecDepth 100000 in
theorem kR6_naturalWidth (lx : Launch) (g : zG) (N : Nat) (I : Nat → Nat → Int32) (P : Nat → Nat → Option Nat) (J : Nat → Nat → Int64) {σ : zS} (hm : zMd σ I) (x : Int32) : z_Ct lx yX6_naturalWidth (zT yX6_naturalWidth cX6_naturalWidth 2 (Option.some FieldType.int)) ({ frames := 9, cells := 0, slots := 0, locals := 216 } : Room) g N I P J [.ref (g.1 95), .int x] (fun v I' P' J' => (∃ z, v = some (.int z)) ∧ (zGm σ x (fun b => sNW σ b) I P J) v I' P' J') 0 0 := by
  refine z_of (by decide) (Nat.le_of_ble_eq_true rfl) (lv0 := [(0, .ref (g.1 95)), (1, .int x)]) rfl ?_
  intro C hlx hC hE hRm
  have hC : zX C cX6_naturalWidth 2 RX6 (zT yX6_naturalWidth cX6_naturalWidth 2 (Option.some FieldType.int)) g N := hC
  refine z_aload_n (pc := 0) hC 0 dX6_naturalWidth_0 rfl rfl z_isr_r ?_
  refine z_iload_n (pc := 1) hC 1 dX6_naturalWidth_1 rfl rfl ?_
  refine z_callV (pc := 2) (st := []) hC [.int x] (kX6_hasLayout C.2.1 g N I P J hm x) rfl (z_lt hC (by decide)) rfl zkX6_hasLayout zm_4_196 ⟨rfl, rfl⟩ rfl rfl hRm ⟨Nat.le_of_ble_eq_true rfl, Nat.le_of_ble_eq_true rfl⟩ (Nat.le_of_ble_eq_true rfl) ⟨Nat.zero_le _, Nat.zero_le _⟩ dX6_naturalWidth_2 ?_
  intro v I1 P1 J1 hq
  obtain ⟨c, hv, hct, hcf, hm1, hk1⟩ := hq
  subst hv
  show zJ C g N 2 0 0 I1 P1 J1 5 [(0, .ref (g.1 95)), (1, .int x)] [.int (zB c)]
  refine z_if_eq (pc := 5) (tgt := 19) hC dX6_naturalWidth_5 (by decide) (fun h5 => ?_) (fun h5 => ?_)
  · skip
    have g5 := zB_f h5
    refine z_iconst (pc := 19) (v := 0) hC dX6_naturalWidth_19 rfl ?_
    exact z_iret (pc := 20) hC hE dX6_naturalWidth_20 ⟨⟨_, rfl⟩, ⟨Or.inl (hcf g5), hm1, hk1⟩⟩
  · skip
    have g5 := zB_t h5
    obtain ⟨b, rfl, hb, he, hs, h3, har, hsh⟩ := hct g5
    refine z_aload_n (pc := 8) hC 0 dX6_naturalWidth_8 rfl rfl z_isr_r ?_
    refine z_gF (pc := 9) hC 6 7 (t := 101) rfl (z_lt hC (by decide)) rfl inX6 (by decide) rfl zm_4_80 rfl dX6_naturalWidth_9 ?_
    refine z_iconst (pc := 12) (v := 2) hC dX6_naturalWidth_12 rfl ?_
    refine z_iload_n (pc := 13) hC 1 dX6_naturalWidth_13 rfl rfl ?_
    refine z_imul (pc := 14) hC dX6_naturalWidth_14 ?_
    refine z_iaN (pc := 15) hC (2 * b + 0) (x := sNW σ b) rfl (z_lt hC (by decide)) (zix2z b) (by omega) (by decide) ((har b hs).1) dX6_naturalWidth_15 ?_
    refine z_goto (pc := 16) (tgt := 20) hC dX6_naturalWidth_16 (by decide) ?_
    exact z_iret (pc := 20) hC hE dX6_naturalWidth_20 ⟨⟨_, rfl⟩, ⟨Or.inr ⟨b, rfl, hb, he, hs, rfl, h3⟩, hm1, hk1⟩⟩
set_option maxHeartbeats 4000000 in
set_option maxRecDepth 100000 in
theorem kR6_naturalHeight (lx : Launch) (g : zG) (N : Nat) (I : Nat → Nat → Int32) (P : Nat → Nat → Option Nat) (J : Nat → Nat → Int64) {σ : zS} (hm : zMd σ I) (x : Int32) : z_Ct lx yX6_naturalHeight (zT yX6_naturalHeight cX6_naturalHeight 2 (Option.some FieldType.int)) ({ frames := 9, cells := 0, slots := 0, locals := 216 } : Room) g N I P J [.ref (g.1 95), .int x] (fun v I' P' J' => (∃ z, v = some (.int z)) ∧ (zGm σ x (fun b => sNH σ b) I P J) v I' P' J') 0 0 := by
  refine z_of (by decide) (Nat.le_of_ble_eq_true rfl) (lv0 := [(0, .ref (g.1 95)), (1, .int x)]) rfl ?_
  intro C hlx hC hE hRm
  have hC : zX C cX6_naturalHeight 2 RX6 (zT yX6_naturalHeight cX6_naturalHeight 2 (Option.some FieldType.int)) g N := hC
  refine z_aload_n (pc := 0) hC 0 dX6_naturalHeight_0 rfl rfl z_isr_r ?_
  refine z_iload_n (pc := 1) hC 1 dX6_naturalHeight_1 rfl rfl ?_
  refine z_callV (pc := 2) (st := []) hC [.int x] (kX6_hasLayout C.2.1 g N I P J hm x) rfl (z_lt hC (by decide)) rfl zkX6_hasLayout zm_4_196 ⟨rfl, rfl⟩ rfl rfl hRm ⟨Nat.le_of_ble_eq_true rfl, Nat.le_of_ble_eq_true rfl⟩ (Nat.le_of_ble_eq_true rfl) ⟨Nat.zero_le _, Nat.zero_le _⟩ dX6_naturalHeight_2 ?_
  intro v I1 P1 J1 hq
  obtain ⟨c, hv, hct, hcf, hm1, hk1⟩ := hq
  subst hv
  show zJ C g N 2 0 0 I1 P1 J1 5 [(0, .ref (g.1 95)), (1, .int x)] [.int (zB c)]
  refine z_if_eq (pc := 5) (tgt := 21) hC dX6_naturalHeight_5 (by decide) (fun h5 => ?_) (fun h5 => ?_)
  · skip
    have g5 := zB_f h5
    refine z_iconst (pc := 21) (v := 0) hC dX6_naturalHeight_21 rfl ?_
    exact z_iret (pc := 22) hC hE dX6_naturalHeight_22 ⟨⟨_, rfl⟩, ⟨Or.inl (hcf g5), hm1, hk1⟩⟩
  · skip
    have g5 := zB_t h5
    obtain ⟨b, rfl, hb, he, hs, h3, har, hsh⟩ := hct g5
    refine z_aload_n (pc := 8) hC 0 dX6_naturalHeight_8 rfl rfl z_isr_r ?_
    refine z_gF (pc := 9) hC 6 7 (t := 101) rfl (z_lt hC (by decide)) rfl inX6 (by decide) rfl zm_4_80 rfl dX6_naturalHeight_9 ?_
    refine z_iconst (pc := 12) (v := 2) hC dX6_naturalHeight_12 rfl ?_
    refine z_iload_n (pc := 13) hC 1 dX6_naturalHeight_13 rfl rfl ?_
    refine z_imul (pc := 14) hC dX6_naturalHeight_14 ?_
    refine z_iconst (pc := 15) (v := 1) hC dX6_naturalHeight_15 rfl ?_
    refine z_iadd (pc := 16) hC dX6_naturalHeight_16 ?_
    refine z_iaN (pc := 17) hC (2 * b + 1) (x := sNH σ b) rfl (z_lt hC (by decide)) (zix2 b 1) (by omega) (by decide) ((har b hs).2.1) dX6_naturalHeight_17 ?_
    refine z_goto (pc := 18) (tgt := 22) hC dX6_naturalHeight_18 (by decide) ?_
    exact z_iret (pc := 22) hC hE dX6_naturalHeight_22 ⟨⟨_, rfl⟩, ⟨Or.inr ⟨b, rfl, hb, he, hs, rfl, h3⟩, hm1, hk1⟩⟩
set_option maxHeartbeats 4000000 in
set_option maxRecDepth 100000 in
theorem kR6_lines (lx : Launch) (g : zG) (N : Nat) (I : Nat → Nat → Int32) (P : Nat → Nat → Option Nat) (J : Nat → Nat → Int64) {σ : zS} (hm : zMd σ I) (x : Int32) : z_Ct lx yX6_lines (zT yX6_lines cX6_lines 2 (Option.some FieldType.int)) ({ frames := 9, cells := 0, slots := 0, locals := 216 } : Room) g N I P J [.ref (g.1 95), .int x] (fun v I' P' J' => (∃ z, v = some (.int z)) ∧ (zGm σ x (fun b => sLC σ (sNW σ) b (sWD σ b)) I P J) v I' P' J') 0 0 := by
  refine z_of (by decide) (Nat.le_of_ble_eq_true rfl) (lv0 := [(0, .ref (g.1 95)), (1, .int x)]) rfl ?_
  intro C hlx hC hE hRm
  have hC : zX C cX6_lines 2 RX6 (zT yX6_lines cX6_lines 2 (Option.some FieldType.int)) g N := hC
  refine z_aload_n (pc := 0) hC 0 dX6_lines_0 rfl rfl z_isr_r ?_
  refine z_iload_n (pc := 1) hC 1 dX6_lines_1 rfl rfl ?_
  refine z_callV (pc := 2) (st := []) hC [.int x] (kX6_hasLayout C.2.1 g N I P J hm x) rfl (z_lt hC (by decide)) rfl zkX6_hasLayout zm_4_196 ⟨rfl, rfl⟩ rfl rfl hRm ⟨Nat.le_of_ble_eq_true rfl, Nat.le_of_ble_eq_true rfl⟩ (Nat.le_of_ble_eq_true rfl) ⟨Nat.zero_le _, Nat.zero_le _⟩ dX6_lines_2 ?_
  intro v I1 P1 J1 hq
  obtain ⟨c, hv, hct, hcf, hm1, hk1⟩ := hq
  subst hv
  show zJ C g N 2 0 0 I1 P1 J1 5 [(0, .ref (g.1 95)), (1, .int x)] [.int (zB c)]
  refine z_if_eq (pc := 5) (tgt := 17) hC dX6_lines_5 (by decide) (fun h5 => ?_) (fun h5 => ?_)
  · skip
    have g5 := zB_f h5
    refine z_iconst (pc := 17) (v := 0) hC dX6_lines_17 rfl ?_
    exact z_iret (pc := 18) hC hE dX6_lines_18 ⟨⟨_, rfl⟩, ⟨Or.inl (hcf g5), hm1, hk1⟩⟩
  · skip
    have g5 := zB_t h5
    obtain ⟨b, rfl, hb, he, hs, h3, har, hsh⟩ := hct g5
    refine z_aload_n (pc := 8) hC 0 dX6_lines_8 rfl rfl z_isr_r ?_
    refine z_gF (pc := 9) hC 6 11 (t := 105) rfl (z_lt hC (by decide)) rfl inX6 (by decide) rfl zm_4_84 rfl dX6_lines_9 ?_
    refine z_iload_n (pc := 12) hC 1 dX6_lines_12 rfl rfl ?_
    refine z_iaN (pc := 13) hC b (x := sLC σ (sNW σ) b (sWD σ b)) rfl (z_lt hC (by decide)) rfl hb (by decide) ((har b hs).2.2.2.2.2.2.1) dX6_lines_13 ?_
    refine z_goto (pc := 14) (tgt := 18) hC dX6_lines_14 (by decide) ?_
    exact z_iret (pc := 18) hC hE dX6_lines_18 ⟨⟨_, rfl⟩, ⟨Or.inr ⟨b, rfl, hb, he, hs, rfl, h3⟩, hm1, hk1⟩⟩
set_option maxHeartbeats 4000000 in
set_option maxRecDepth 100000 in
theorem kR6_lineOf (lx : Launch) (g : zG) (N : Nat) (I : Nat → Nat → Int32) (P : Nat → Nat → Option Nat) (J : Nat → Nat → Int64) {σ : zS} (hm : zMd σ I) (x : Int32) : z_Ct lx yX6_lineOf (zT yX6_lineOf cX6_lineOf 2 (Option.some FieldType.int)) ({ frames := 9, cells := 0, slots := 0, locals := 216 } : Room) g N I P J [.ref (g.1 95), .int x] (fun v I' P' J' => (∃ z, v = some (.int z)) ∧ (zGm σ x (fun b => nI (sLi σ b)) I P J) v I' P' J') 0 0 := by
  refine z_of (by decide) (Nat.le_of_ble_eq_true rfl) (lv0 := [(0, .ref (g.1 95)), (1, .int x)]) rfl ?_
  intro C hlx hC hE hRm
  have hC : zX C cX6_lineOf 2 RX6 (zT yX6_lineOf cX6_lineOf 2 (Option.some FieldType.int)) g N := hC
  refine z_aload_n (pc := 0) hC 0 dX6_lineOf_0 rfl rfl z_isr_r ?_
  refine z_iload_n (pc := 1) hC 1 dX6_lineOf_1 rfl rfl ?_
  refine z_callV (pc := 2) (st := []) hC [.int x] (kX6_hasLayout C.2.1 g N I P J hm x) rfl (z_lt hC (by decide)) rfl zkX6_hasLayout zm_4_196 ⟨rfl, rfl⟩ rfl rfl hRm ⟨Nat.le_of_ble_eq_true rfl, Nat.le_of_ble_eq_true rfl⟩ (Nat.le_of_ble_eq_true rfl) ⟨Nat.zero_le _, Nat.zero_le _⟩ dX6_lineOf_2 ?_
  intro v I1 P1 J1 hq
  obtain ⟨c, hv, hct, hcf, hm1, hk1⟩ := hq
  subst hv
  show zJ C g N 2 0 0 I1 P1 J1 5 [(0, .ref (g.1 95)), (1, .int x)] [.int (zB c)]
  refine z_if_eq (pc := 5) (tgt := 17) hC dX6_lineOf_5 (by decide) (fun h5 => ?_) (fun h5 => ?_)
  · skip
    have g5 := zB_f h5
    refine z_iconst (pc := 17) (v := 0) hC dX6_lineOf_17 rfl ?_
    exact z_iret (pc := 18) hC hE dX6_lineOf_18 ⟨⟨_, rfl⟩, ⟨Or.inl (hcf g5), hm1, hk1⟩⟩
  · skip
    have g5 := zB_t h5
    obtain ⟨b, rfl, hb, he, hs, h3, har, hsh⟩ := hct g5
    refine z_aload_n (pc := 8) hC 0 dX6_lineOf_8 rfl rfl z_isr_r ?_
    refine z_gF (pc := 9) hC 6 10 (t := 104) rfl (z_lt hC (by decide)) rfl inX6 (by decide) rfl zm_4_83 rfl dX6_lineOf_9 ?_
    refine z_iload_n (pc := 12) hC 1 dX6_lineOf_12 rfl rfl ?_
    refine z_iaN (pc := 13) hC b (x := nI (sLi σ b)) rfl (z_lt hC (by decide)) rfl hb (by decide) ((har b hs).2.2.2.2.2.2.2) dX6_lineOf_13 ?_
    refine z_goto (pc := 14) (tgt := 18) hC dX6_lineOf_14 (by decide) ?_
    exact z_iret (pc := 18) hC hE dX6_lineOf_18 ⟨⟨_, rfl⟩, ⟨Or.inr ⟨b, rfl, hb, he, hs, rfl, h3⟩, hm1, hk1⟩⟩
set_option maxHeartbeats 4000000 in
set_option maxRecDepth 100000 in
theorem kR6_overflow (lx : Launch) (g : zG) (N : Nat) (I : Nat → Nat → Int32) (P : Nat → Nat → Option Nat) (J : Nat → Nat → Int64) {σ : zS} (hm : zMd σ I) (x : Int32) : z_Ct lx yX6_overflow (zT yX6_overflow cX6_overflow 6 (Option.some FieldType.int)) ({ frames := 9, cells := 0, slots := 0, locals := 216 } : Room) g N I P J [.ref (g.1 95), .int x] (fun v I' P' J' => (∃ z, v = some (.int z)) ∧ (zGm σ x (sOvf σ) I P J) v I' P' J') 0 0 := by
  refine z_of (by decide) (Nat.le_of_ble_eq_true rfl) (lv0 := [(0, .ref (g.1 95)), (1, .int x)]) rfl ?_
  intro C hlx hC hE hRm
  have hC : zX C cX6_overflow 6 RX6 (zT yX6_overflow cX6_overflow 6 (Option.some FieldType.int)) g N := hC
  refine z_aload_n (pc := 0) hC 0 dX6_overflow_0 rfl rfl z_isr_r ?_
  refine z_iload_n (pc := 1) hC 1 dX6_overflow_1 rfl rfl ?_
  refine z_callV (pc := 2) (st := []) hC [.int x] (kX6_hasLayout C.2.1 g N I P J hm x) rfl (z_lt hC (by decide)) rfl zkX6_hasLayout zm_4_196 ⟨rfl, rfl⟩ rfl rfl hRm ⟨Nat.le_of_ble_eq_true rfl, Nat.le_of_ble_eq_true rfl⟩ (Nat.le_of_ble_eq_true rfl) ⟨Nat.zero_le _, Nat.zero_le _⟩ dX6_overflow_2 ?_
  intro v I1 P1 J1 hq
  obtain ⟨c, hv, hct, hcf, hm1, hk1⟩ := hq
  subst hv
  show zJ C g N 6 0 0 I1 P1 J1 5 [(0, .ref (g.1 95)), (1, .int x)] [.int (zB c)]
  refine z_if_ne (pc := 5) (tgt := 10) hC dX6_overflow_5 (by decide) (fun h5 => ?_) (fun h5 => ?_)
  · skip
    have g5 := zB_t h5
    obtain ⟨b, rfl, hb, he, hs, h3, har, hsh⟩ := hct g5
    refine z_aload_n (pc := 10) hC 0 dX6_overflow_10 rfl rfl z_isr_r ?_
    refine z_iload_n (pc := 11) hC 1 dX6_overflow_11 rfl rfl ?_
    refine z_cV (pc := 12) (st := []) hC [.int (nI b)] (kX6_isLeaf C.2.1 g N I1 P1 J1 hm1 b he) rfl (z_lt hC (by decide)) rfl zkX6_isLeaf zm_4_212 ⟨rfl, rfl⟩ rfl rfl hRm ⟨Nat.le_of_ble_eq_true rfl, Nat.le_of_ble_eq_true rfl⟩ (Nat.le_of_ble_eq_true rfl) ⟨Nat.zero_le _, Nat.zero_le _⟩ dX6_overflow_12 ?_
    refine z_if_eq (pc := 15) (tgt := 79) hC dX6_overflow_15 (by decide) (fun h15 => ?_) (fun h15 => ?_)
    · skip
      have g15 := zB_f h15
      refine z_aload_n (pc := 79) hC 0 dX6_overflow_79 rfl rfl z_isr_r ?_
      refine z_iload_n (pc := 80) hC 1 dX6_overflow_80 rfl rfl ?_
      refine z_callV (pc := 81) (st := []) hC [.int (nI b)] ((kX6_layKids C.2.1 g N I1 P1 J1 hm1 b he)) rfl (z_lt hC (by decide)) rfl zkX6_layKids zm_4_154 ⟨rfl, rfl⟩ rfl rfl hRm ⟨Nat.le_of_ble_eq_true rfl, Nat.le_of_ble_eq_true rfl⟩ (Nat.le_of_ble_eq_true rfl) ⟨Nat.zero_le _, Nat.zero_le _⟩ dX6_overflow_81 ?_
      intro v I2 P2 J2 hq
      obtain ⟨hv, hP2, hJ2, hfr, hkq⟩ := hq
      subst hv
      rw [hP2, hJ2]
      have hm2 := hm1.eq (fun k => hfr 96 k (by decide) (by omega))
      have hcon := znot_f g15
      have har2 : mAr σ I2 := fun c hc => by
        rw [hfr 101 _ (by decide) (by omega), hfr 101 _ (by decide) (by omega), hfr 103 _ (by decide) (by omega), hfr 103 _ (by decide) (by omega), hfr 102 _ (by decide) (by omega), hfr 102 _ (by decide) (by omega), hfr 105 _ (by decide) (by omega), hfr 104 _ (by decide) (by omega)]
        exact har c hc
      have hkm := kn_le hm.1 b
      show zJ C g N 6 0 0 I2 P1 J1 84 [(0, .ref (g.1 95)), (1, .int (nI b))] []
      refine z_iconst (pc := 84) (v := 0) hC dX6_overflow_84 rfl ?_
      refine z_istore_n (pc := 85) (lv' := [(2, .int 0), (0, .ref (g.1 95)), (1, .int (nI b))]) hC dX6_overflow_85 rfl (by decide) rfl ?_
      refine z_iconst (pc := 86) (v := 0) hC dX6_overflow_86 rfl ?_
      refine z_istore_n (pc := 87) (lv' := [(3, .int 0), (2, .int 0), (0, .ref (g.1 95)), (1, .int (nI b))]) hC dX6_overflow_87 rfl (by decide) rfl ?_
      have L88 : ∀ (zf : Nat) (k : Nat) (hkk : k ≤ kn σ b), kn σ b - k < zf → zJ C g N 6 0 0 I2 P1 J1 88 [(3, .int (nI k)), (2, .int (zbt (zor (sOvX σ b) k) (zor (sOvY σ b) k))), (0, .ref (g.1 95)), (1, .int (nI b))] [] := by
        intro zf
        induction zf with
        | zero =>
          intro k hkk hn2
          exact absurd hn2 (Nat.not_lt_zero _)
        | succ zf ih =>
          intro k hkk hn2
          refine z_iload_n (pc := 88) hC 0 dX6_overflow_88 rfl rfl ?_
          refine z_aload_n (pc := 89) hC 2 dX6_overflow_89 rfl rfl z_isr_r ?_
          refine z_gI (pc := 90) hC 6 5 (x := nI (kn σ b)) rfl (z_lt hC (by decide)) rfl inX6 (by decide) rfl zm_4_78 hkq.1 dX6_overflow_90 ?_
          refine z_icmp_ge (pc := 93) (tgt := 182) hC dX6_overflow_93 (by decide) (fun h93 => ?_) (fun h93 => ?_)
          · skip
            have g93 := Int32.not_lt.mpr h93
            have ek : k = kn σ b := Nat.le_antisymm hkk (zc_ge h93 (by omega) (by omega))
            refine z_iload_n (pc := 182) hC 1 dX6_overflow_182 rfl rfl ?_
            exact z_iret (pc := 183) hC hE dX6_overflow_183 ⟨⟨_, rfl⟩, ⟨Or.inr ⟨b, rfl, hb, he, hs, by subst ek; unfold sOvf; rw [if_pos hcon]; rfl, (hfr 95 3 (by decide) (by decide)).trans h3⟩, hm2, ⟨hk1.1, hk1.2.1, fun q j hq => (hfr q j (by omega) (by omega)).trans (hk1.2.2 q j hq)⟩⟩⟩
          · skip
            have g93 := Int32.not_le.mp h93
            have hkn := zc_lt h93 (by omega) (by omega)
            have hk40 := (sKids_lt hm.1 (kd_mem hkn)).2.1
            have hks := sKids_sh hm.1 hs (kd_mem hkn)
            refine z_iconst (pc := 96) (v := 0) hC dX6_overflow_96 rfl ?_
            refine z_istore (pc := 97) (lv' := [(4, .int 0), (3, .int (nI k)), (2, .int (zbt (zor (sOvX σ b) k) (zor (sOvY σ b) k))), (0, .ref (g.1 95)), (1, .int (nI b))]) hC dX6_overflow_97 (by decide) rfl ?_
            refine z_iload (pc := 99) hC 0 dX6_overflow_99 rfl ?_
            refine z_iconst (pc := 101) (v := 2) hC dX6_overflow_101 rfl ?_
            refine z_icmp_ge (pc := 102) (tgt := 176) hC dX6_overflow_102 (by decide) (fun h102 => ?_) (fun h102 => ?_)
            · skip
              have g102 := Int32.not_lt.mpr h102
              exact absurd h102 (by decide)
            · skip
              have g102 := Int32.not_le.mp h102
              refine z_aload_n (pc := 105) hC 3 dX6_overflow_105 rfl rfl z_isr_r ?_
              refine z_aload_n (pc := 106) hC 3 dX6_overflow_106 rfl rfl z_isr_r ?_
              refine z_gF (pc := 107) hC 6 4 (t := 99) rfl (z_lt hC (by decide)) rfl inX6 (by decide) rfl zm_4_77 rfl dX6_overflow_107 ?_
              refine z_iload_n (pc := 110) hC 1 dX6_overflow_110 rfl rfl ?_
              refine z_iaN (pc := 111) hC k (x := nI (kd σ b k)) rfl (z_lt hC (by decide)) rfl (by omega) (by decide) (hkq.2 k hkn) dX6_overflow_111 ?_
              refine z_iload (pc := 112) hC 0 dX6_overflow_112 rfl ?_
              refine z_cV (pc := 114) (st := []) hC [.int (nI (kd σ b k)), .int 0] (kX6_end C.2.1 g N I2 P1 J1 (kd σ b k) 0 hk40 (by decide) (sX σ (kd σ b k)) (sWD σ (kd σ b k)) (har2 (kd σ b k) hks).2.2.1 (har2 (kd σ b k) hks).2.2.2.2.1) rfl (z_lt hC (by decide)) rfl zkX6_end zm_5_126 ⟨rfl, rfl⟩ rfl rfl hRm ⟨Nat.le_of_ble_eq_true rfl, Nat.le_of_ble_eq_true rfl⟩ (Nat.le_of_ble_eq_true rfl) ⟨Nat.zero_le _, Nat.zero_le _⟩ dX6_overflow_114 ?_
              refine z_aload_n (pc := 117) hC 3 dX6_overflow_117 rfl rfl z_isr_r ?_
              refine z_aload_n (pc := 118) hC 3 dX6_overflow_118 rfl rfl z_isr_r ?_
              refine z_gF (pc := 119) hC 6 4 (t := 99) rfl (z_lt hC (by decide)) rfl inX6 (by decide) rfl zm_4_77 rfl dX6_overflow_119 ?_
              refine z_iload_n (pc := 122) hC 1 dX6_overflow_122 rfl rfl ?_
              refine z_iaN (pc := 123) hC k (x := nI (kd σ b k)) rfl (z_lt hC (by decide)) rfl (by omega) (by decide) (hkq.2 k hkn) dX6_overflow_123 ?_
              refine z_bipush (pc := 124) (v := 6) hC dX6_overflow_124 rfl ?_
              refine z_cV (pc := 126) (st := [.int (sX σ (kd σ b k) + sWD σ (kd σ b k))]) hC [.int (nI (kd σ b k)), .int 6] (kX6_of C.2.1 g N I2 P1 J1 hm2 (kd σ b k) 6 (sKids_lt hm.1 (kd_mem hkn)).2.2.1 (by decide) 6 rfl) rfl (z_lt hC (by decide)) rfl zkX6_of zm_4_162 ⟨rfl, rfl⟩ rfl rfl hRm ⟨Nat.le_of_ble_eq_true rfl, Nat.le_of_ble_eq_true rfl⟩ (Nat.le_of_ble_eq_true rfl) ⟨Nat.zero_le _, Nat.zero_le _⟩ dX6_overflow_126 ?_
              refine z_iadd (pc := 129) hC dX6_overflow_129 ?_
              refine z_aload_n (pc := 130) hC 3 dX6_overflow_130 rfl rfl z_isr_r ?_
              refine z_iload_n (pc := 131) hC 4 dX6_overflow_131 rfl rfl ?_
              refine z_iload (pc := 132) hC 0 dX6_overflow_132 rfl ?_
              refine z_cV (pc := 134) (st := [.int ((sX σ (kd σ b k) + sWD σ (kd σ b k)) + (sSt σ (kd σ b k) 6))]) hC [.int (nI b), .int 0] (kX6_end C.2.1 g N I2 P1 J1 b 0 hb (by decide) (sX σ b) (sWD σ b) (har2 b hs).2.2.1 (har2 b hs).2.2.2.2.1) rfl (z_lt hC (by decide)) rfl zkX6_end zm_5_126 ⟨rfl, rfl⟩ rfl rfl hRm ⟨Nat.le_of_ble_eq_true rfl, Nat.le_of_ble_eq_true rfl⟩ (Nat.le_of_ble_eq_true rfl) ⟨Nat.zero_le _, Nat.zero_le _⟩ dX6_overflow_134 ?_
              refine z_aload_n (pc := 137) hC 3 dX6_overflow_137 rfl rfl z_isr_r ?_
              refine z_iload_n (pc := 138) hC 4 dX6_overflow_138 rfl rfl ?_
              refine z_iconst (pc := 139) (v := 5) hC dX6_overflow_139 rfl ?_
              refine z_cV (pc := 140) (st := [.int (sX σ b + sWD σ b), .int ((sX σ (kd σ b k) + sWD σ (kd σ b k)) + (sSt σ (kd σ b k) 6))]) hC [.int (nI b), .int 5] (kX6_of C.2.1 g N I2 P1 J1 hm2 b 5 he (by decide) 5 rfl) rfl (z_lt hC (by decide)) rfl zkX6_of zm_4_162 ⟨rfl, rfl⟩ rfl rfl hRm ⟨Nat.le_of_ble_eq_true rfl, Nat.le_of_ble_eq_true rfl⟩ (Nat.le_of_ble_eq_true rfl) ⟨Nat.zero_le _, Nat.zero_le _⟩ dX6_overflow_140 ?_
              refine z_isub (pc := 143) hC dX6_overflow_143 ?_
              refine z_icmp_le (pc := 144) (tgt := 151) hC dX6_overflow_144 (by decide) (fun h144 => ?_) (fun h144 => ?_)
              · skip
                have g144 := Int32.not_lt.mpr h144
                refine z_iconst (pc := 151) (v := 0) hC dX6_overflow_151 rfl ?_
                refine z_istore (pc := 152) (lv' := [(5, .int 0), (4, .int 0), (3, .int (nI k)), (2, .int (zbt (zor (sOvX σ b) k) (zor (sOvY σ b) k))), (0, .ref (g.1 95)), (1, .int (nI b))]) hC dX6_overflow_152 (by decide) rfl ?_
                refine z_iload_n (pc := 154) hC 3 dX6_overflow_154 rfl rfl ?_
                refine z_iload (pc := 155) hC 0 dX6_overflow_155 rfl ?_
                refine z_if_eq (pc := 157) (tgt := 167) hC dX6_overflow_157 (by decide) (fun h157 => ?_) (fun h157 => ?_)
                · skip
                  refine z_iconst (pc := 167) (v := 0) hC dX6_overflow_167 rfl ?_
                  refine z_ior (pc := 168) hC dX6_overflow_168 ?_
                  refine z_eqI (show (zbt (zor (sOvX σ b) k) (zor (sOvY σ b) k)) ||| 0 = zbt (zor (sOvX σ b) (k + 1)) (zor (sOvY σ b) k) from (zbt_0 _ _).trans (by rw [zor_f (show (sOvX σ b) k = false from decide_eq_false g144)])) ?_
                  refine z_istore_n (pc := 169) (lv' := [(2, .int (zbt (zor (sOvX σ b) (k + 1)) (zor (sOvY σ b) k))), (5, .int 0), (4, .int 0), (3, .int (nI k)), (0, .ref (g.1 95)), (1, .int (nI b))]) hC dX6_overflow_169 rfl (by decide) rfl ?_
                  refine z_iinc (pc := 170) (v := 1) (lv' := [(4, .int 1), (2, .int (zbt (zor (sOvX σ b) (k + 1)) (zor (sOvY σ b) k))), (5, .int 0), (3, .int (nI k)), (0, .ref (g.1 95)), (1, .int (nI b))]) hC 2 dX6_overflow_170 rfl rfl (by decide) rfl ?_
                  refine z_goto (pc := 173) (tgt := 99) hC dX6_overflow_173 (by decide) ?_
                  refine z_iload (pc := 99) hC 0 dX6_overflow_99 rfl ?_
                  refine z_iconst (pc := 101) (v := 2) hC dX6_overflow_101 rfl ?_
                  refine z_icmp_ge (pc := 102) (tgt := 176) hC dX6_overflow_102 (by decide) (fun h102 => ?_) (fun h102 => ?_)
                  · skip
                    have g102 := Int32.not_lt.mpr h102
                    exact absurd h102 (by decide)
                  · skip
                    have g102 := Int32.not_le.mp h102
                    refine z_aload_n (pc := 105) hC 4 dX6_overflow_105 rfl rfl z_isr_r ?_
                    refine z_aload_n (pc := 106) hC 4 dX6_overflow_106 rfl rfl z_isr_r ?_
                    refine z_gF (pc := 107) hC 6 4 (t := 99) rfl (z_lt hC (by decide)) rfl inX6 (by decide) rfl zm_4_77 rfl dX6_overflow_107 ?_
                    refine z_iload_n (pc := 110) hC 3 dX6_overflow_110 rfl rfl ?_
                    refine z_iaN (pc := 111) hC k (x := nI (kd σ b k)) rfl (z_lt hC (by decide)) rfl (by omega) (by decide) (hkq.2 k hkn) dX6_overflow_111 ?_
                    refine z_iload (pc := 112) hC 0 dX6_overflow_112 rfl ?_
                    refine z_cV (pc := 114) (st := []) hC [.int (nI (kd σ b k)), .int 1] (kX6_end C.2.1 g N I2 P1 J1 (kd σ b k) 1 hk40 (by decide) (sY σ (kd σ b k)) (sHT σ (kd σ b k)) (har2 (kd σ b k) hks).2.2.2.1 (har2 (kd σ b k) hks).2.2.2.2.2.1) rfl (z_lt hC (by decide)) rfl zkX6_end zm_5_126 ⟨rfl, rfl⟩ rfl rfl hRm ⟨Nat.le_of_ble_eq_true rfl, Nat.le_of_ble_eq_true rfl⟩ (Nat.le_of_ble_eq_true rfl) ⟨Nat.zero_le _, Nat.zero_le _⟩ dX6_overflow_114 ?_
                    refine z_aload_n (pc := 117) hC 4 dX6_overflow_117 rfl rfl z_isr_r ?_
                    refine z_aload_n (pc := 118) hC 4 dX6_overflow_118 rfl rfl z_isr_r ?_
                    refine z_gF (pc := 119) hC 6 4 (t := 99) rfl (z_lt hC (by decide)) rfl inX6 (by decide) rfl zm_4_77 rfl dX6_overflow_119 ?_
                    refine z_iload_n (pc := 122) hC 3 dX6_overflow_122 rfl rfl ?_
                    refine z_iaN (pc := 123) hC k (x := nI (kd σ b k)) rfl (z_lt hC (by decide)) rfl (by omega) (by decide) (hkq.2 k hkn) dX6_overflow_123 ?_
                    refine z_bipush (pc := 124) (v := 6) hC dX6_overflow_124 rfl ?_
                    refine z_cV (pc := 126) (st := [.int (sY σ (kd σ b k) + sHT σ (kd σ b k))]) hC [.int (nI (kd σ b k)), .int 6] (kX6_of C.2.1 g N I2 P1 J1 hm2 (kd σ b k) 6 (sKids_lt hm.1 (kd_mem hkn)).2.2.1 (by decide) 6 rfl) rfl (z_lt hC (by decide)) rfl zkX6_of zm_4_162 ⟨rfl, rfl⟩ rfl rfl hRm ⟨Nat.le_of_ble_eq_true rfl, Nat.le_of_ble_eq_true rfl⟩ (Nat.le_of_ble_eq_true rfl) ⟨Nat.zero_le _, Nat.zero_le _⟩ dX6_overflow_126 ?_
                    refine z_iadd (pc := 129) hC dX6_overflow_129 ?_
                    refine z_aload_n (pc := 130) hC 4 dX6_overflow_130 rfl rfl z_isr_r ?_
                    refine z_iload_n (pc := 131) hC 5 dX6_overflow_131 rfl rfl ?_
                    refine z_iload (pc := 132) hC 0 dX6_overflow_132 rfl ?_
                    refine z_cV (pc := 134) (st := [.int ((sY σ (kd σ b k) + sHT σ (kd σ b k)) + (sSt σ (kd σ b k) 6))]) hC [.int (nI b), .int 1] (kX6_end C.2.1 g N I2 P1 J1 b 1 hb (by decide) (sY σ b) (sHT σ b) (har2 b hs).2.2.2.1 (har2 b hs).2.2.2.2.2.1) rfl (z_lt hC (by decide)) rfl zkX6_end zm_5_126 ⟨rfl, rfl⟩ rfl rfl hRm ⟨Nat.le_of_ble_eq_true rfl, Nat.le_of_ble_eq_true rfl⟩ (Nat.le_of_ble_eq_true rfl) ⟨Nat.zero_le _, Nat.zero_le _⟩ dX6_overflow_134 ?_
                    refine z_aload_n (pc := 137) hC 4 dX6_overflow_137 rfl rfl z_isr_r ?_
                    refine z_iload_n (pc := 138) hC 5 dX6_overflow_138 rfl rfl ?_
                    refine z_iconst (pc := 139) (v := 5) hC dX6_overflow_139 rfl ?_
                    refine z_cV (pc := 140) (st := [.int (sY σ b + sHT σ b), .int ((sY σ (kd σ b k) + sHT σ (kd σ b k)) + (sSt σ (kd σ b k) 6))]) hC [.int (nI b), .int 5] (kX6_of C.2.1 g N I2 P1 J1 hm2 b 5 he (by decide) 5 rfl) rfl (z_lt hC (by decide)) rfl zkX6_of zm_4_162 ⟨rfl, rfl⟩ rfl rfl hRm ⟨Nat.le_of_ble_eq_true rfl, Nat.le_of_ble_eq_true rfl⟩ (Nat.le_of_ble_eq_true rfl) ⟨Nat.zero_le _, Nat.zero_le _⟩ dX6_overflow_140 ?_
                    refine z_isub (pc := 143) hC dX6_overflow_143 ?_
                    refine z_icmp_le (pc := 144) (tgt := 151) hC dX6_overflow_144 (by decide) (fun h144 => ?_) (fun h144 => ?_)
                    · skip
                      have g144 := Int32.not_lt.mpr h144
                      refine z_iconst (pc := 151) (v := 0) hC dX6_overflow_151 rfl ?_
                      refine z_istore (pc := 152) (lv' := [(5, .int 0), (4, .int 1), (2, .int (zbt (zor (sOvX σ b) (k + 1)) (zor (sOvY σ b) k))), (3, .int (nI k)), (0, .ref (g.1 95)), (1, .int (nI b))]) hC dX6_overflow_152 (by decide) rfl ?_
                      refine z_iload_n (pc := 154) hC 2 dX6_overflow_154 rfl rfl ?_
                      refine z_iload (pc := 155) hC 0 dX6_overflow_155 rfl ?_
                      refine z_if_eq (pc := 157) (tgt := 167) hC dX6_overflow_157 (by decide) (fun h157 => ?_) (fun h157 => ?_)
                      · skip
                        refine z_iconst (pc := 167) (v := 0) hC dX6_overflow_167 rfl ?_
                        refine z_ior (pc := 168) hC dX6_overflow_168 ?_
                        refine z_eqI (show (zbt (zor (sOvX σ b) (k + 1)) (zor (sOvY σ b) k)) ||| 0 = zbt (zor (sOvX σ b) (k + 1)) (zor (sOvY σ b) (k + 1)) from (zbt_0 _ _).trans (by rw [zor_f (show (sOvY σ b) k = false from decide_eq_false g144)])) ?_
                        refine z_istore_n (pc := 169) (lv' := [(2, .int (zbt (zor (sOvX σ b) (k + 1)) (zor (sOvY σ b) (k + 1)))), (5, .int 0), (4, .int 1), (3, .int (nI k)), (0, .ref (g.1 95)), (1, .int (nI b))]) hC dX6_overflow_169 rfl (by decide) rfl ?_
                        refine z_iinc (pc := 170) (v := 2) (lv' := [(4, .int 2), (2, .int (zbt (zor (sOvX σ b) (k + 1)) (zor (sOvY σ b) (k + 1)))), (5, .int 0), (3, .int (nI k)), (0, .ref (g.1 95)), (1, .int (nI b))]) hC 2 dX6_overflow_170 rfl rfl (by decide) rfl ?_
                        refine z_goto (pc := 173) (tgt := 99) hC dX6_overflow_173 (by decide) ?_
                        refine z_iload (pc := 99) hC 0 dX6_overflow_99 rfl ?_
                        refine z_iconst (pc := 101) (v := 2) hC dX6_overflow_101 rfl ?_
                        refine z_icmp_ge (pc := 102) (tgt := 176) hC dX6_overflow_102 (by decide) (fun h102 => ?_) (fun h102 => ?_)
                        · skip
                          have g102 := Int32.not_lt.mpr h102
                          refine z_iinc (pc := 176) (v := nI (k + 1)) (lv' := [(3, .int (nI (k + 1))), (4, .int 2), (2, .int (zbt (zor (sOvX σ b) (k + 1)) (zor (sOvY σ b) (k + 1)))), (5, .int 0), (0, .ref (g.1 95)), (1, .int (nI b))]) hC 3 dX6_overflow_176 rfl (nI_1 k) (by decide) rfl ?_
                          refine z_goto (pc := 179) (tgt := 88) hC dX6_overflow_179 (by decide) ?_
                          refine z_lvs (lv' := [(3, .int (nI (k + 1))), (2, .int (zbt (zor (sOvX σ b) (k + 1)) (zor (sOvY σ b) (k + 1)))), (0, .ref (g.1 95)), (1, .int (nI b))]) [0, 2, 4, 5] rfl ?_
                          exact ih (k + 1) (by omega) (by omega)
                        · skip
                          have g102 := Int32.not_le.mp h102
                          exact absurd h102 (by decide)
                      · skip
                        exact absurd h157 (by decide)
                    · skip
                      have g144 := Int32.not_le.mp h144
                      refine z_iconst (pc := 147) (v := 1) hC dX6_overflow_147 rfl ?_
                      refine z_goto (pc := 148) (tgt := 152) hC dX6_overflow_148 (by decide) ?_
                      refine z_istore (pc := 152) (lv' := [(5, .int 1), (4, .int 1), (2, .int (zbt (zor (sOvX σ b) (k + 1)) (zor (sOvY σ b) k))), (3, .int (nI k)), (0, .ref (g.1 95)), (1, .int (nI b))]) hC dX6_overflow_152 (by decide) rfl ?_
                      refine z_iload_n (pc := 154) hC 2 dX6_overflow_154 rfl rfl ?_
                      refine z_iload (pc := 155) hC 0 dX6_overflow_155 rfl ?_
                      refine z_if_eq (pc := 157) (tgt := 167) hC dX6_overflow_157 (by decide) (fun h157 => ?_) (fun h157 => ?_)
                      · skip
                        exact absurd h157 (by decide)
                      · skip
                        refine z_iconst (pc := 160) (v := 1) hC dX6_overflow_160 rfl ?_
                        refine z_iload (pc := 161) hC 1 dX6_overflow_161 rfl ?_
                        refine z_iadd (pc := 163) hC dX6_overflow_163 ?_
                        refine z_goto (pc := 164) (tgt := 168) hC dX6_overflow_164 (by decide) ?_
                        refine z_ior (pc := 168) hC dX6_overflow_168 ?_
                        refine z_eqI (show (zbt (zor (sOvX σ b) (k + 1)) (zor (sOvY σ b) k)) ||| (1 + 1) = zbt (zor (sOvX σ b) (k + 1)) (zor (sOvY σ b) (k + 1)) from (zbt_2 _ _).trans (by rw [zor_t (show (sOvY σ b) k = true from decide_eq_true g144)])) ?_
                        refine z_istore_n (pc := 169) (lv' := [(2, .int (zbt (zor (sOvX σ b) (k + 1)) (zor (sOvY σ b) (k + 1)))), (5, .int 1), (4, .int 1), (3, .int (nI k)), (0, .ref (g.1 95)), (1, .int (nI b))]) hC dX6_overflow_169 rfl (by decide) rfl ?_
                        refine z_iinc (pc := 170) (v := 2) (lv' := [(4, .int 2), (2, .int (zbt (zor (sOvX σ b) (k + 1)) (zor (sOvY σ b) (k + 1)))), (5, .int 1), (3, .int (nI k)), (0, .ref (g.1 95)), (1, .int (nI b))]) hC 2 dX6_overflow_170 rfl rfl (by decide) rfl ?_
                        refine z_goto (pc := 173) (tgt := 99) hC dX6_overflow_173 (by decide) ?_
                        refine z_iload (pc := 99) hC 0 dX6_overflow_99 rfl ?_
                        refine z_iconst (pc := 101) (v := 2) hC dX6_overflow_101 rfl ?_
                        refine z_icmp_ge (pc := 102) (tgt := 176) hC dX6_overflow_102 (by decide) (fun h102 => ?_) (fun h102 => ?_)
                        · skip
                          have g102 := Int32.not_lt.mpr h102
                          refine z_iinc (pc := 176) (v := nI (k + 1)) (lv' := [(3, .int (nI (k + 1))), (4, .int 2), (2, .int (zbt (zor (sOvX σ b) (k + 1)) (zor (sOvY σ b) (k + 1)))), (5, .int 1), (0, .ref (g.1 95)), (1, .int (nI b))]) hC 3 dX6_overflow_176 rfl (nI_1 k) (by decide) rfl ?_
                          refine z_goto (pc := 179) (tgt := 88) hC dX6_overflow_179 (by decide) ?_
                          refine z_lvs (lv' := [(3, .int (nI (k + 1))), (2, .int (zbt (zor (sOvX σ b) (k + 1)) (zor (sOvY σ b) (k + 1)))), (0, .ref (g.1 95)), (1, .int (nI b))]) [0, 2, 4, 5] rfl ?_
                          exact ih (k + 1) (by omega) (by omega)
                        · skip
                          have g102 := Int32.not_le.mp h102
                          exact absurd h102 (by decide)
                · skip
                  exact absurd h157 (by decide)
              · skip
                have g144 := Int32.not_le.mp h144
                refine z_iconst (pc := 147) (v := 1) hC dX6_overflow_147 rfl ?_
                refine z_goto (pc := 148) (tgt := 152) hC dX6_overflow_148 (by decide) ?_
                refine z_istore (pc := 152) (lv' := [(5, .int 1), (4, .int 0), (3, .int (nI k)), (2, .int (zbt (zor (sOvX σ b) k) (zor (sOvY σ b) k))), (0, .ref (g.1 95)), (1, .int (nI b))]) hC dX6_overflow_152 (by decide) rfl ?_
                refine z_iload_n (pc := 154) hC 3 dX6_overflow_154 rfl rfl ?_
                refine z_iload (pc := 155) hC 0 dX6_overflow_155 rfl ?_
                refine z_if_eq (pc := 157) (tgt := 167) hC dX6_overflow_157 (by decide) (fun h157 => ?_) (fun h157 => ?_)
                · skip
                  exact absurd h157 (by decide)
                · skip
                  refine z_iconst (pc := 160) (v := 1) hC dX6_overflow_160 rfl ?_
                  refine z_iload (pc := 161) hC 1 dX6_overflow_161 rfl ?_
                  refine z_iadd (pc := 163) hC dX6_overflow_163 ?_
                  refine z_goto (pc := 164) (tgt := 168) hC dX6_overflow_164 (by decide) ?_
                  refine z_ior (pc := 168) hC dX6_overflow_168 ?_
                  refine z_eqI (show (zbt (zor (sOvX σ b) k) (zor (sOvY σ b) k)) ||| (1 + 0) = zbt (zor (sOvX σ b) (k + 1)) (zor (sOvY σ b) k) from (zbt_1 _ _).trans (by rw [zor_t (show (sOvX σ b) k = true from decide_eq_true g144)])) ?_
                  refine z_istore_n (pc := 169) (lv' := [(2, .int (zbt (zor (sOvX σ b) (k + 1)) (zor (sOvY σ b) k))), (5, .int 1), (4, .int 0), (3, .int (nI k)), (0, .ref (g.1 95)), (1, .int (nI b))]) hC dX6_overflow_169 rfl (by decide) rfl ?_
                  refine z_iinc (pc := 170) (v := 1) (lv' := [(4, .int 1), (2, .int (zbt (zor (sOvX σ b) (k + 1)) (zor (sOvY σ b) k))), (5, .int 1), (3, .int (nI k)), (0, .ref (g.1 95)), (1, .int (nI b))]) hC 2 dX6_overflow_170 rfl rfl (by decide) rfl ?_
                  refine z_goto (pc := 173) (tgt := 99) hC dX6_overflow_173 (by decide) ?_
                  refine z_iload (pc := 99) hC 0 dX6_overflow_99 rfl ?_
                  refine z_iconst (pc := 101) (v := 2) hC dX6_overflow_101 rfl ?_
                  refine z_icmp_ge (pc := 102) (tgt := 176) hC dX6_overflow_102 (by decide) (fun h102 => ?_) (fun h102 => ?_)
                  · skip
                    have g102 := Int32.not_lt.mpr h102
                    exact absurd h102 (by decide)
                  · skip
                    have g102 := Int32.not_le.mp h102
                    refine z_aload_n (pc := 105) hC 4 dX6_overflow_105 rfl rfl z_isr_r ?_
                    refine z_aload_n (pc := 106) hC 4 dX6_overflow_106 rfl rfl z_isr_r ?_
                    refine z_gF (pc := 107) hC 6 4 (t := 99) rfl (z_lt hC (by decide)) rfl inX6 (by decide) rfl zm_4_77 rfl dX6_overflow_107 ?_
                    refine z_iload_n (pc := 110) hC 3 dX6_overflow_110 rfl rfl ?_
                    refine z_iaN (pc := 111) hC k (x := nI (kd σ b k)) rfl (z_lt hC (by decide)) rfl (by omega) (by decide) (hkq.2 k hkn) dX6_overflow_111 ?_
                    refine z_iload (pc := 112) hC 0 dX6_overflow_112 rfl ?_
                    refine z_cV (pc := 114) (st := []) hC [.int (nI (kd σ b k)), .int 1] (kX6_end C.2.1 g N I2 P1 J1 (kd σ b k) 1 hk40 (by decide) (sY σ (kd σ b k)) (sHT σ (kd σ b k)) (har2 (kd σ b k) hks).2.2.2.1 (har2 (kd σ b k) hks).2.2.2.2.2.1) rfl (z_lt hC (by decide)) rfl zkX6_end zm_5_126 ⟨rfl, rfl⟩ rfl rfl hRm ⟨Nat.le_of_ble_eq_true rfl, Nat.le_of_ble_eq_true rfl⟩ (Nat.le_of_ble_eq_true rfl) ⟨Nat.zero_le _, Nat.zero_le _⟩ dX6_overflow_114 ?_
                    refine z_aload_n (pc := 117) hC 4 dX6_overflow_117 rfl rfl z_isr_r ?_
                    refine z_aload_n (pc := 118) hC 4 dX6_overflow_118 rfl rfl z_isr_r ?_
                    refine z_gF (pc := 119) hC 6 4 (t := 99) rfl (z_lt hC (by decide)) rfl inX6 (by decide) rfl zm_4_77 rfl dX6_overflow_119 ?_
                    refine z_iload_n (pc := 122) hC 3 dX6_overflow_122 rfl rfl ?_
                    refine z_iaN (pc := 123) hC k (x := nI (kd σ b k)) rfl (z_lt hC (by decide)) rfl (by omega) (by decide) (hkq.2 k hkn) dX6_overflow_123 ?_
                    refine z_bipush (pc := 124) (v := 6) hC dX6_overflow_124 rfl ?_
                    refine z_cV (pc := 126) (st := [.int (sY σ (kd σ b k) + sHT σ (kd σ b k))]) hC [.int (nI (kd σ b k)), .int 6] (kX6_of C.2.1 g N I2 P1 J1 hm2 (kd σ b k) 6 (sKids_lt hm.1 (kd_mem hkn)).2.2.1 (by decide) 6 rfl) rfl (z_lt hC (by decide)) rfl zkX6_of zm_4_162 ⟨rfl, rfl⟩ rfl rfl hRm ⟨Nat.le_of_ble_eq_true rfl, Nat.le_of_ble_eq_true rfl⟩ (Nat.le_of_ble_eq_true rfl) ⟨Nat.zero_le _, Nat.zero_le _⟩ dX6_overflow_126 ?_
                    refine z_iadd (pc := 129) hC dX6_overflow_129 ?_
                    refine z_aload_n (pc := 130) hC 4 dX6_overflow_130 rfl rfl z_isr_r ?_
                    refine z_iload_n (pc := 131) hC 5 dX6_overflow_131 rfl rfl ?_
                    refine z_iload (pc := 132) hC 0 dX6_overflow_132 rfl ?_
                    refine z_cV (pc := 134) (st := [.int ((sY σ (kd σ b k) + sHT σ (kd σ b k)) + (sSt σ (kd σ b k) 6))]) hC [.int (nI b), .int 1] (kX6_end C.2.1 g N I2 P1 J1 b 1 hb (by decide) (sY σ b) (sHT σ b) (har2 b hs).2.2.2.1 (har2 b hs).2.2.2.2.2.1) rfl (z_lt hC (by decide)) rfl zkX6_end zm_5_126 ⟨rfl, rfl⟩ rfl rfl hRm ⟨Nat.le_of_ble_eq_true rfl, Nat.le_of_ble_eq_true rfl⟩ (Nat.le_of_ble_eq_true rfl) ⟨Nat.zero_le _, Nat.zero_le _⟩ dX6_overflow_134 ?_
                    refine z_aload_n (pc := 137) hC 4 dX6_overflow_137 rfl rfl z_isr_r ?_
                    refine z_iload_n (pc := 138) hC 5 dX6_overflow_138 rfl rfl ?_
                    refine z_iconst (pc := 139) (v := 5) hC dX6_overflow_139 rfl ?_
                    refine z_cV (pc := 140) (st := [.int (sY σ b + sHT σ b), .int ((sY σ (kd σ b k) + sHT σ (kd σ b k)) + (sSt σ (kd σ b k) 6))]) hC [.int (nI b), .int 5] (kX6_of C.2.1 g N I2 P1 J1 hm2 b 5 he (by decide) 5 rfl) rfl (z_lt hC (by decide)) rfl zkX6_of zm_4_162 ⟨rfl, rfl⟩ rfl rfl hRm ⟨Nat.le_of_ble_eq_true rfl, Nat.le_of_ble_eq_true rfl⟩ (Nat.le_of_ble_eq_true rfl) ⟨Nat.zero_le _, Nat.zero_le _⟩ dX6_overflow_140 ?_
                    refine z_isub (pc := 143) hC dX6_overflow_143 ?_
                    refine z_icmp_le (pc := 144) (tgt := 151) hC dX6_overflow_144 (by decide) (fun h144 => ?_) (fun h144 => ?_)
                    · skip
                      have g144 := Int32.not_lt.mpr h144
                      refine z_iconst (pc := 151) (v := 0) hC dX6_overflow_151 rfl ?_
                      refine z_istore (pc := 152) (lv' := [(5, .int 0), (4, .int 1), (2, .int (zbt (zor (sOvX σ b) (k + 1)) (zor (sOvY σ b) k))), (3, .int (nI k)), (0, .ref (g.1 95)), (1, .int (nI b))]) hC dX6_overflow_152 (by decide) rfl ?_
                      refine z_iload_n (pc := 154) hC 2 dX6_overflow_154 rfl rfl ?_
                      refine z_iload (pc := 155) hC 0 dX6_overflow_155 rfl ?_
                      refine z_if_eq (pc := 157) (tgt := 167) hC dX6_overflow_157 (by decide) (fun h157 => ?_) (fun h157 => ?_)
                      · skip
                        refine z_iconst (pc := 167) (v := 0) hC dX6_overflow_167 rfl ?_
                        refine z_ior (pc := 168) hC dX6_overflow_168 ?_
                        refine z_eqI (show (zbt (zor (sOvX σ b) (k + 1)) (zor (sOvY σ b) k)) ||| 0 = zbt (zor (sOvX σ b) (k + 1)) (zor (sOvY σ b) (k + 1)) from (zbt_0 _ _).trans (by rw [zor_f (show (sOvY σ b) k = false from decide_eq_false g144)])) ?_
                        refine z_istore_n (pc := 169) (lv' := [(2, .int (zbt (zor (sOvX σ b) (k + 1)) (zor (sOvY σ b) (k + 1)))), (5, .int 0), (4, .int 1), (3, .int (nI k)), (0, .ref (g.1 95)), (1, .int (nI b))]) hC dX6_overflow_169 rfl (by decide) rfl ?_
                        refine z_iinc (pc := 170) (v := 2) (lv' := [(4, .int 2), (2, .int (zbt (zor (sOvX σ b) (k + 1)) (zor (sOvY σ b) (k + 1)))), (5, .int 0), (3, .int (nI k)), (0, .ref (g.1 95)), (1, .int (nI b))]) hC 2 dX6_overflow_170 rfl rfl (by decide) rfl ?_
                        refine z_goto (pc := 173) (tgt := 99) hC dX6_overflow_173 (by decide) ?_
                        refine z_iload (pc := 99) hC 0 dX6_overflow_99 rfl ?_
                        refine z_iconst (pc := 101) (v := 2) hC dX6_overflow_101 rfl ?_
                        refine z_icmp_ge (pc := 102) (tgt := 176) hC dX6_overflow_102 (by decide) (fun h102 => ?_) (fun h102 => ?_)
                        · skip
                          have g102 := Int32.not_lt.mpr h102
                          refine z_iinc (pc := 176) (v := nI (k + 1)) (lv' := [(3, .int (nI (k + 1))), (4, .int 2), (2, .int (zbt (zor (sOvX σ b) (k + 1)) (zor (sOvY σ b) (k + 1)))), (5, .int 0), (0, .ref (g.1 95)), (1, .int (nI b))]) hC 3 dX6_overflow_176 rfl (nI_1 k) (by decide) rfl ?_
                          refine z_goto (pc := 179) (tgt := 88) hC dX6_overflow_179 (by decide) ?_
                          refine z_lvs (lv' := [(3, .int (nI (k + 1))), (2, .int (zbt (zor (sOvX σ b) (k + 1)) (zor (sOvY σ b) (k + 1)))), (0, .ref (g.1 95)), (1, .int (nI b))]) [0, 2, 4, 5] rfl ?_
                          exact ih (k + 1) (by omega) (by omega)
                        · skip
                          have g102 := Int32.not_le.mp h102
                          exact absurd h102 (by decide)
                      · skip
                        exact absurd h157 (by decide)
                    · skip
                      have g144 := Int32.not_le.mp h144
                      refine z_iconst (pc := 147) (v := 1) hC dX6_overflow_147 rfl ?_
                      refine z_goto (pc := 148) (tgt := 152) hC dX6_overflow_148 (by decide) ?_
                      refine z_istore (pc := 152) (lv' := [(5, .int 1), (4, .int 1), (2, .int (zbt (zor (sOvX σ b) (k + 1)) (zor (sOvY σ b) k))), (3, .int (nI k)), (0, .ref (g.1 95)), (1, .int (nI b))]) hC dX6_overflow_152 (by decide) rfl ?_
                      refine z_iload_n (pc := 154) hC 2 dX6_overflow_154 rfl rfl ?_
                      refine z_iload (pc := 155) hC 0 dX6_overflow_155 rfl ?_
                      refine z_if_eq (pc := 157) (tgt := 167) hC dX6_overflow_157 (by decide) (fun h157 => ?_) (fun h157 => ?_)
                      · skip
                        exact absurd h157 (by decide)
                      · skip
                        refine z_iconst (pc := 160) (v := 1) hC dX6_overflow_160 rfl ?_
                        refine z_iload (pc := 161) hC 1 dX6_overflow_161 rfl ?_
                        refine z_iadd (pc := 163) hC dX6_overflow_163 ?_
                        refine z_goto (pc := 164) (tgt := 168) hC dX6_overflow_164 (by decide) ?_
                        refine z_ior (pc := 168) hC dX6_overflow_168 ?_
                        refine z_eqI (show (zbt (zor (sOvX σ b) (k + 1)) (zor (sOvY σ b) k)) ||| (1 + 1) = zbt (zor (sOvX σ b) (k + 1)) (zor (sOvY σ b) (k + 1)) from (zbt_2 _ _).trans (by rw [zor_t (show (sOvY σ b) k = true from decide_eq_true g144)])) ?_
                        refine z_istore_n (pc := 169) (lv' := [(2, .int (zbt (zor (sOvX σ b) (k + 1)) (zor (sOvY σ b) (k + 1)))), (5, .int 1), (4, .int 1), (3, .int (nI k)), (0, .ref (g.1 95)), (1, .int (nI b))]) hC dX6_overflow_169 rfl (by decide) rfl ?_
                        refine z_iinc (pc := 170) (v := 2) (lv' := [(4, .int 2), (2, .int (zbt (zor (sOvX σ b) (k + 1)) (zor (sOvY σ b) (k + 1)))), (5, .int 1), (3, .int (nI k)), (0, .ref (g.1 95)), (1, .int (nI b))]) hC 2 dX6_overflow_170 rfl rfl (by decide) rfl ?_
                        refine z_goto (pc := 173) (tgt := 99) hC dX6_overflow_173 (by decide) ?_
                        refine z_iload (pc := 99) hC 0 dX6_overflow_99 rfl ?_
                        refine z_iconst (pc := 101) (v := 2) hC dX6_overflow_101 rfl ?_
                        refine z_icmp_ge (pc := 102) (tgt := 176) hC dX6_overflow_102 (by decide) (fun h102 => ?_) (fun h102 => ?_)
                        · skip
                          have g102 := Int32.not_lt.mpr h102
                          refine z_iinc (pc := 176) (v := nI (k + 1)) (lv' := [(3, .int (nI (k + 1))), (4, .int 2), (2, .int (zbt (zor (sOvX σ b) (k + 1)) (zor (sOvY σ b) (k + 1)))), (5, .int 1), (0, .ref (g.1 95)), (1, .int (nI b))]) hC 3 dX6_overflow_176 rfl (nI_1 k) (by decide) rfl ?_
                          refine z_goto (pc := 179) (tgt := 88) hC dX6_overflow_179 (by decide) ?_
                          refine z_lvs (lv' := [(3, .int (nI (k + 1))), (2, .int (zbt (zor (sOvX σ b) (k + 1)) (zor (sOvY σ b) (k + 1)))), (0, .ref (g.1 95)), (1, .int (nI b))]) [0, 2, 4, 5] rfl ?_
                          exact ih (k + 1) (by omega) (by omega)
                        · skip
                          have g102 := Int32.not_le.mp h102
                          exact absurd h102 (by decide)
      exact L88 41 0 (Nat.zero_le _) (by omega)
    · skip
      have g15 := zB_t h15
      refine z_aload_n (pc := 18) hC 0 dX6_overflow_18 rfl rfl z_isr_r ?_
      refine z_iload_n (pc := 19) hC 1 dX6_overflow_19 rfl rfl ?_
      refine z_bipush (pc := 20) (v := 19) hC dX6_overflow_20 rfl ?_
      refine z_cV (pc := 22) (st := []) hC [.int (nI b), .int 19] (kX6_of C.2.1 g N I1 P1 J1 hm1 b 19 he (by decide) 19 rfl) rfl (z_lt hC (by decide)) rfl zkX6_of zm_4_162 ⟨rfl, rfl⟩ rfl rfl hRm ⟨Nat.le_of_ble_eq_true rfl, Nat.le_of_ble_eq_true rfl⟩ (Nat.le_of_ble_eq_true rfl) ⟨Nat.zero_le _, Nat.zero_le _⟩ dX6_overflow_22 ?_
      refine z_if_le (pc := 25) (tgt := 43) hC dX6_overflow_25 (by decide) (fun h25 => ?_) (fun h25 => ?_)
      · skip
        have g25 := Int32.not_lt.mpr h25
        refine z_iconst (pc := 43) (v := 0) hC dX6_overflow_43 rfl ?_
        refine z_istore_n (pc := 44) (lv' := [(2, .int 0), (0, .ref (g.1 95)), (1, .int (nI b))]) hC dX6_overflow_44 rfl (by decide) rfl ?_
        refine z_iload_n (pc := 45) hC 0 dX6_overflow_45 rfl rfl ?_
        refine z_if_eq (pc := 46) (tgt := 53) hC dX6_overflow_46 (by decide) (fun h46 => ?_) (fun h46 => ?_)
        · skip
          refine z_iconst (pc := 53) (v := 0) hC dX6_overflow_53 rfl ?_
          refine z_bipush (pc := 54) (v := 16) hC dX6_overflow_54 rfl ?_
          refine z_aload_n (pc := 56) hC 1 dX6_overflow_56 rfl rfl z_isr_r ?_
          refine z_gF (pc := 57) hC 6 11 (t := 105) rfl (z_lt hC (by decide)) rfl inX6 (by decide) rfl zm_4_84 rfl dX6_overflow_57 ?_
          refine z_iload_n (pc := 60) hC 2 dX6_overflow_60 rfl rfl ?_
          refine z_iaN (pc := 61) hC b (x := sLC σ (sNW σ) b (sWD σ b)) rfl (z_lt hC (by decide)) rfl hb (by decide) (har b hs).2.2.2.2.2.2.1 dX6_overflow_61 ?_
          refine z_imul (pc := 62) hC dX6_overflow_62 ?_
          refine z_aload_n (pc := 63) hC 1 dX6_overflow_63 rfl rfl z_isr_r ?_
          refine z_iload_n (pc := 64) hC 2 dX6_overflow_64 rfl rfl ?_
          refine z_iconst (pc := 65) (v := 1) hC dX6_overflow_65 rfl ?_
          refine z_cV (pc := 66) (st := [.int (16 * (sLC σ (sNW σ) b (sWD σ b))), .int 0]) hC [.int (nI b), .int 1] (kX6_inner C.2.1 g N I1 P1 J1 hm1 b 1 he (by decide) (sHT σ b) (har b hs).2.2.2.2.2.1) rfl (z_lt hC (by decide)) rfl zkX6_inner zm_5_4 ⟨rfl, rfl⟩ rfl rfl hRm ⟨Nat.le_of_ble_eq_true rfl, Nat.le_of_ble_eq_true rfl⟩ (Nat.le_of_ble_eq_true rfl) ⟨Nat.zero_le _, Nat.zero_le _⟩ dX6_overflow_66 ?_
          refine z_icmp_le (pc := 69) (tgt := 76) hC dX6_overflow_69 (by decide) (fun h69 => ?_) (fun h69 => ?_)
          · skip
            have g69 := Int32.not_lt.mpr h69
            refine z_iconst (pc := 76) (v := 0) hC dX6_overflow_76 rfl ?_
            refine z_iadd (pc := 77) hC dX6_overflow_77 ?_
            exact z_iret (pc := 78) hC hE dX6_overflow_78 ⟨⟨_, rfl⟩, ⟨Or.inr ⟨b, rfl, hb, he, hs, by unfold sOvf sOvT; rw [if_neg (by rw [znot_t g15]; decide), decide_eq_false (fun q => g25 q.1), decide_eq_false g69]; rfl, h3⟩, hm1, hk1⟩⟩
          · skip
            have g69 := Int32.not_le.mp h69
            refine z_iconst (pc := 72) (v := 2) hC dX6_overflow_72 rfl ?_
            refine z_goto (pc := 73) (tgt := 77) hC dX6_overflow_73 (by decide) ?_
            refine z_iadd (pc := 77) hC dX6_overflow_77 ?_
            exact z_iret (pc := 78) hC hE dX6_overflow_78 ⟨⟨_, rfl⟩, ⟨Or.inr ⟨b, rfl, hb, he, hs, by unfold sOvf sOvT; rw [if_neg (by rw [znot_t g15]; decide), decide_eq_false (fun q => g25 q.1), decide_eq_true g69]; rfl, h3⟩, hm1, hk1⟩⟩
        · skip
          exact absurd h46 (by decide)
      · skip
        have g25 := Int32.not_le.mp h25
        refine z_aload_n (pc := 28) hC 0 dX6_overflow_28 rfl rfl z_isr_r ?_
        refine z_iload_n (pc := 29) hC 1 dX6_overflow_29 rfl rfl ?_
        refine z_iconst (pc := 30) (v := 0) hC dX6_overflow_30 rfl ?_
        refine z_cV (pc := 31) (st := []) hC [.int (nI b), .int 0] (kX6_inner C.2.1 g N I1 P1 J1 hm1 b 0 he (by decide) (sWD σ b) (har b hs).2.2.2.2.1) rfl (z_lt hC (by decide)) rfl zkX6_inner zm_5_4 ⟨rfl, rfl⟩ rfl rfl hRm ⟨Nat.le_of_ble_eq_true rfl, Nat.le_of_ble_eq_true rfl⟩ (Nat.le_of_ble_eq_true rfl) ⟨Nat.zero_le _, Nat.zero_le _⟩ dX6_overflow_31 ?_
        refine z_bipush (pc := 34) (v := 8) hC dX6_overflow_34 rfl ?_
        refine z_icmp_ge (pc := 36) (tgt := 43) hC dX6_overflow_36 (by decide) (fun h36 => ?_) (fun h36 => ?_)
        · skip
          have g36 := Int32.not_lt.mpr h36
          refine z_iconst (pc := 43) (v := 0) hC dX6_overflow_43 rfl ?_
          refine z_istore_n (pc := 44) (lv' := [(2, .int 0), (0, .ref (g.1 95)), (1, .int (nI b))]) hC dX6_overflow_44 rfl (by decide) rfl ?_
          refine z_iload_n (pc := 45) hC 0 dX6_overflow_45 rfl rfl ?_
          refine z_if_eq (pc := 46) (tgt := 53) hC dX6_overflow_46 (by decide) (fun h46 => ?_) (fun h46 => ?_)
          · skip
            refine z_iconst (pc := 53) (v := 0) hC dX6_overflow_53 rfl ?_
            refine z_bipush (pc := 54) (v := 16) hC dX6_overflow_54 rfl ?_
            refine z_aload_n (pc := 56) hC 1 dX6_overflow_56 rfl rfl z_isr_r ?_
            refine z_gF (pc := 57) hC 6 11 (t := 105) rfl (z_lt hC (by decide)) rfl inX6 (by decide) rfl zm_4_84 rfl dX6_overflow_57 ?_
            refine z_iload_n (pc := 60) hC 2 dX6_overflow_60 rfl rfl ?_
            refine z_iaN (pc := 61) hC b (x := sLC σ (sNW σ) b (sWD σ b)) rfl (z_lt hC (by decide)) rfl hb (by decide) (har b hs).2.2.2.2.2.2.1 dX6_overflow_61 ?_
            refine z_imul (pc := 62) hC dX6_overflow_62 ?_
            refine z_aload_n (pc := 63) hC 1 dX6_overflow_63 rfl rfl z_isr_r ?_
            refine z_iload_n (pc := 64) hC 2 dX6_overflow_64 rfl rfl ?_
            refine z_iconst (pc := 65) (v := 1) hC dX6_overflow_65 rfl ?_
            refine z_cV (pc := 66) (st := [.int (16 * (sLC σ (sNW σ) b (sWD σ b))), .int 0]) hC [.int (nI b), .int 1] (kX6_inner C.2.1 g N I1 P1 J1 hm1 b 1 he (by decide) (sHT σ b) (har b hs).2.2.2.2.2.1) rfl (z_lt hC (by decide)) rfl zkX6_inner zm_5_4 ⟨rfl, rfl⟩ rfl rfl hRm ⟨Nat.le_of_ble_eq_true rfl, Nat.le_of_ble_eq_true rfl⟩ (Nat.le_of_ble_eq_true rfl) ⟨Nat.zero_le _, Nat.zero_le _⟩ dX6_overflow_66 ?_
            refine z_icmp_le (pc := 69) (tgt := 76) hC dX6_overflow_69 (by decide) (fun h69 => ?_) (fun h69 => ?_)
            · skip
              have g69 := Int32.not_lt.mpr h69
              refine z_iconst (pc := 76) (v := 0) hC dX6_overflow_76 rfl ?_
              refine z_iadd (pc := 77) hC dX6_overflow_77 ?_
              exact z_iret (pc := 78) hC hE dX6_overflow_78 ⟨⟨_, rfl⟩, ⟨Or.inr ⟨b, rfl, hb, he, hs, by unfold sOvf sOvT; rw [if_neg (by rw [znot_t g15]; decide), decide_eq_false (fun q => g36 q.2), decide_eq_false g69]; rfl, h3⟩, hm1, hk1⟩⟩
            · skip
              have g69 := Int32.not_le.mp h69
              refine z_iconst (pc := 72) (v := 2) hC dX6_overflow_72 rfl ?_
              refine z_goto (pc := 73) (tgt := 77) hC dX6_overflow_73 (by decide) ?_
              refine z_iadd (pc := 77) hC dX6_overflow_77 ?_
              exact z_iret (pc := 78) hC hE dX6_overflow_78 ⟨⟨_, rfl⟩, ⟨Or.inr ⟨b, rfl, hb, he, hs, by unfold sOvf sOvT; rw [if_neg (by rw [znot_t g15]; decide), decide_eq_false (fun q => g36 q.2), decide_eq_true g69]; rfl, h3⟩, hm1, hk1⟩⟩
          · skip
            exact absurd h46 (by decide)
        · skip
          have g36 := Int32.not_le.mp h36
          refine z_iconst (pc := 39) (v := 1) hC dX6_overflow_39 rfl ?_
          refine z_goto (pc := 40) (tgt := 44) hC dX6_overflow_40 (by decide) ?_
          refine z_istore_n (pc := 44) (lv' := [(2, .int 1), (0, .ref (g.1 95)), (1, .int (nI b))]) hC dX6_overflow_44 rfl (by decide) rfl ?_
          refine z_iload_n (pc := 45) hC 0 dX6_overflow_45 rfl rfl ?_
          refine z_if_eq (pc := 46) (tgt := 53) hC dX6_overflow_46 (by decide) (fun h46 => ?_) (fun h46 => ?_)
          · skip
            exact absurd h46 (by decide)
          · skip
            refine z_iconst (pc := 49) (v := 1) hC dX6_overflow_49 rfl ?_
            refine z_goto (pc := 50) (tgt := 54) hC dX6_overflow_50 (by decide) ?_
            refine z_bipush (pc := 54) (v := 16) hC dX6_overflow_54 rfl ?_
            refine z_aload_n (pc := 56) hC 1 dX6_overflow_56 rfl rfl z_isr_r ?_
            refine z_gF (pc := 57) hC 6 11 (t := 105) rfl (z_lt hC (by decide)) rfl inX6 (by decide) rfl zm_4_84 rfl dX6_overflow_57 ?_
            refine z_iload_n (pc := 60) hC 2 dX6_overflow_60 rfl rfl ?_
            refine z_iaN (pc := 61) hC b (x := sLC σ (sNW σ) b (sWD σ b)) rfl (z_lt hC (by decide)) rfl hb (by decide) (har b hs).2.2.2.2.2.2.1 dX6_overflow_61 ?_
            refine z_imul (pc := 62) hC dX6_overflow_62 ?_
            refine z_aload_n (pc := 63) hC 1 dX6_overflow_63 rfl rfl z_isr_r ?_
            refine z_iload_n (pc := 64) hC 2 dX6_overflow_64 rfl rfl ?_
            refine z_iconst (pc := 65) (v := 1) hC dX6_overflow_65 rfl ?_
            refine z_cV (pc := 66) (st := [.int (16 * (sLC σ (sNW σ) b (sWD σ b))), .int 1]) hC [.int (nI b), .int 1] (kX6_inner C.2.1 g N I1 P1 J1 hm1 b 1 he (by decide) (sHT σ b) (har b hs).2.2.2.2.2.1) rfl (z_lt hC (by decide)) rfl zkX6_inner zm_5_4 ⟨rfl, rfl⟩ rfl rfl hRm ⟨Nat.le_of_ble_eq_true rfl, Nat.le_of_ble_eq_true rfl⟩ (Nat.le_of_ble_eq_true rfl) ⟨Nat.zero_le _, Nat.zero_le _⟩ dX6_overflow_66 ?_
            refine z_icmp_le (pc := 69) (tgt := 76) hC dX6_overflow_69 (by decide) (fun h69 => ?_) (fun h69 => ?_)
            · skip
              have g69 := Int32.not_lt.mpr h69
              refine z_iconst (pc := 76) (v := 0) hC dX6_overflow_76 rfl ?_
              refine z_iadd (pc := 77) hC dX6_overflow_77 ?_
              exact z_iret (pc := 78) hC hE dX6_overflow_78 ⟨⟨_, rfl⟩, ⟨Or.inr ⟨b, rfl, hb, he, hs, by unfold sOvf sOvT; rw [if_neg (by rw [znot_t g15]; decide), decide_eq_true ⟨g25, g36⟩, decide_eq_false g69]; rfl, h3⟩, hm1, hk1⟩⟩
            · skip
              have g69 := Int32.not_le.mp h69
              refine z_iconst (pc := 72) (v := 2) hC dX6_overflow_72 rfl ?_
              refine z_goto (pc := 73) (tgt := 77) hC dX6_overflow_73 (by decide) ?_
              refine z_iadd (pc := 77) hC dX6_overflow_77 ?_
              exact z_iret (pc := 78) hC hE dX6_overflow_78 ⟨⟨_, rfl⟩, ⟨Or.inr ⟨b, rfl, hb, he, hs, by unfold sOvf sOvT; rw [if_neg (by rw [znot_t g15]; decide), decide_eq_true ⟨g25, g36⟩, decide_eq_true g69]; rfl, h3⟩, hm1, hk1⟩⟩
  · skip
    have g5 := zB_f h5
    refine z_iconst (pc := 8) (v := 0) hC dX6_overflow_8 rfl ?_
    exact z_iret (pc := 9) hC hE dX6_overflow_9 ⟨⟨_, rfl⟩, ⟨Or.inl (hcf g5), hm1, hk1⟩⟩
set_option maxHeartbeats 4000000 in
set_option maxRecDepth 100000 in
theorem kR6_widthFor (lx : Launch) (g : zG) (N : Nat) (I : Nat → Nat → Int32) (P : Nat → Nat → Option Nat) (J : Nat → Nat → Int64) {σ : zS} (hm : zMd σ I) (x n : Int32) : z_Ct lx yX6_widthFor (zT yX6_widthFor cX6_widthFor 6 (Option.some FieldType.int)) ({ frames := 7, cells := 0, slots := 0, locals := 175 } : Room) g N I P J [.ref (g.1 95), .int x, .int n] (fun v I' P' J' => (∃ z, v = some (.int z)) ∧ ((zbx σ x = false ∧ I' 95 3 = 1) ∨ ((zbx σ x = true ∧ ¬ (0 ≤ n ∧ n ≤ 100) ∧ I' 95 3 = 2) ∨ ∃ b, x = nI b ∧ b < 40 ∧ sEx σ b = true ∧ (0 ≤ n ∧ n ≤ 100) ∧ ((sSh σ b = false ∧ I' 95 3 = 3) ∨ (sSh σ b = true ∧ v = some (.int (sWf σ b n)) ∧ I' 95 3 = 0)))) ∧ zMd σ I' ∧ zKm I P J I' P' J') 0 0 := by
  refine z_of (by decide) (Nat.le_of_ble_eq_true rfl) (lv0 := [(0, .ref (g.1 95)), (1, .int x), (2, .int n)]) rfl ?_
  intro C hlx hC hE hRm
  have hC : zX C cX6_widthFor 6 RX6 (zT yX6_widthFor cX6_widthFor 6 (Option.some FieldType.int)) g N := hC
  refine z_aload_n (pc := 0) hC 0 dX6_widthFor_0 rfl rfl z_isr_r ?_
  refine z_aload_n (pc := 1) hC 0 dX6_widthFor_1 rfl rfl z_isr_r ?_
  refine z_iload_n (pc := 2) hC 1 dX6_widthFor_2 rfl rfl ?_
  refine z_cV (pc := 3) (st := [.ref (g.1 95)]) hC [.int x] (kX6_isBox C.2.1 g N I P J hm x) rfl (z_lt hC (by decide)) rfl zkX6_isBox zm_4_131 ⟨rfl, rfl⟩ rfl rfl hRm ⟨Nat.le_of_ble_eq_true rfl, Nat.le_of_ble_eq_true rfl⟩ (Nat.le_of_ble_eq_true rfl) ⟨Nat.zero_le _, Nat.zero_le _⟩ dX6_widthFor_3 ?_
  refine z_if_ne (pc := 6) (tgt := 13) hC dX6_widthFor_6 (by decide) (fun h6 => ?_) (fun h6 => ?_)
  · skip
    have g6 := zB_t h6
    obtain ⟨b, rfl, hb, he⟩ := zbx_iff.mp g6
    refine z_iload_n (pc := 13) hC 2 dX6_widthFor_13 rfl rfl ?_
    refine z_iconst (pc := 14) (v := 0) hC dX6_widthFor_14 rfl ?_
    refine z_bipush (pc := 15) (v := 100) hC dX6_widthFor_15 rfl ?_
    refine z_cS (pc := 17) (st := [.ref (g.1 95)]) hC [.int n, .int 0, .int 100] (kX6_in C.2.1 g N I P J n 0 100) zkX6_in zm_4_135 ⟨rfl, rfl⟩ rfl rfl hRm ⟨Nat.le_of_ble_eq_true rfl, Nat.le_of_ble_eq_true rfl⟩ (Nat.le_of_ble_eq_true rfl) ⟨Nat.zero_le _, Nat.zero_le _⟩ dX6_widthFor_17 ?_
    refine z_if_ne (pc := 20) (tgt := 27) hC dX6_widthFor_20 (by decide) (fun h20 => ?_) (fun h20 => ?_)
    · skip
      have g20 := zB_t h20
      refine z_iconst (pc := 27) (v := 0) hC dX6_widthFor_27 rfl ?_
      refine z_pI (pc := 28) hC 6 3 rfl (z_lt hC (by decide)) rfl inX6 tyX6_ok nmX6 (by decide) rfl zm_4_76 rfl rfl rfl dX6_widthFor_28 ?_
      refine z_aload_n (pc := 31) hC 0 dX6_widthFor_31 rfl rfl z_isr_r ?_
      refine z_gI (pc := 32) hC 6 3 (x := 0) rfl (z_lt hC (by decide)) rfl inX6 (by decide) rfl zm_4_76 (z_u_s _ _ _ _) dX6_widthFor_32 ?_
      refine z_if_ne (pc := 35) (tgt := 60) hC dX6_widthFor_35 (by decide) (fun h35 => ?_) (fun h35 => ?_)
      · skip
        exact absurd h35 (by decide)
      · skip
        refine z_aload_n (pc := 38) hC 0 dX6_widthFor_38 rfl rfl z_isr_r ?_
        refine z_callV (pc := 39) (st := []) hC [] (kX6_findShown C.2.1 g N (z_u I 95 3 0) P J (hm.u (by decide))) rfl (z_lt hC (by decide)) rfl zkX6_findShown zm_4_200 ⟨rfl, rfl⟩ rfl rfl hRm ⟨Nat.le_of_ble_eq_true rfl, Nat.le_of_ble_eq_true rfl⟩ (Nat.le_of_ble_eq_true rfl) ⟨Nat.zero_le _, Nat.zero_le _⟩ dX6_widthFor_39 ?_
        intro v42 I42 P42 J42 hq
        obtain ⟨hv, hP, hJ, h1⟩ := hq
        subst hv
        rw [hP, hJ]
        have hm2 := (hm.u (i := 95) (k := 3) (v := 0) (by decide)).eq (fun k => h1.1 96 k (by decide))
        have hk2 := (zKm.rf (I := I) (P := P) (J := J)).u (i := 95) (k := 3) (v := 0) (by decide) |>.sh h1
        show zJ C g N 6 0 0 I42 P J 42 [(0, .ref (g.1 95)), (1, .int (nI b)), (2, .int n)] []
        refine z_aload_n (pc := 42) hC 0 dX6_widthFor_42 rfl rfl z_isr_r ?_
        refine z_aload_n (pc := 43) hC 0 dX6_widthFor_43 rfl rfl z_isr_r ?_
        refine z_gF (pc := 44) hC 6 6 (t := 100) rfl (z_lt hC (by decide)) rfl inX6 (by decide) rfl zm_4_79 rfl dX6_widthFor_44 ?_
        refine z_iload_n (pc := 47) hC 1 dX6_widthFor_47 rfl rfl ?_
        refine z_zaN (pc := 48) hC b (x := zB (sSh σ b)) rfl (z_lt hC (by decide)) rfl hb (by decide) (h1.2 b (hm.lt he).1) dX6_widthFor_48 ?_
        refine z_if_eq (pc := 49) (tgt := 56) hC dX6_widthFor_49 (by decide) (fun h49 => ?_) (fun h49 => ?_)
        · skip
          have g49 := zB_f h49
          refine z_iconst (pc := 56) (v := 3) hC dX6_widthFor_56 rfl ?_
          refine z_pI (pc := 57) hC 6 3 rfl (z_lt hC (by decide)) rfl inX6 tyX6_ok nmX6 (by decide) rfl zm_4_76 rfl rfl rfl dX6_widthFor_57 ?_
          refine z_aload_n (pc := 60) hC 0 dX6_widthFor_60 rfl rfl z_isr_r ?_
          refine z_gI (pc := 61) hC 6 3 (x := 3) rfl (z_lt hC (by decide)) rfl inX6 (by decide) rfl zm_4_76 (z_u_s _ _ _ _) dX6_widthFor_61 ?_
          refine z_if_eq (pc := 64) (tgt := 69) hC dX6_widthFor_64 (by decide) (fun h64 => ?_) (fun h64 => ?_)
          · skip
            exact absurd h64 (by decide)
          · skip
            refine z_iconst (pc := 67) (v := 0) hC dX6_widthFor_67 rfl ?_
            exact z_iret (pc := 68) hC hE dX6_widthFor_68 ⟨⟨_, rfl⟩, ⟨Or.inr (Or.inr ⟨b, rfl, hb, he, of_decide_eq_true g20, Or.inl ⟨g49, z_u_s _ _ _ _⟩⟩), hm2.u (by decide), hk2.u (by decide)⟩⟩
        · skip
          have g49 := zB_t h49
          refine z_iconst (pc := 52) (v := 0) hC dX6_widthFor_52 rfl ?_
          refine z_goto (pc := 53) (tgt := 57) hC dX6_widthFor_53 (by decide) ?_
          refine z_pI (pc := 57) hC 6 3 rfl (z_lt hC (by decide)) rfl inX6 tyX6_ok nmX6 (by decide) rfl zm_4_76 rfl rfl rfl dX6_widthFor_57 ?_
          refine z_aload_n (pc := 60) hC 0 dX6_widthFor_60 rfl rfl z_isr_r ?_
          refine z_gI (pc := 61) hC 6 3 (x := 0) rfl (z_lt hC (by decide)) rfl inX6 (by decide) rfl zm_4_76 (z_u_s _ _ _ _) dX6_widthFor_61 ?_
          refine z_if_eq (pc := 64) (tgt := 69) hC dX6_widthFor_64 (by decide) (fun h64 => ?_) (fun h64 => ?_)
          · skip
            refine z_aload_n (pc := 69) hC 0 dX6_widthFor_69 rfl rfl z_isr_r ?_
            refine z_gF (pc := 70) hC 6 0 (t := 96) rfl (z_lt hC (by decide)) rfl inX6 (by decide) rfl zm_4_73 rfl dX6_widthFor_70 ?_
            refine z_iconst (pc := 73) (v := 1) hC dX6_widthFor_73 rfl ?_
            refine z_iaN (pc := 74) hC 1 (x := sVw σ) rfl (z_lt hC (by decide)) rfl (by decide) (by decide) ((z_u_a _ _ (by decide)).trans hm2.2.2.1) dX6_widthFor_74 ?_
            refine z_istore_n (pc := 75) (lv' := [(3, .int (sVw σ)), (0, .ref (g.1 95)), (1, .int (nI b)), (2, .int n)]) hC dX6_widthFor_75 rfl (by decide) rfl ?_
            refine z_iconst (pc := 76) (v := (-1)) hC dX6_widthFor_76 rfl ?_
            refine z_istore (pc := 77) (lv' := [(4, .int (-1)), (3, .int (sVw σ)), (0, .ref (g.1 95)), (1, .int (nI b)), (2, .int n)]) hC dX6_widthFor_77 (by decide) rfl ?_
            refine z_aload_n (pc := 79) hC 2 dX6_widthFor_79 rfl rfl z_isr_r ?_
            refine z_callV (pc := 80) (st := []) hC [] (kX6_findNaturalWidths C.2.1 g N (z_u I42 95 3 0) P J (hm2.u (by decide)) (fun c hc => (z_u_a _ _ (by decide)).trans (h1.2 c hc))) rfl (z_lt hC (by decide)) rfl zkX6_findNaturalWidths zm_4_208 ⟨rfl, rfl⟩ rfl rfl hRm ⟨Nat.le_of_ble_eq_true rfl, Nat.le_of_ble_eq_true rfl⟩ (Nat.le_of_ble_eq_true rfl) ⟨Nat.zero_le _, Nat.zero_le _⟩ dX6_widthFor_80 ?_
            intro v I5 P5 J5 hq
            obtain ⟨hv, hP, hJ, hna⟩ := hq
            subst hv
            rw [hP, hJ]
            have f5 : ∀ q j, q ≠ 99 → q ≠ 101 → q ≠ 95 → I5 q j = I42 q j := fun q j k1 k2 k3 => (hna.1 q j k1 (by omega) (by omega)).trans (z_u_a _ _ k3)
            have hm6 := hm2.eq (fun k => f5 96 k (by decide) (by decide) (by decide))
            have h956 : I5 95 3 = 0 := (hna.1 95 3 (by decide) (by omega) (by omega)).trans (z_u_s _ _ _ _)
            show zJ C g N 6 0 0 I5 P J 83 [(4, .int (-1)), (3, .int (sVw σ)), (0, .ref (g.1 95)), (1, .int (nI b)), (2, .int n)] []
            refine z_iconst (pc := 83) (v := 0) hC dX6_widthFor_83 rfl ?_
            refine z_istore (pc := 84) (lv' := [(5, .int 0), (4, .int (-1)), (3, .int (sVw σ)), (0, .ref (g.1 95)), (1, .int (nI b)), (2, .int n)]) hC dX6_widthFor_84 (by decide) rfl ?_
            have L86 : ∀ (zf : Nat) (k : Nat) (f : Int32) (Ik : Nat → Nat → Int32) (Jk : Nat → Nat → Int64) (hkk : k ≤ 2001) (hq5 : zwq σ b n k f) (hmz : zMd σ (z_u Ik 96 1 (sVw σ))) (h100 : ∀ c, c < sGv σ → Ik 100 c = zB (sSh σ c)) (h101 : ∀ b, sSh σ b = true → Ik 101 (2 * b + 0) = sNW σ b) (h95 : Ik 95 3 = 0) (hkm : zKm I P J Ik P Jk), 2001 - k < zf → zJ C g N 6 0 0 Ik P Jk 86 [(5, .int (nI k)), (4, .int f), (3, .int (sVw σ)), (0, .ref (g.1 95)), (1, .int (nI b)), (2, .int n)] [] := by
              intro zf
              induction zf with
              | zero =>
                intro k f Ik Jk hkk hq5 hmz h100 h101 h95 hkm hn2
                exact absurd hn2 (Nat.not_lt_zero _)
              | succ zf ih =>
                intro k f Ik Jk hkk hq5 hmz h100 h101 h95 hkm hn2
                refine z_iload (pc := 86) hC 0 dX6_widthFor_86 rfl ?_
                refine z_sipush (pc := 88) (v := 2000) hC dX6_widthFor_88 rfl ?_
                refine z_icmp_gt (pc := 91) (tgt := 135) hC dX6_widthFor_91 (by decide) (fun h91 => ?_) (fun h91 => ?_)
                · skip
                  have g91 := Int32.not_le.mpr h91
                  have hk21 : 2001 ≤ k := Nat.lt_of_not_le (fun q => absurd (nI_2000 q).2 (Int32.not_le.mpr h91))
                  refine z_aload_n (pc := 135) hC 3 dX6_widthFor_135 rfl rfl z_isr_r ?_
                  refine z_gF (pc := 136) hC 6 0 (t := 96) rfl (z_lt hC (by decide)) rfl inX6 (by decide) rfl zm_4_73 rfl dX6_widthFor_136 ?_
                  refine z_iconst (pc := 139) (v := 1) hC dX6_widthFor_139 rfl ?_
                  refine z_iload_n (pc := 140) hC 2 dX6_widthFor_140 rfl rfl ?_
                  refine z_isN (pc := 141) hC 1 rfl (z_lt hC (by decide)) rfl (by decide) (by decide) dX6_widthFor_141 ?_
                  refine z_iload (pc := 142) hC 1 dX6_widthFor_142 rfl ?_
                  exact z_iret (pc := 144) hC hE dX6_widthFor_144 ⟨⟨_, rfl⟩, ⟨Or.inr (Or.inr ⟨b, rfl, hb, he, of_decide_eq_true g20, Or.inr ⟨g49, congrArg (fun y => some (Value.int y)) (zwq_e hk21 hq5), (z_u_a _ _ (by decide)).trans h95⟩⟩), hmz, hkm.u (by decide)⟩⟩
                · skip
                  have g91 := Int32.not_lt.mp h91
                  have hk20 : k ≤ 2000 := zc_ge (i := 2000) (n := k) g91 (by decide) (by omega)
                  refine z_iload (pc := 94) hC 1 dX6_widthFor_94 rfl ?_
                  refine z_if_ge (pc := 96) (tgt := 135) hC dX6_widthFor_96 (by decide) (fun h96 => ?_) (fun h96 => ?_)
                  · skip
                    have g96 := Int32.not_lt.mpr h96
                    refine z_aload_n (pc := 135) hC 3 dX6_widthFor_135 rfl rfl z_isr_r ?_
                    refine z_gF (pc := 136) hC 6 0 (t := 96) rfl (z_lt hC (by decide)) rfl inX6 (by decide) rfl zm_4_73 rfl dX6_widthFor_136 ?_
                    refine z_iconst (pc := 139) (v := 1) hC dX6_widthFor_139 rfl ?_
                    refine z_iload_n (pc := 140) hC 2 dX6_widthFor_140 rfl rfl ?_
                    refine z_isN (pc := 141) hC 1 rfl (z_lt hC (by decide)) rfl (by decide) (by decide) dX6_widthFor_141 ?_
                    refine z_iload (pc := 142) hC 1 dX6_widthFor_142 rfl ?_
                    exact z_iret (pc := 144) hC hE dX6_widthFor_144 ⟨⟨_, rfl⟩, ⟨Or.inr (Or.inr ⟨b, rfl, hb, he, of_decide_eq_true g20, Or.inr ⟨g49, congrArg (fun y => some (Value.int y)) (zwq_p g96 hq5), (z_u_a _ _ (by decide)).trans h95⟩⟩), hmz, hkm.u (by decide)⟩⟩
                  · skip
                    have g96 := Int32.not_le.mp h96
                    have hm5 := zMd_vp1 hmz hk20
                    refine z_aload_n (pc := 99) hC 3 dX6_widthFor_99 rfl rfl z_isr_r ?_
                    refine z_gF (pc := 100) hC 6 0 (t := 96) rfl (z_lt hC (by decide)) rfl inX6 (by decide) rfl zm_4_73 rfl dX6_widthFor_100 ?_
                    refine z_iconst (pc := 103) (v := 1) hC dX6_widthFor_103 rfl ?_
                    refine z_iload (pc := 104) hC 0 dX6_widthFor_104 rfl ?_
                    refine z_isN (pc := 106) hC 1 rfl (z_lt hC (by decide)) rfl (by decide) (by decide) dX6_widthFor_106 ?_
                    refine z_aload_n (pc := 107) hC 3 dX6_widthFor_107 rfl rfl z_isr_r ?_
                    refine z_callV (pc := 108) (st := []) hC [] (kX6_findWidths C.2.1 g N (z_u Ik 96 1 (nI k)) P Jk (σ := (sVp σ (nI k) (sVh σ))) hm5 (fun c hc => (z_u_a _ _ (by decide)).trans ((h100 c hc).trans (congrArg zB (sVp_sh c).symm))) (fun c hc => (z_u_a _ _ (by decide)).trans ((h101 c ((sVp_sh c).symm.trans hc)).trans (congrFun sVp_NW c).symm))) rfl (z_lt hC (by decide)) rfl zkX6_findWidths zm_4_236 ⟨rfl, rfl⟩ rfl rfl hRm ⟨Nat.le_of_ble_eq_true rfl, Nat.le_of_ble_eq_true rfl⟩ (Nat.le_of_ble_eq_true rfl) ⟨Nat.zero_le _, Nat.zero_le _⟩ dX6_widthFor_108 ?_
                    intro v I4 P4 J4 hq
                    obtain ⟨hv, hP, hw4⟩ := hq
                    subst hv
                    rw [hP]
                    have hwl : I4 105 b = sLC σ (sNW σ) b (sWv σ (nI k) b) := by
                      have q := (zwd_WD hm5.1 hw4).2.1 b ((sVp_sh b).trans g49)
                      rw [q, sVp_NW, sVp_LC, sVp_WD]
                    have hm4z : zMd σ (z_u I4 96 1 (sVw σ)) := zMd_vp2 hmz (fun j => hw4.1 96 j (by decide) (by decide) (by decide) (by decide) (by decide) (by decide) (by omega))
                    have f4 : ∀ q j, q ≠ 99 → q ≠ 102 → q ≠ 104 → q ≠ 105 → q ≠ 106 → q ≠ 108 → q ≠ 96 → ¬ (q = 95 ∧ j = 5) → I4 q j = Ik q j := fun q j k1 k2 k3 k4 k5 k6 k7 k8 => (hw4.1 q j k1 k2 k3 k4 k5 k6 k8).trans (z_u_a _ _ k7)
                    have hkm4 : zKm I P J I4 P J4 := ⟨hkm.1, fun q j hq => (hw4.2.1 q j hq).trans (hkm.2.1 q j hq), fun q j hq => (f4 q j (by omega) (by omega) (by omega) (by omega) (by omega) (by omega) (by omega) (by omega)).trans (hkm.2.2 q j hq)⟩
                    show zJ C g N 6 0 0 I4 P J4 111 [(5, .int (nI k)), (4, .int f), (3, .int (sVw σ)), (0, .ref (g.1 95)), (1, .int (nI b)), (2, .int n)] []
                    refine z_aload_n (pc := 111) hC 3 dX6_widthFor_111 rfl rfl z_isr_r ?_
                    refine z_gF (pc := 112) hC 6 11 (t := 105) rfl (z_lt hC (by decide)) rfl inX6 (by decide) rfl zm_4_84 rfl dX6_widthFor_112 ?_
                    refine z_iload_n (pc := 115) hC 4 dX6_widthFor_115 rfl rfl ?_
                    refine z_iaN (pc := 116) hC b (x := sLC σ (sNW σ) b (sWv σ (nI k) b)) rfl (z_lt hC (by decide)) rfl hb (by decide) hwl dX6_widthFor_116 ?_
                    refine z_iload_n (pc := 117) hC 5 dX6_widthFor_117 rfl rfl ?_
                    refine z_icmp_gt (pc := 118) (tgt := 126) hC dX6_widthFor_118 (by decide) (fun h118 => ?_) (fun h118 => ?_)
                    · skip
                      have g118 := Int32.not_le.mpr h118
                      refine z_iconst (pc := 126) (v := (-1)) hC dX6_widthFor_126 rfl ?_
                      refine z_istore (pc := 127) (lv' := [(4, .int (-1)), (5, .int (nI k)), (3, .int (sVw σ)), (0, .ref (g.1 95)), (1, .int (nI b)), (2, .int n)]) hC dX6_widthFor_127 (by decide) rfl ?_
                      refine z_iinc (pc := 129) (v := nI (k + 1)) (lv' := [(5, .int (nI (k + 1))), (4, .int (-1)), (3, .int (sVw σ)), (0, .ref (g.1 95)), (1, .int (nI b)), (2, .int n)]) hC 1 dX6_widthFor_129 rfl (nI_1 k) (by decide) rfl ?_
                      refine z_goto (pc := 132) (tgt := 86) hC dX6_widthFor_132 (by decide) ?_
                      exact ih (k + 1) (-1) I4 J4 (by omega) (zwq_f hk20 g96 hq5 g118) hm4z (fun c hc => (f4 100 c (by decide) (by decide) (by decide) (by decide) (by decide) (by decide) (by decide) (by omega)).trans (h100 c hc)) (fun c hc => (f4 101 _ (by decide) (by decide) (by decide) (by decide) (by decide) (by decide) (by decide) (by omega)).trans (h101 c hc)) ((f4 95 3 (by decide) (by decide) (by decide) (by decide) (by decide) (by decide) (by decide) (by omega)).trans h95) hkm4 (by omega)
                    · skip
                      have g118 := Int32.not_lt.mp h118
                      refine z_iload (pc := 121) hC 0 dX6_widthFor_121 rfl ?_
                      refine z_goto (pc := 123) (tgt := 127) hC dX6_widthFor_123 (by decide) ?_
                      refine z_istore (pc := 127) (lv' := [(4, .int (nI k)), (5, .int (nI k)), (3, .int (sVw σ)), (0, .ref (g.1 95)), (1, .int (nI b)), (2, .int n)]) hC dX6_widthFor_127 (by decide) rfl ?_
                      refine z_iinc (pc := 129) (v := nI (k + 1)) (lv' := [(5, .int (nI (k + 1))), (4, .int (nI k)), (3, .int (sVw σ)), (0, .ref (g.1 95)), (1, .int (nI b)), (2, .int n)]) hC 1 dX6_widthFor_129 rfl (nI_1 k) (by decide) rfl ?_
                      refine z_goto (pc := 132) (tgt := 86) hC dX6_widthFor_132 (by decide) ?_
                      exact ih (k + 1) (nI k) I4 J4 (by omega) (zwq_t hk20 (Int32.not_le.mp h96) hq5 (Int32.not_lt.mp h118)) hm4z (fun c hc => (f4 100 c (by decide) (by decide) (by decide) (by decide) (by decide) (by decide) (by decide) (by omega)).trans (h100 c hc)) (fun c hc => (f4 101 _ (by decide) (by decide) (by decide) (by decide) (by decide) (by decide) (by decide) (by omega)).trans (h101 c hc)) ((f4 95 3 (by decide) (by decide) (by decide) (by decide) (by decide) (by decide) (by decide) (by omega)).trans h95) hkm4 (by omega)
            exact L86 2002 0 (-1) I5 J (by decide) zwq_0 (zMd_vp0 hm6) (fun c hc => (f5 100 c (by decide) (by decide) (by decide)).trans (h1.2 c hc)) (fun c hc => hna.2 c (Nat.zero_le _) hc) h956 ⟨hk2.1, hk2.2.1, fun q j hq => (f5 q j (by omega) (by omega) (by omega)).trans (hk2.2.2 q j hq)⟩ (by decide)
          · skip
            exact absurd h64 (by decide)
    · skip
      have g20 := zB_f h20
      refine z_iconst (pc := 23) (v := 2) hC dX6_widthFor_23 rfl ?_
      refine z_goto (pc := 24) (tgt := 28) hC dX6_widthFor_24 (by decide) ?_
      refine z_pI (pc := 28) hC 6 3 rfl (z_lt hC (by decide)) rfl inX6 tyX6_ok nmX6 (by decide) rfl zm_4_76 rfl rfl rfl dX6_widthFor_28 ?_
      refine z_aload_n (pc := 31) hC 0 dX6_widthFor_31 rfl rfl z_isr_r ?_
      refine z_gI (pc := 32) hC 6 3 (x := 2) rfl (z_lt hC (by decide)) rfl inX6 (by decide) rfl zm_4_76 (z_u_s _ _ _ _) dX6_widthFor_32 ?_
      refine z_if_ne (pc := 35) (tgt := 60) hC dX6_widthFor_35 (by decide) (fun h35 => ?_) (fun h35 => ?_)
      · skip
        refine z_aload_n (pc := 60) hC 0 dX6_widthFor_60 rfl rfl z_isr_r ?_
        refine z_gI (pc := 61) hC 6 3 (x := 2) rfl (z_lt hC (by decide)) rfl inX6 (by decide) rfl zm_4_76 (z_u_s _ _ _ _) dX6_widthFor_61 ?_
        refine z_if_eq (pc := 64) (tgt := 69) hC dX6_widthFor_64 (by decide) (fun h64 => ?_) (fun h64 => ?_)
        · skip
          exact absurd h64 (by decide)
        · skip
          refine z_iconst (pc := 67) (v := 0) hC dX6_widthFor_67 rfl ?_
          exact z_iret (pc := 68) hC hE dX6_widthFor_68 ⟨⟨_, rfl⟩, ⟨Or.inr (Or.inl ⟨g6, of_decide_eq_false g20, z_u_s _ _ _ _⟩), hm.u (by decide), zKm.rf.u (by decide)⟩⟩
      · skip
        exact absurd h35 (by decide)
  · skip
    have g6 := zB_f h6
    refine z_iconst (pc := 9) (v := 1) hC dX6_widthFor_9 rfl ?_
    refine z_goto (pc := 10) (tgt := 28) hC dX6_widthFor_10 (by decide) ?_
    refine z_pI (pc := 28) hC 6 3 rfl (z_lt hC (by decide)) rfl inX6 tyX6_ok nmX6 (by decide) rfl zm_4_76 rfl rfl rfl dX6_widthFor_28 ?_
    refine z_aload_n (pc := 31) hC 0 dX6_widthFor_31 rfl rfl z_isr_r ?_
    refine z_gI (pc := 32) hC 6 3 (x := 1) rfl (z_lt hC (by decide)) rfl inX6 (by decide) rfl zm_4_76 (z_u_s _ _ _ _) dX6_widthFor_32 ?_
    refine z_if_ne (pc := 35) (tgt := 60) hC dX6_widthFor_35 (by decide) (fun h35 => ?_) (fun h35 => ?_)
    · skip
      refine z_aload_n (pc := 60) hC 0 dX6_widthFor_60 rfl rfl z_isr_r ?_
      refine z_gI (pc := 61) hC 6 3 (x := 1) rfl (z_lt hC (by decide)) rfl inX6 (by decide) rfl zm_4_76 (z_u_s _ _ _ _) dX6_widthFor_61 ?_
      refine z_if_eq (pc := 64) (tgt := 69) hC dX6_widthFor_64 (by decide) (fun h64 => ?_) (fun h64 => ?_)
      · skip
        exact absurd h64 (by decide)
      · skip
        refine z_iconst (pc := 67) (v := 0) hC dX6_widthFor_67 rfl ?_
        exact z_iret (pc := 68) hC hE dX6_widthFor_68 ⟨⟨_, rfl⟩, ⟨Or.inl ⟨g6, z_u_s _ _ _ _⟩, hm.u (by decide), zKm.rf.u (by decide)⟩⟩
    · skip
      exact absurd h35 (by decide)
end ZRT
