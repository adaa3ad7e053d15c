section ZHM
theorem zkX2_heightInLine : z_pkS yX2_heightInLine cX2_heightInLine 3 (Option.some FieldType.int) 2 := ⟨zm_3_24, zm_1_4, zm_3_25, by decide, by decide, by decide +kernel⟩
theorem zkX2_justifyShift : z_pkS yX2_justifyShift cX2_justifyShift 4 (Option.some FieldType.int) 4 := ⟨zm_3_15, zm_1_4, zm_3_16, by decide, by decide, by decide +kernel⟩
theorem zkX2_alignShift : z_pkS yX2_alignShift cX2_alignShift 2 (Option.some FieldType.int) 2 := ⟨zm_3_12, zm_1_4, zm_3_13, by decide, by decide, by decide +kernel⟩
theorem zkX2_placeLine : z_pkS yX2_placeLine cX2_placeLine 11 (Option.none : Option FieldType) 5 := ⟨zm_3_21, zm_1_4, zm_3_22, by decide, by decide, by decide +kernel⟩
theorem zkX2_placeRow : z_pkS yX2_placeRow cX2_placeRow 6 (Option.none : Option FieldType) 1 := ⟨zm_3_18, zm_1_4, zm_3_19, by decide, by decide, by decide +kernel⟩
theorem zkX2_placeColumn : z_pkV yX2_placeColumn cX2_placeColumn 8 (Option.none : Option FieldType) RX2 1 := ⟨zm_3_5, zs_X2_placeColumn, zm_1_4, zm_3_6, rfl, by decide, by decide, by decide +kernel⟩
theorem zkX2_arrange : z_pkV yX2_arrange cX2_arrange 3 (Option.none : Option FieldType) RX2 0 := ⟨zm_2_87, zm_2_88, zm_1_4, zm_2_89, rfl, by decide, by decide, by decide +kernel⟩
set_option maxHeartbeats 4000000 in
set_option maxRecDepth 100000 in
theorem kX2_lineHeight (lx : Launch) (g : zG) (N : Nat) (I : Nat → Nat → Int32) (P : Nat → Nat → Option Nat) (J : Nat → Nat → Int64) {σ : zS} (ht : zTr σ I P) (hl : zLk σ I P) (p : Nat) (he : sEx σ p = true) (nh : Nat → Int32) (hnh : ∀ k, k ∈ sKids σ p → I k 11 = nh k) (a z : Nat) (haz : a ≤ z) (hz : z ≤ kn σ p) : z_Ct lx yX2_lineHeight (zT yX2_lineHeight cX2_lineHeight 4 (Option.some FieldType.int)) ({ frames := 2, cells := 0, slots := 0, locals := 41 } : Room) g N I P J [va_rf (Option.map g.1 ((sKids σ p)[a]?)), va_rf (Option.map g.1 ((sKids σ p)[z]?))] (zMu (some (.int (zmx (fun j => sO σ nh (kd σ p (a + j))) (z - a)))) I P J) 0 0 := by
  refine z_of (by decide) (by simp [lg_sl, z_catO, z_catR, z_catI, z_catL, z_catN]) (lv0 := [(0, va_rf (Option.map g.1 ((sKids σ p)[a]?))), (1, va_rf (Option.map g.1 ((sKids σ p)[z]?)))]) (by simp [lv_args, z_catO, z_catR, z_catI, z_catL, z_catN]) ?_
  intro C hlx hC hE hRm
  have hC : zX C cX2_lineHeight 4 RX2 (zT yX2_lineHeight cX2_lineHeight 4 (Option.some FieldType.int)) g N := hC
  refine z_iconst (pc := 0) (v := 0) hC dX2_lineHeight_0 rfl ?_
  refine z_istore_n (pc := 1) (lv' := [(2, .int 0), (0, va_rf (Option.map g.1 ((sKids σ p)[a]?))), (1, va_rf (Option.map g.1 ((sKids σ p)[z]?)))]) hC dX2_lineHeight_1 rfl (by decide) (by first | (simp [z_catO]; done) | (simp [z_catO, z_catR, z_catI, z_catN, z_catL]; done) | (simp [z_catO, z_catR, z_catI, z_catN, z_catL]; decide)) ?_
  refine z_aload_n (pc := 2) hC 1 dX2_lineHeight_2 rfl rfl (z_isr_o _) ?_
  refine z_astore_n (pc := 3) (lv' := [(3, va_rf (Option.map g.1 ((sKids σ p)[a]?))), (2, .int 0), (0, va_rf (Option.map g.1 ((sKids σ p)[a]?))), (1, va_rf (Option.map g.1 ((sKids σ p)[z]?)))]) hC dX2_lineHeight_3 rfl (by decide) (z_isr_o _) rfl ?_
  have L4 : ∀ (zf : Nat) (d : Nat) (hd : d ≤ z - a), z - a - d < zf → zJ C g N 4 0 0 I P J 4 [(3, va_rf (Option.map g.1 ((sKids σ p)[a + d]?))), (2, .int (zmx (fun j => sO σ nh (kd σ p (a + j))) d)), (0, va_rf (Option.map g.1 ((sKids σ p)[a]?))), (1, va_rf (Option.map g.1 ((sKids σ p)[z]?)))] [] := by
    intro zf
    induction zf with
    | zero =>
      intro d hd hn2
      exact absurd hn2 (Nat.not_lt_zero _)
    | succ zf ih =>
      intro d hd hn2
      refine z_aload_n (pc := 4) hC 0 dX2_lineHeight_4 rfl rfl (z_isr_o _) ?_
      refine z_ifnull (pc := 5) (tgt := 35) hC dX2_lineHeight_5 (by decide) (fun h5 => ?_) (fun a5 h5 => ?_)
      · skip
        rw [h5]
        show zJ C g N 4 0 0 I P J 35 [(3, .null), (2, .int (zmx (fun j => sO σ nh (kd σ p (a + j))) d)), (0, va_rf (Option.map g.1 ((sKids σ p)[a]?))), (1, va_rf (Option.map g.1 ((sKids σ p)[z]?)))] []
        have ed : d = z - a := by
          have := List.getElem?_eq_none_iff.mp h5
          have q : (sKids σ p).length = kn σ p := rfl
          omega
        refine z_iload_n (pc := 35) hC 1 dX2_lineHeight_35 rfl rfl ?_
        exact z_iret (pc := 36) hC hE dX2_lineHeight_36 (zMu_i (by rw [← ed]))
      · skip
        rw [h5]
        show zJ C g N 4 0 0 I P J 8 [(3, .ref (g.1 a5)), (2, .int (zmx (fun j => sO σ nh (kd σ p (a + j))) d)), (0, va_rf (Option.map g.1 ((sKids σ p)[a]?))), (1, va_rf (Option.map g.1 ((sKids σ p)[z]?)))] []
        obtain ⟨hkd5, hik5, hmem5⟩ := sKids_get h5
        have hx5 := sKids_lt ht.1 hmem5
        refine z_aload_n (pc := 8) hC 0 dX2_lineHeight_8 rfl rfl z_isr_r ?_
        refine z_aload_n (pc := 9) hC 3 dX2_lineHeight_9 rfl rfl (z_isr_o _) ?_
        refine z_acmp_eq (pc := 10) (tgt := 35) (x := (some a5)) (y := ((sKids σ p)[z]?)) hC dX2_lineHeight_10 (by decide) (fun b q => by cases q; exact z_ltb hC hx5.2.1) (fun b q => z_ltb hC (sKids_lt ht.1 (List.mem_of_getElem? q)).2.1) (fun h10 => ?_) (fun h10 => ?_)
        · skip
          have ed : d = z - a := by
            have := zlist_inj sKids_nd h5 h10.symm
            omega
          refine z_iload_n (pc := 35) hC 1 dX2_lineHeight_35 rfl rfl ?_
          exact z_iret (pc := 36) hC hE dX2_lineHeight_36 (zMu_i (by rw [← ed]))
        · skip
          have ed : a + d < z := by
            rcases Nat.lt_or_ge (a + d) z with q | q
            · exact q
            · have e : a + d = z := by omega
              rw [e] at h5; exact absurd h5.symm h10
          refine z_iload_n (pc := 13) hC 1 dX2_lineHeight_13 rfl rfl ?_
          refine z_aload_n (pc := 14) hC 0 dX2_lineHeight_14 rfl rfl z_isr_r ?_
          refine z_gI (pc := 15) hC 0 11 (x := nh a5) (z_shb (zTr_lt ht hx5.2.2.1)) (z_ltb hC (zTr_lt ht hx5.2.2.1)) rfl inX0 (by decide) rfl zm_1_65 (hnh a5 hmem5) dX2_lineHeight_15 ?_
          refine z_aload_n (pc := 18) hC 0 dX2_lineHeight_18 rfl rfl z_isr_r ?_
          refine z_cV (pc := 19) (st := [.int (nh a5), .int (zmx (fun j => sO σ nh (kd σ p (a + j))) d)]) hC [] (kX0_margins C.2.1 g N I P J a5 (zTr_lt ht hx5.2.2.1) (sSt σ a5 6) (zTr_st ht hx5.2.2.1 (by decide))) (z_shb (zTr_lt ht hx5.2.2.1)) (z_ltb hC (zTr_lt ht hx5.2.2.1)) rfl zkX0_margins zm_2_129 ⟨rfl, rfl⟩ rfl rfl hRm ⟨Nat.le_of_ble_eq_true rfl, Nat.le_of_ble_eq_true rfl⟩ (Nat.le_of_ble_eq_true rfl) ⟨Nat.zero_le _, Nat.zero_le _⟩ dX2_lineHeight_19 ?_
          refine z_iadd (pc := 22) hC dX2_lineHeight_22 ?_
          rw [show (nh a5) + (2 * sSt σ a5 6) = sO σ nh (kd σ p (a + d)) from by rw [hkd5]; rfl]
          refine z_mmax (pc := 23) hC (z_tw zm_2_133) (z_tw zm_2_134) (z_tw zm_1_12) (z_tw zm_2_135) (by rw [hRm]; exact Nat.le_of_ble_eq_true rfl) (by rw [hRm]; exact (Nat.le_of_ble_eq_true rfl)) (by rw [hRm]; exact Nat.zero_le _) (by rw [hRm]; exact Nat.zero_le _) dX2_lineHeight_23 ?_
          refine z_istore_n (pc := 26) (lv' := [(2, .int (if zmx (fun j => sO σ nh (kd σ p (a + j))) d < sO σ nh (kd σ p (a + d)) then sO σ nh (kd σ p (a + d)) else zmx (fun j => sO σ nh (kd σ p (a + j))) d)), (3, .ref (g.1 a5)), (0, va_rf (Option.map g.1 ((sKids σ p)[a]?))), (1, va_rf (Option.map g.1 ((sKids σ p)[z]?)))]) hC dX2_lineHeight_26 rfl (by decide) (by first | (simp [z_catO]; done) | (simp [z_catO, z_catR, z_catI, z_catN, z_catL]; done) | (simp [z_catO, z_catR, z_catI, z_catN, z_catL]; decide)) ?_
          refine z_aload_n (pc := 27) hC 1 dX2_lineHeight_27 rfl rfl z_isr_r ?_
          refine z_gP (pc := 28) hC 0 7 (v := va_rf (Option.map g.1 ((sKids σ p)[a + (d + 1)]?))) (z_shb (zTr_lt ht hx5.2.2.1)) (z_ltb hC (zTr_lt ht hx5.2.2.1)) rfl inX0 (by decide) rfl zm_1_55 (by rw [(zLk_seg hl (zTr_lt ht he)).1 _ a5 h5]; rfl) dX2_lineHeight_28 ?_
          refine z_astore_n (pc := 31) (lv' := [(3, va_rf (Option.map g.1 ((sKids σ p)[a + (d + 1)]?))), (2, .int (if zmx (fun j => sO σ nh (kd σ p (a + j))) d < sO σ nh (kd σ p (a + d)) then sO σ nh (kd σ p (a + d)) else zmx (fun j => sO σ nh (kd σ p (a + j))) d)), (0, va_rf (Option.map g.1 ((sKids σ p)[a]?))), (1, va_rf (Option.map g.1 ((sKids σ p)[z]?)))]) hC dX2_lineHeight_31 rfl (by decide) (z_isr_o _) rfl ?_
          refine z_goto (pc := 32) (tgt := 4) hC dX2_lineHeight_32 (by decide) ?_
          exact ih (d + 1) (by omega) (by omega)
  exact L4 (z - a + 1) 0 (Nat.zero_le _) (by omega)
set_option maxHeartbeats 4000000 in
set_option maxRecDepth 100000 in
theorem kX2_contentHeight (lx : Launch) (g : zG) (N : Nat) (I : Nat → Nat → Int32) (P : Nat → Nat → Option Nat) (J : Nat → Nat → Int64) {σ : zS} (ht : zTr σ I P) (hl : zLk σ I P) (p : Nat) (he : sEx σ p = true) (nh : Nat → Int32) (hnh : ∀ k, k ∈ sKids σ p → I k 11 = nh k) (hb : zbd σ p nh) (hkl : ∀ i q, (sKids σ p)[i]? = some q → I q 17 = nI (sLn σ (sNW σ) p (sWD σ p) i)) (hlc : sCon σ p = true → I p 16 = nI (sLCn σ (sNW σ) p (sWD σ p))) (hlc2 : sCon σ p = false → I p 16 = sLC σ (sNW σ) p (sWD σ p)) : z_Ct lx yX2_contentHeight (zT yX2_contentHeight cX2_contentHeight 5 (Option.some FieldType.int)) ({ frames := 3, cells := 0, slots := 0, locals := 64 } : Room) g N I P J [.ref (g.1 p)] (zMu (some (.int (sCH σ nh p))) I P J) 0 0 := by
  refine z_of (by decide) (Nat.le_of_ble_eq_true rfl) (lv0 := [(0, .ref (g.1 p))]) rfl ?_
  intro C hlx hC hE hRm
  have hC : zX C cX2_contentHeight 5 RX2 (zT yX2_contentHeight cX2_contentHeight 5 (Option.some FieldType.int)) g N := hC
  refine z_aload_n (pc := 0) hC 0 dX2_contentHeight_0 rfl rfl z_isr_r ?_
  refine z_gI (pc := 1) hC 0 4 (x := zB (sCon σ p)) (z_shb (zTr_lt ht he)) (z_ltb hC (zTr_lt ht he)) rfl inX0 (by decide) rfl zm_1_45 ((hl.1 p (zTr_lt ht he)).1) dX2_contentHeight_1 ?_
  refine z_if_ne (pc := 4) (tgt := 15) hC dX2_contentHeight_4 (by decide) (fun h4 => ?_) (fun h4 => ?_)
  · skip
    have g4 := zB_t h4
    refine z_aload_n (pc := 15) hC 0 dX2_contentHeight_15 rfl rfl z_isr_r ?_
    refine z_gI (pc := 16) hC 0 16 (x := nI (sLCn σ (sNW σ) p (sWD σ p))) (z_shb (zTr_lt ht he)) (z_ltb hC (zTr_lt ht he)) rfl inX0 (by decide) rfl zm_1_78 (hlc g4) dX2_contentHeight_16 ?_
    refine z_aload_n (pc := 19) hC 0 dX2_contentHeight_19 rfl rfl z_isr_r ?_
    refine z_iconst (pc := 20) (v := 4) hC dX2_contentHeight_20 rfl ?_
    refine z_cV (pc := 21) (st := [.int (nI (sLCn σ (sNW σ) p (sWD σ p)))]) hC [.int 4] (kX0_of C.2.1 g N I P J p 4 (zTr_lt ht he) (by decide) 4 rfl (sSt σ p 4) (zTr_st ht he (by decide))) (z_shb (zTr_lt ht he)) (z_ltb hC (zTr_lt ht he)) rfl zkX0_of zm_2_125 ⟨rfl, rfl⟩ rfl rfl hRm ⟨Nat.le_of_ble_eq_true rfl, Nat.le_of_ble_eq_true rfl⟩ (Nat.le_of_ble_eq_true rfl) ⟨Nat.zero_le _, Nat.zero_le _⟩ dX2_contentHeight_21 ?_
    refine z_cSN (pc := 24) (st := []) hC [.int (nI (sLCn σ (sNW σ) p (sWD σ p))), .int (sSt σ p 4)] (kX5_gaps C.2.1 g N I P J (nI (sLCn σ (sNW σ) p (sWD σ p))) (sSt σ p 4)) zkX5_gaps (hC.2.2.2.2.2.1.2.2.2.2.2.2.1) ⟨rfl, rfl⟩ rfl rfl hRm ⟨Nat.le_of_ble_eq_true rfl, Nat.le_of_ble_eq_true rfl⟩ (Nat.le_of_ble_eq_true rfl) ⟨Nat.zero_le _, Nat.zero_le _⟩ dX2_contentHeight_24 ?_
    refine z_istore_n (pc := 27) (lv' := [(1, .int (zgap (nI (sLCn σ (sNW σ) p (sWD σ p))) (sSt σ p 4))), (0, .ref (g.1 p))]) hC dX2_contentHeight_27 rfl (by decide) rfl ?_
    refine z_aload_n (pc := 28) hC 1 dX2_contentHeight_28 rfl rfl z_isr_r ?_
    refine z_gP (pc := 29) hC 0 6 (v := va_rf (Option.map g.1 ((sKids σ p)[0]?))) (z_shb (zTr_lt ht he)) (z_ltb hC (zTr_lt ht he)) rfl inX0 (by decide) rfl zm_1_52 (by rw [(zLk_seg hl (zTr_lt ht he)).2]) dX2_contentHeight_29 ?_
    refine z_astore_n (pc := 32) (lv' := [(2, va_rf (Option.map g.1 ((sKids σ p)[0]?))), (1, .int (zgap (nI (sLCn σ (sNW σ) p (sWD σ p))) (sSt σ p 4))), (0, .ref (g.1 p))]) hC dX2_contentHeight_32 rfl (by decide) (z_isr_o _) rfl ?_
    refine z_iconst (pc := 33) (v := 0) hC dX2_contentHeight_33 rfl ?_
    refine z_istore_n (pc := 34) (lv' := [(3, .int 0), (2, va_rf (Option.map g.1 ((sKids σ p)[0]?))), (1, .int (zgap (nI (sLCn σ (sNW σ) p (sWD σ p))) (sSt σ p 4))), (0, .ref (g.1 p))]) hC dX2_contentHeight_34 rfl (by decide) (by first | (simp [z_catO]; done) | (simp [z_catO, z_catR, z_catI, z_catN, z_catL]; done) | (simp [z_catO, z_catR, z_catI, z_catN, z_catL]; decide)) ?_
    have L35 : ∀ (zf : Nat) (a l : Nat) (ha : a ≤ kn σ p) (hal : a < kn σ p → zbeg (sLn σ (sNW σ) p (sWD σ p)) a = a ∧ (sLn σ (sNW σ) p (sWD σ p)) a = l) (hla : a = kn σ p → l = sLCn σ (sNW σ) p (sWD σ p)), kn σ p - a < zf → zJ C g N 5 0 0 I P J 35 [(3, .int (nI l)), (2, va_rf (Option.map g.1 ((sKids σ p)[a]?))), (1, .int (zgap (nI (sLCn σ (sNW σ) p (sWD σ p))) (sSt σ p 4) + zsum (sLH σ nh p (sWD σ p)) l)), (0, .ref (g.1 p))] [] := by
      intro zf
      induction zf with
      | zero =>
        intro a l ha hal hla hn2
        exact absurd hn2 (Nat.not_lt_zero _)
      | succ zf ih =>
        intro a l ha hal hla hn2
        refine z_iload_n (pc := 35) hC 0 dX2_contentHeight_35 rfl rfl ?_
        refine z_aload_n (pc := 36) hC 3 dX2_contentHeight_36 rfl rfl z_isr_r ?_
        refine z_gI (pc := 37) hC 0 16 (x := nI (sLCn σ (sNW σ) p (sWD σ p))) (z_shb (zTr_lt ht he)) (z_ltb hC (zTr_lt ht he)) rfl inX0 (by decide) rfl zm_1_78 (hlc g4) dX2_contentHeight_37 ?_
        refine z_icmp_ge (pc := 40) (tgt := 71) hC dX2_contentHeight_40 (by decide) (fun h40 => ?_) (fun h40 => ?_)
        · skip
          have g40 := Int32.not_lt.mpr h40
          have ea := zln_end ht.1 ha hal h40
          refine z_iload_n (pc := 71) hC 2 dX2_contentHeight_71 rfl rfl ?_
          exact z_iret (pc := 72) hC hE dX2_contentHeight_72 (zMu_i (by rw [hla ea, sCH_line ht.1 hb g4]))
        · skip
          have g40 := Int32.not_le.mp h40
          refine z_aload_n (pc := 43) hC 1 dX2_contentHeight_43 rfl rfl (z_isr_o _) ?_
          refine z_ifnull (pc := 44) (tgt := 71) hC dX2_contentHeight_44 (by decide) (fun h44 => ?_) (fun a44 h44 => ?_)
          · skip
            rw [h44]
            show zJ C g N 5 0 0 I P J 71 [(3, .int (nI l)), (2, .null), (1, .int (zgap (nI (sLCn σ (sNW σ) p (sWD σ p))) (sSt σ p 4) + zsum (sLH σ nh p (sWD σ p)) l)), (0, .ref (g.1 p))] []
            have ea : a = kn σ p := Nat.le_antisymm ha (List.getElem?_eq_none_iff.mp h44)
            refine z_iload_n (pc := 71) hC 2 dX2_contentHeight_71 rfl rfl ?_
            exact z_iret (pc := 72) hC hE dX2_contentHeight_72 (zMu_i (by rw [hla ea, sCH_line ht.1 hb g4]))
          · skip
            rw [h44]
            show zJ C g N 5 0 0 I P J 47 [(3, .int (nI l)), (2, .ref (g.1 a44)), (1, .int (zgap (nI (sLCn σ (sNW σ) p (sWD σ p))) (sSt σ p 4) + zsum (sLH σ nh p (sWD σ p)) l)), (0, .ref (g.1 p))] []
            obtain ⟨hkd44, hik44, hmem44⟩ := sKids_get h44
            have hx44 := sKids_lt ht.1 hmem44
            refine z_aload_n (pc := 47) hC 1 dX2_contentHeight_47 rfl rfl z_isr_r ?_
            refine z_cS (pc := 48) (st := []) hC [.ref (g.1 a44)] ((kX2_lineEnd C.2.1 g N I P J (sKids σ p) (fun x hx => (sKids_lt ht.1 hx).2.1) ((zLk_seg hl (zTr_lt ht he)).1) (sLn σ (sNW σ) p (sWD σ p)) (fun i hi => Nat.lt_of_le_of_lt (zstep_le (sLn_step σ (sNW σ) p (sWD σ p)) i) (by have q9 : i < kn σ p := hi; have := kn_le ht.1 p; omega)) hkl a a44 h44 hik44 hx44.2.1)) zkX2_lineEnd zm_2_177 ⟨rfl, rfl⟩ rfl rfl hRm ⟨Nat.le_of_ble_eq_true rfl, Nat.le_of_ble_eq_true rfl⟩ (Nat.le_of_ble_eq_true rfl) ⟨Nat.zero_le _, Nat.zero_le _⟩ dX2_contentHeight_48 ?_
            refine z_astore (pc := 51) (lv' := [(4, va_rf (Option.map g.1 ((sKids σ p)[(zend (sLn σ (sNW σ) p (sWD σ p)) (kn σ p) a)]?))), (3, .int (nI l)), (2, .ref (g.1 a44)), (1, .int (zgap (nI (sLCn σ (sNW σ) p (sWD σ p))) (sSt σ p 4) + zsum (sLH σ nh p (sWD σ p)) l)), (0, .ref (g.1 p))]) hC dX2_contentHeight_51 (by decide) (z_isr_o _) rfl ?_
            refine z_iload_n (pc := 53) hC 3 dX2_contentHeight_53 rfl rfl ?_
            refine z_aload_n (pc := 54) hC 2 dX2_contentHeight_54 rfl rfl z_isr_r ?_
            refine z_aload (pc := 55) hC 0 dX2_contentHeight_55 rfl (z_isr_o _) ?_
            have k57 := kX2_lineHeight C.2.1 g N I P J ht hl p he nh hnh a (zend (sLn σ (sNW σ) p (sWD σ p)) (kn σ p) a) (Nat.le_of_lt (zend_spec hik44).1) (zend_spec hik44).2.1
            rw [h44, ← sLH_line hik44 (hal hik44)] at k57
            refine z_cS (pc := 57) (st := [.int (zgap (nI (sLCn σ (sNW σ) p (sWD σ p))) (sSt σ p 4) + zsum (sLH σ nh p (sWD σ p)) l)]) hC [.ref (g.1 a44), va_rf (Option.map g.1 ((sKids σ p)[(zend (sLn σ (sNW σ) p (sWD σ p)) (kn σ p) a)]?))] (k57) zkX2_lineHeight zm_2_236 ⟨rfl, rfl⟩ rfl rfl hRm ⟨Nat.le_of_ble_eq_true rfl, Nat.le_of_ble_eq_true rfl⟩ (Nat.le_of_ble_eq_true rfl) ⟨Nat.zero_le _, Nat.zero_le _⟩ dX2_contentHeight_57 ?_
            refine z_iadd (pc := 60) hC dX2_contentHeight_60 ?_
            rw [show (zgap (nI (sLCn σ (sNW σ) p (sWD σ p))) (sSt σ p 4) + zsum (sLH σ nh p (sWD σ p)) l) + ((sLH σ nh p (sWD σ p)) l) = zgap (nI (sLCn σ (sNW σ) p (sWD σ p))) (sSt σ p 4) + zsum (sLH σ nh p (sWD σ p)) (l + 1) from Int32.add_assoc _ _ _]
            refine z_istore_n (pc := 61) (lv' := [(1, .int (zgap (nI (sLCn σ (sNW σ) p (sWD σ p))) (sSt σ p 4) + zsum (sLH σ nh p (sWD σ p)) (l + 1))), (4, va_rf (Option.map g.1 ((sKids σ p)[(zend (sLn σ (sNW σ) p (sWD σ p)) (kn σ p) a)]?))), (3, .int (nI l)), (2, .ref (g.1 a44)), (0, .ref (g.1 p))]) hC dX2_contentHeight_61 rfl (by decide) rfl ?_
            refine z_aload (pc := 62) hC 1 dX2_contentHeight_62 rfl (z_isr_o _) ?_
            refine z_astore_n (pc := 64) (lv' := [(2, va_rf (Option.map g.1 ((sKids σ p)[(zend (sLn σ (sNW σ) p (sWD σ p)) (kn σ p) a)]?))), (1, .int (zgap (nI (sLCn σ (sNW σ) p (sWD σ p))) (sSt σ p 4) + zsum (sLH σ nh p (sWD σ p)) (l + 1))), (4, va_rf (Option.map g.1 ((sKids σ p)[(zend (sLn σ (sNW σ) p (sWD σ p)) (kn σ p) a)]?))), (3, .int (nI l)), (0, .ref (g.1 p))]) hC dX2_contentHeight_64 rfl (by decide) (z_isr_o _) rfl ?_
            refine z_iinc (pc := 65) (v := nI (l + 1)) (lv' := [(3, .int (nI (l + 1))), (2, va_rf (Option.map g.1 ((sKids σ p)[(zend (sLn σ (sNW σ) p (sWD σ p)) (kn σ p) a)]?))), (1, .int (zgap (nI (sLCn σ (sNW σ) p (sWD σ p))) (sSt σ p 4) + zsum (sLH σ nh p (sWD σ p)) (l + 1))), (4, va_rf (Option.map g.1 ((sKids σ p)[(zend (sLn σ (sNW σ) p (sWD σ p)) (kn σ p) a)]?))), (0, .ref (g.1 p))]) hC 3 dX2_contentHeight_65 rfl (nI_1 l) (by decide) (by first | (simp [z_catO]; done) | (simp [z_catO, z_catR, z_catI, z_catN, z_catL]; done) | (simp [z_catO, z_catR, z_catI, z_catN, z_catL]; decide)) ?_
            refine z_goto (pc := 68) (tgt := 35) hC dX2_contentHeight_68 (by decide) ?_
            refine z_lvs (lv' := [(3, .int (nI (l + 1))), (2, va_rf (Option.map g.1 ((sKids σ p)[(zend (sLn σ (sNW σ) p (sWD σ p)) (kn σ p) a)]?))), (1, .int (zgap (nI (sLCn σ (sNW σ) p (sWD σ p))) (sSt σ p 4) + zsum (sLH σ nh p (sWD σ p)) (l + 1))), (0, .ref (g.1 p))]) [0, 1, 2, 4] rfl ?_
            exact ih (zend (sLn σ (sNW σ) p (sWD σ p)) (kn σ p) a) (l + 1) (zend_spec hik44).2.1 (zln_next hik44 hal) (zln_last hik44 hal) (by have := (zend_spec (ln := (sLn σ (sNW σ) p (sWD σ p))) hik44).1; omega)
    have L0 := L35 (kn σ p + 1) 0 0 (Nat.zero_le _) (fun _ => ⟨rfl, (sLn_step σ (sNW σ) p (sWD σ p)).1⟩) (fun q => by unfold sLCn; rw [if_pos q.symm]) (by omega)
    rw [show zgap (nI (sLCn σ (sNW σ) p (sWD σ p))) (sSt σ p 4) + zsum (sLH σ nh p (sWD σ p)) 0 = zgap (nI (sLCn σ (sNW σ) p (sWD σ p))) (sSt σ p 4) from Int32.add_zero _] at L0
    exact L0
  · skip
    have g4 := zB_f h4
    refine z_bipush (pc := 7) (v := 16) hC dX2_contentHeight_7 rfl ?_
    refine z_aload_n (pc := 9) hC 0 dX2_contentHeight_9 rfl rfl z_isr_r ?_
    refine z_gI (pc := 10) hC 0 16 (x := sLC σ (sNW σ) p (sWD σ p)) (z_shb (zTr_lt ht he)) (z_ltb hC (zTr_lt ht he)) rfl inX0 (by decide) rfl zm_1_78 (hlc2 g4) dX2_contentHeight_10 ?_
    refine z_imul (pc := 13) hC dX2_contentHeight_13 ?_
    exact z_iret (pc := 14) hC hE dX2_contentHeight_14 (zMu_i (by unfold sCH; rw [if_neg (by rw [g4]; decide)]))
theorem z_u_id (I : Nat → Nat → Int32) {i k : Nat} {v : Int32} (h : I i k = v) : z_u I i k v = I := by
  funext a j
  unfold z_u
  by_cases e : a = i ∧ j = k
  · rw [if_pos e, e.1, e.2, h]
  · rw [if_neg e]
set_option maxHeartbeats 4000000 in
set_option maxRecDepth 100000 in
theorem kX2_measureHeight (lx : Launch) (g : zG) (N : Nat) (I : Nat → Nat → Int32) (P : Nat → Nat → Option Nat) (J : Nat → Nat → Int64) {σ : zS} (ht : zTr σ I P) (hl : zLk σ I P) (p : Nat) (he : sEx σ p = true) (hW : I p 14 = sWD σ p) (nh : Nat → Int32) (hnh : ∀ k, k ∈ sKids σ p → I k 11 = nh k) (hb : zbd σ p nh) (hkl : ∀ i q, (sKids σ p)[i]? = some q → I q 17 = nI (sLn σ (sNW σ) p (sWD σ p) i)) (hlc : sCon σ p = true → I p 16 = nI (sLCn σ (sNW σ) p (sWD σ p))) : z_Ct lx yX2_measureHeight (zT yX2_measureHeight cX2_measureHeight 2 (Option.none : Option FieldType)) ({ frames := 4, cells := 0, slots := 0, locals := 88 } : Room) g N I P J [.ref (g.1 p)] (zMu none (z_u (z_u I p 16 (sLC σ (sNW σ) p (sWD σ p))) p 11 (sNHs σ nh p)) P J) 0 0 := by
  refine z_of (by decide) (Nat.le_of_ble_eq_true rfl) (lv0 := [(0, .ref (g.1 p))]) rfl ?_
  intro C hlx hC hE hRm
  have hC : zX C cX2_measureHeight 2 RX2 (zT yX2_measureHeight cX2_measureHeight 2 (Option.none : Option FieldType)) g N := hC
  have htr : zTr σ (z_u I p 16 (sLC σ (sNW σ) p (sWD σ p))) P := ht.lay (zLay.rf.u (zNK (zTr_lt ht he) (by decide)))
  have J15 : zJ C g N 2 0 0 (z_u I p 16 (sLC σ (sNW σ) p (sWD σ p))) P J 15 [(0, .ref (g.1 p))] [] := by
    refine z_aload_n (pc := 15) hC 0 dX2_measureHeight_15 rfl rfl z_isr_r ?_
    refine z_bipush (pc := 16) (v := 11) hC dX2_measureHeight_16 rfl ?_
    refine z_cV (pc := 18) (st := []) hC [.int 11] (kSX0_fixedSize C.2.1 g N (z_u I p 16 (sLC σ (sNW σ) p (sWD σ p))) P J (ht.lay (zLay.rf.u (zNK (zTr_lt ht he) (by decide)))) p he 11 (by decide) 11 rfl) (z_shb (zTr_lt ht he)) (z_ltb hC (zTr_lt ht he)) rfl zkX0_fixedSize zm_2_114 ⟨rfl, rfl⟩ rfl rfl hRm ⟨Nat.le_of_ble_eq_true rfl, Nat.le_of_ble_eq_true rfl⟩ (Nat.le_of_ble_eq_true rfl) ⟨Nat.zero_le _, Nat.zero_le _⟩ dX2_measureHeight_18 ?_
    refine z_istore_n (pc := 21) (lv' := [(1, .int (sFix σ p 11)), (0, .ref (g.1 p))]) hC dX2_measureHeight_21 rfl (by decide) rfl ?_
    refine z_iload_n (pc := 22) hC 0 dX2_measureHeight_22 rfl rfl ?_
    refine z_iconst (pc := 23) (v := (-1)) hC dX2_measureHeight_23 rfl ?_
    refine z_icmp_ne (pc := 24) (tgt := 40) hC dX2_measureHeight_24 (by decide) (fun h24 => ?_) (fun h24 => ?_)
    · skip
      refine z_aload_n (pc := 40) hC 1 dX2_measureHeight_40 rfl rfl z_isr_r ?_
      refine z_aload_n (pc := 41) hC 1 dX2_measureHeight_41 rfl rfl z_isr_r ?_
      refine z_iload_n (pc := 42) hC 0 dX2_measureHeight_42 rfl rfl ?_
      refine z_cV (pc := 43) (st := [.ref (g.1 p)]) hC [.int (sFix σ p 11)] (kSX0_limitHeight C.2.1 g N (z_u I p 16 (sLC σ (sNW σ) p (sWD σ p))) P J (ht.lay (zLay.rf.u (zNK (zTr_lt ht he) (by decide)))) p he (sFix σ p 11)) (z_shb (zTr_lt ht he)) (z_ltb hC (zTr_lt ht he)) rfl zkX0_limitHeight zm_2_239 ⟨rfl, rfl⟩ rfl rfl hRm ⟨Nat.le_of_ble_eq_true rfl, Nat.le_of_ble_eq_true rfl⟩ (Nat.le_of_ble_eq_true rfl) ⟨Nat.zero_le _, Nat.zero_le _⟩ dX2_measureHeight_43 ?_
      refine z_pI (pc := 46) hC 0 11 (z_shb (zTr_lt ht he)) (z_ltb hC (zTr_lt ht he)) rfl inX0 tyX0_ok nmX0 (by decide) rfl zm_1_65 rfl rfl rfl dX2_measureHeight_46 ?_
      exact z_vret (pc := 49) hC hE dX2_measureHeight_49 ⟨rfl, by unfold sNHs sNat; simp [h24], rfl, rfl⟩
    · skip
      refine z_aload_n (pc := 27) hC 1 dX2_measureHeight_27 rfl rfl z_isr_r ?_
      refine z_cS (pc := 28) (st := []) hC [.ref (g.1 p)] (kX2_contentHeight C.2.1 g N (z_u I p 16 (sLC σ (sNW σ) p (sWD σ p))) P J htr (hl.lay (zLay.rf.u (zNK (zTr_lt ht he) (by decide)))) p he nh (fun k hk => (z_u_a _ _ (fun q => sPn ht.1 (q ▸ hk))).trans (hnh k hk)) hb (fun i q h => (z_u_b _ _ (by decide)).trans (hkl i q h)) (fun h => by rw [z_u_s]; unfold sLC; rw [if_pos h]) (fun _ => z_u_s _ _ _ _)) zkX2_contentHeight zm_2_233 ⟨rfl, rfl⟩ rfl rfl hRm ⟨Nat.le_of_ble_eq_true rfl, Nat.le_of_ble_eq_true rfl⟩ (Nat.le_of_ble_eq_true rfl) ⟨Nat.zero_le _, Nat.zero_le _⟩ dX2_measureHeight_28 ?_
      refine z_iconst (pc := 31) (v := 2) hC dX2_measureHeight_31 rfl ?_
      refine z_aload_n (pc := 32) hC 1 dX2_measureHeight_32 rfl rfl z_isr_r ?_
      refine z_iconst (pc := 33) (v := 5) hC dX2_measureHeight_33 rfl ?_
      refine z_cV (pc := 34) (st := [.int 2, .int (sCH σ nh p)]) hC [.int 5] (kX0_of C.2.1 g N (z_u I p 16 (sLC σ (sNW σ) p (sWD σ p))) P J p 5 (zTr_lt ht he) (by decide) 5 rfl (sSt σ p 5) (zTr_st (ht.lay (zLay.rf.u (zNK (zTr_lt ht he) (by decide)))) he (by decide))) (z_shb (zTr_lt ht he)) (z_ltb hC (zTr_lt ht he)) rfl zkX0_of zm_2_125 ⟨rfl, rfl⟩ rfl rfl hRm ⟨Nat.le_of_ble_eq_true rfl, Nat.le_of_ble_eq_true rfl⟩ (Nat.le_of_ble_eq_true rfl) ⟨Nat.zero_le _, Nat.zero_le _⟩ dX2_measureHeight_34 ?_
      refine z_imul (pc := 37) hC dX2_measureHeight_37 ?_
      refine z_iadd (pc := 38) hC dX2_measureHeight_38 ?_
      refine z_istore_n (pc := 39) (lv' := [(1, .int ((sCH σ nh p) + (2 * (sSt σ p 5)))), (0, .ref (g.1 p))]) hC dX2_measureHeight_39 rfl (by decide) rfl ?_
      refine z_aload_n (pc := 40) hC 1 dX2_measureHeight_40 rfl rfl z_isr_r ?_
      refine z_aload_n (pc := 41) hC 1 dX2_measureHeight_41 rfl rfl z_isr_r ?_
      refine z_iload_n (pc := 42) hC 0 dX2_measureHeight_42 rfl rfl ?_
      refine z_cV (pc := 43) (st := [.ref (g.1 p)]) hC [.int ((sCH σ nh p) + (2 * (sSt σ p 5)))] (kSX0_limitHeight C.2.1 g N (z_u I p 16 (sLC σ (sNW σ) p (sWD σ p))) P J (ht.lay (zLay.rf.u (zNK (zTr_lt ht he) (by decide)))) p he ((sCH σ nh p) + (2 * (sSt σ p 5)))) (z_shb (zTr_lt ht he)) (z_ltb hC (zTr_lt ht he)) rfl zkX0_limitHeight zm_2_239 ⟨rfl, rfl⟩ rfl rfl hRm ⟨Nat.le_of_ble_eq_true rfl, Nat.le_of_ble_eq_true rfl⟩ (Nat.le_of_ble_eq_true rfl) ⟨Nat.zero_le _, Nat.zero_le _⟩ dX2_measureHeight_43 ?_
      refine z_pI (pc := 46) hC 0 11 (z_shb (zTr_lt ht he)) (z_ltb hC (zTr_lt ht he)) rfl inX0 tyX0_ok nmX0 (by decide) rfl zm_1_65 rfl rfl rfl dX2_measureHeight_46 ?_
      exact z_vret (pc := 49) hC hE dX2_measureHeight_49 ⟨rfl, by unfold sNHs sNat; simp [h24], rfl, rfl⟩
  refine z_aload_n (pc := 0) hC 0 dX2_measureHeight_0 rfl rfl z_isr_r ?_
  refine z_gI (pc := 1) hC 0 4 (x := zB (sCon σ p)) (z_shb (zTr_lt ht he)) (z_ltb hC (zTr_lt ht he)) rfl inX0 (by decide) rfl zm_1_45 ((hl.1 p (zTr_lt ht he)).1) dX2_measureHeight_1 ?_
  refine z_if_ne (pc := 4) (tgt := 15) hC dX2_measureHeight_4 (by decide) (fun h4 => ?_) (fun h4 => ?_)
  · skip
    have g4 := zB_t h4
    have J15 := J15
    rw [z_u_id _ (show I p 16 = sLC σ (sNW σ) p (sWD σ p) by rw [hlc g4]; unfold sLC; rw [if_pos g4])] at J15
    exact J15
  · skip
    have g4 := zB_f h4
    refine z_aload_n (pc := 7) hC 0 dX2_measureHeight_7 rfl rfl z_isr_r ?_
    refine z_aload_n (pc := 8) hC 0 dX2_measureHeight_8 rfl rfl z_isr_r ?_
    refine z_cV (pc := 9) (st := [.ref (g.1 p)]) hC [] (kSX0_textLines C.2.1 g N I P J ht p he (sWD σ p) hW) (z_shb (zTr_lt ht he)) (z_ltb hC (zTr_lt ht he)) rfl zkX0_textLines zm_2_228 ⟨rfl, rfl⟩ rfl rfl hRm ⟨Nat.le_of_ble_eq_true rfl, Nat.le_of_ble_eq_true rfl⟩ (Nat.le_of_ble_eq_true rfl) ⟨Nat.zero_le _, Nat.zero_le _⟩ dX2_measureHeight_9 ?_
    rw [show ztl (sSt σ p 19) (sIn (sWD σ p) (sSt σ p 5)) = sLC σ (sNW σ) p (sWD σ p) by unfold sLC; rw [if_neg (by rw [g4]; decide)]]
    refine z_pI (pc := 12) hC 0 16 (z_shb (zTr_lt ht he)) (z_ltb hC (zTr_lt ht he)) rfl inX0 tyX0_ok nmX0 (by decide) rfl zm_1_78 rfl rfl rfl dX2_measureHeight_12 ?_
    exact J15
set_option maxHeartbeats 4000000 in
set_option maxRecDepth 100000 in
theorem kX2_heightInLine (lx : Launch) (g : zG) (N : Nat) (I : Nat → Nat → Int32) (P : Nat → Nat → Option Nat) (J : Nat → Nat → Int64) {σ : zS} (ht : zTr σ I P) (b : Nat) (he : sEx σ b = true) (h0 : b ≠ 0) (hn : I b 11 = sNH σ b) (hg : Int32) : z_Ct lx yX2_heightInLine (zT yX2_heightInLine cX2_heightInLine 3 (Option.some FieldType.int)) ({ frames := 2, cells := 0, slots := 0, locals := 44 } : Room) g N I P J [.ref (g.1 b), .int hg] (zMu (some (.int (sRoH σ b hg))) I P J) 0 0 := by
  refine z_of (by decide) (Nat.le_of_ble_eq_true rfl) (lv0 := [(0, .ref (g.1 b)), (1, .int hg)]) rfl ?_
  intro C hlx hC hE hRm
  have hC : zX C cX2_heightInLine 3 RX2 (zT yX2_heightInLine cX2_heightInLine 3 (Option.some FieldType.int)) g N := hC
  refine z_aload_n (pc := 0) hC 0 dX2_heightInLine_0 rfl rfl z_isr_r ?_
  refine z_bipush (pc := 1) (v := 11) hC dX2_heightInLine_1 rfl ?_
  refine z_cV (pc := 3) (st := []) hC [.int 11] (kX0_of C.2.1 g N I P J b 11 (zTr_lt ht he) (by decide) 11 rfl (sSt σ b 11) (zTr_st ht he (by decide))) (z_shb (zTr_lt ht he)) (z_ltb hC (zTr_lt ht he)) rfl zkX0_of zm_2_125 ⟨rfl, rfl⟩ rfl rfl hRm ⟨Nat.le_of_ble_eq_true rfl, Nat.le_of_ble_eq_true rfl⟩ (Nat.le_of_ble_eq_true rfl) ⟨Nat.zero_le _, Nat.zero_le _⟩ dX2_heightInLine_3 ?_
  refine z_istore_n (pc := 6) (lv' := [(2, .int (sSt σ b 11)), (0, .ref (g.1 b)), (1, .int hg)]) hC dX2_heightInLine_6 rfl (by decide) rfl ?_
  refine z_iload_n (pc := 7) hC 0 dX2_heightInLine_7 rfl rfl ?_
  refine z_iconst (pc := 8) (v := (-1)) hC dX2_heightInLine_8 rfl ?_
  refine z_icmp_ne (pc := 9) (tgt := 38) hC dX2_heightInLine_9 (by decide) (fun h9 => ?_) (fun h9 => ?_)
  · skip
    refine z_aload_n (pc := 38) hC 1 dX2_heightInLine_38 rfl rfl z_isr_r ?_
    refine z_iload_n (pc := 39) hC 0 dX2_heightInLine_39 rfl rfl ?_
    refine z_cV (pc := 40) (st := []) hC [.int (sSt σ b 11)] (kSX0_limitHeight C.2.1 g N I P J ht b he (sSt σ b 11)) (z_shb (zTr_lt ht he)) (z_ltb hC (zTr_lt ht he)) rfl zkX0_limitHeight zm_2_239 ⟨rfl, rfl⟩ rfl rfl hRm ⟨Nat.le_of_ble_eq_true rfl, Nat.le_of_ble_eq_true rfl⟩ (Nat.le_of_ble_eq_true rfl) ⟨Nat.zero_le _, Nat.zero_le _⟩ dX2_heightInLine_40 ?_
    exact z_iret (pc := 43) hC hE dX2_heightInLine_43 (zMu_i (by unfold sRoH sLimH zpos; rw [if_neg h0]; simp [h9]))
  · skip
    refine z_aload_n (pc := 12) hC 1 dX2_heightInLine_12 rfl rfl z_isr_r ?_
    refine z_cV (pc := 13) (st := []) hC [] (kSX0_alignment C.2.1 g N I P J ht b he h0) (z_shb (zTr_lt ht he)) (z_ltb hC (zTr_lt ht he)) rfl zkX0_alignment zm_2_159 ⟨rfl, rfl⟩ rfl rfl hRm ⟨Nat.le_of_ble_eq_true rfl, Nat.le_of_ble_eq_true rfl⟩ (Nat.le_of_ble_eq_true rfl) ⟨Nat.zero_le _, Nat.zero_le _⟩ dX2_heightInLine_13 ?_
    refine z_iconst (pc := 16) (v := 3) hC dX2_heightInLine_16 rfl ?_
    refine z_icmp_ne (pc := 17) (tgt := 33) hC dX2_heightInLine_17 (by decide) (fun h17 => ?_) (fun h17 => ?_)
    · skip
      refine z_aload_n (pc := 33) hC 1 dX2_heightInLine_33 rfl rfl z_isr_r ?_
      refine z_gI (pc := 34) hC 0 11 (x := sNH σ b) (z_shb (zTr_lt ht he)) (z_ltb hC (zTr_lt ht he)) rfl inX0 (by decide) rfl zm_1_65 hn dX2_heightInLine_34 ?_
      refine z_istore_n (pc := 37) (lv' := [(2, .int (sNH σ b)), (0, .ref (g.1 b)), (1, .int hg)]) hC dX2_heightInLine_37 rfl (by decide) rfl ?_
      refine z_aload_n (pc := 38) hC 1 dX2_heightInLine_38 rfl rfl z_isr_r ?_
      refine z_iload_n (pc := 39) hC 0 dX2_heightInLine_39 rfl rfl ?_
      refine z_cV (pc := 40) (st := []) hC [.int (sNH σ b)] (kSX0_limitHeight C.2.1 g N I P J ht b he (sNH σ b)) (z_shb (zTr_lt ht he)) (z_ltb hC (zTr_lt ht he)) rfl zkX0_limitHeight zm_2_239 ⟨rfl, rfl⟩ rfl rfl hRm ⟨Nat.le_of_ble_eq_true rfl, Nat.le_of_ble_eq_true rfl⟩ (Nat.le_of_ble_eq_true rfl) ⟨Nat.zero_le _, Nat.zero_le _⟩ dX2_heightInLine_40 ?_
      exact z_iret (pc := 43) hC hE dX2_heightInLine_43 (zMu_i (by unfold sRoH sLimH zpos; rw [if_neg h0]; simp [h9, h17]))
    · skip
      refine z_iload_n (pc := 20) hC 2 dX2_heightInLine_20 rfl rfl ?_
      refine z_aload_n (pc := 21) hC 1 dX2_heightInLine_21 rfl rfl z_isr_r ?_
      refine z_cV (pc := 22) (st := [.int hg]) hC [] (kX0_margins C.2.1 g N I P J b (zTr_lt ht he) (sSt σ b 6) (zTr_st ht he (by decide))) (z_shb (zTr_lt ht he)) (z_ltb hC (zTr_lt ht he)) rfl zkX0_margins zm_2_129 ⟨rfl, rfl⟩ rfl rfl hRm ⟨Nat.le_of_ble_eq_true rfl, Nat.le_of_ble_eq_true rfl⟩ (Nat.le_of_ble_eq_true rfl) ⟨Nat.zero_le _, Nat.zero_le _⟩ dX2_heightInLine_22 ?_
      refine z_isub (pc := 25) hC dX2_heightInLine_25 ?_
      refine z_iconst (pc := 26) (v := 0) hC dX2_heightInLine_26 rfl ?_
      refine z_mmax (pc := 27) hC (z_tw zm_2_133) (z_tw zm_2_134) (z_tw zm_1_12) (z_tw zm_2_135) (by rw [hRm]; exact Nat.le_of_ble_eq_true rfl) (by rw [hRm]; exact (Nat.le_of_ble_eq_true rfl)) (by rw [hRm]; exact Nat.zero_le _) (by rw [hRm]; exact Nat.zero_le _) dX2_heightInLine_27 ?_
      refine z_goto (pc := 30) (tgt := 37) hC dX2_heightInLine_30 (by decide) ?_
      refine z_istore_n (pc := 37) (lv' := [(2, .int (if hg - (2 * sSt σ b 6) < 0 then 0 else hg - (2 * sSt σ b 6))), (0, .ref (g.1 b)), (1, .int hg)]) hC dX2_heightInLine_37 rfl (by decide) rfl ?_
      refine z_aload_n (pc := 38) hC 1 dX2_heightInLine_38 rfl rfl z_isr_r ?_
      refine z_iload_n (pc := 39) hC 0 dX2_heightInLine_39 rfl rfl ?_
      refine z_cV (pc := 40) (st := []) hC [.int (if hg - (2 * sSt σ b 6) < 0 then 0 else hg - (2 * sSt σ b 6))] (kSX0_limitHeight C.2.1 g N I P J ht b he (if hg - (2 * sSt σ b 6) < 0 then 0 else hg - (2 * sSt σ b 6))) (z_shb (zTr_lt ht he)) (z_ltb hC (zTr_lt ht he)) rfl zkX0_limitHeight zm_2_239 ⟨rfl, rfl⟩ rfl rfl hRm ⟨Nat.le_of_ble_eq_true rfl, Nat.le_of_ble_eq_true rfl⟩ (Nat.le_of_ble_eq_true rfl) ⟨Nat.zero_le _, Nat.zero_le _⟩ dX2_heightInLine_40 ?_
      exact z_iret (pc := 43) hC hE dX2_heightInLine_43 (zMu_i (by unfold sRoH sLimH zpos; rw [if_neg h0]; simp [h9, h17]))
end ZHM
