section ZSPM
set_option maxHeartbeats 4000000 in
set_option maxRecDepth 100000 in
theorem kX2_spreadWidths (lx : Launch) (g : zG) (N : Nat) (I : Nat → Nat → Int32) (P : Nat → Nat → Option Nat) (J : Nat → Nat → Int64) {σ : zS} (ht : zTr σ I P) (hl : zLk σ I P) (p : Nat) (he : sEx σ p = true) (W : Int32) (hW : I p 14 = W) (nw : Nat → Int32) (hnw : ∀ k, k ∈ sKids σ p → I k 10 = nw k) (hb : zbd σ p nw) : z_Ct lx yX2_spreadWidths (zT yX2_spreadWidths cX2_spreadWidths 5 (Option.none : Option FieldType)) ({ frames := 4, cells := 0, slots := 0, locals := 114 } : Room) g N I P J [.ref (g.1 82), .ref (g.1 p)] (zsprQ σ nw p W I P J) 0 0 := by
  refine z_of (by decide) (Nat.le_of_ble_eq_true rfl) (lv0 := [(0, .ref (g.1 82)), (1, .ref (g.1 p))]) rfl ?_
  intro C hlx hC hE hRm
  have hC : zX C cX2_spreadWidths 5 RX2 (zT yX2_spreadWidths cX2_spreadWidths 5 (Option.none : Option FieldType)) g N := hC
  refine z_aload_n (pc := 0) hC 1 dX2_spreadWidths_0 rfl rfl z_isr_r ?_
  refine z_cV (pc := 1) (st := []) hC [] (kX0_isColumn C.2.1 g N I P J p (zTr_lt ht he) (sSt σ p 0) (zTr_st ht he (by decide))) (z_shb (zTr_lt ht he)) (z_ltb hC (zTr_lt ht he)) rfl zkX0_isColumn zm_2_136 ⟨rfl, rfl⟩ rfl rfl hRm ⟨Nat.le_of_ble_eq_true rfl, Nat.le_of_ble_eq_true rfl⟩ (Nat.le_of_ble_eq_true rfl) ⟨Nat.zero_le _, Nat.zero_le _⟩ dX2_spreadWidths_1 ?_
  refine z_if_eq (pc := 4) (tgt := 12) hC dX2_spreadWidths_4 (by decide) (fun h4 => ?_) (fun h4 => ?_)
  · skip
    have g4 := zB_f h4
    have q4 := of_decide_eq_false g4
    refine z_aload_n (pc := 12) hC 1 dX2_spreadWidths_12 rfl rfl z_isr_r ?_
    refine z_callS (pc := 13) (st := []) hC [.ref (g.1 p)] ((kX2_breakLines C.2.1 g N I P J ht hl p he W hW nw hnw q4)) zkX2_breakLines zm_2_166 ⟨rfl, rfl⟩ rfl rfl hRm ⟨Nat.le_of_ble_eq_true rfl, Nat.le_of_ble_eq_true rfl⟩ (Nat.le_of_ble_eq_true rfl) ⟨Nat.zero_le _, Nat.zero_le _⟩ dX2_spreadWidths_13 ?_
    intro v I2 P2 J2 hq
    obtain ⟨hv, hP2, hJ2, hf, hs, hc⟩ := hq
    subst hv
    rw [hP2, hJ2]
    have hR0 := zsprR_0 hf hs hc
    show zJ C g N 5 0 0 I2 P J 16 [(0, .ref (g.1 82)), (1, .ref (g.1 p))] []
    refine z_aload_n (pc := 16) hC 1 dX2_spreadWidths_16 rfl rfl z_isr_r ?_
    refine z_gP (pc := 17) hC 0 6 (v := va_rf (Option.map g.1 ((sKids σ p)[0]?))) (z_shb (zTr_lt ht he)) (z_ltb hC (zTr_lt ht he)) rfl inX0 (by decide) rfl zm_1_52 (by rw [(zLk_seg hl (zTr_lt ht he)).2]) dX2_spreadWidths_17 ?_
    refine z_astore_n (pc := 20) (lv' := [(2, va_rf (Option.map g.1 ((sKids σ p)[0]?))), (0, .ref (g.1 82)), (1, .ref (g.1 p))]) hC dX2_spreadWidths_20 rfl (by decide) (z_isr_o _) rfl ?_
    refine z_iconst (pc := 21) (v := 0) hC dX2_spreadWidths_21 rfl ?_
    refine z_istore_n (pc := 22) (lv' := [(3, .int 0), (2, va_rf (Option.map g.1 ((sKids σ p)[0]?))), (0, .ref (g.1 82)), (1, .ref (g.1 p))]) hC dX2_spreadWidths_22 rfl (by decide) (by first | (simp [z_catO]; done) | (simp [z_catO, z_catR, z_catI, z_catN, z_catL]; done) | (simp [z_catO, z_catR, z_catI, z_catN, z_catL]; decide)) ?_
    have L23 : ∀ (zf : Nat) (a l : Nat) (Ir : Nat → Nat → Int32) (ha : a ≤ kn σ p) (hal : a < kn σ p → zbeg (sLn σ nw p W) a = a ∧ (sLn σ nw p W) a = l) (hR : zsprR σ nw p W a I Ir), kn σ p - a < zf → zJ C g N 5 0 0 Ir P J 23 [(3, .int (nI l)), (2, va_rf (Option.map g.1 ((sKids σ p)[a]?))), (0, .ref (g.1 82)), (1, .ref (g.1 p))] [] := by
      intro zf
      induction zf with
      | zero =>
        intro a l Ir ha hal hR hn2
        exact absurd hn2 (Nat.not_lt_zero _)
      | succ zf ih =>
        intro a l Ir ha hal hR hn2
        have htr := ht.lay (hR.lay ht.1 (zTr_lt ht he))
        have hp40 := zTr_lt ht he
        have hw14 : Ir p 14 = W := (hR.1 p 14 (fun z => sPn ht.1 z.2) (by omega) (by omega) (by omega)).trans hW
        have hnr : ∀ k, k ∈ sKids σ p → Ir k 10 = nw k := fun k hk => (hR.1 k 10 (fun z => absurd z.1 (by decide)) (by omega) (fun z => by have := (sKids_lt ht.1 hk).2.1; omega) (fun z => by have := (sKids_lt ht.1 hk).2.1; omega)).trans (hnw k hk)
        refine z_iload_n (pc := 23) hC 0 dX2_spreadWidths_23 rfl rfl ?_
        refine z_aload_n (pc := 24) hC 3 dX2_spreadWidths_24 rfl rfl z_isr_r ?_
        refine z_gI (pc := 25) hC 0 16 (x := nI (sLCn σ nw p W)) (z_shb (zTr_lt ht he)) (z_ltb hC (zTr_lt ht he)) rfl inX0 (by decide) rfl zm_1_78 hR.2.2 dX2_spreadWidths_25 ?_
        refine z_icmp_ge (pc := 28) (tgt := 67) hC dX2_spreadWidths_28 (by decide) (fun h28 => ?_) (fun h28 => ?_)
        · skip
          have g28 := Int32.not_lt.mpr h28
          have ea := zln_end ht.1 ha hal h28
          exact z_vret (pc := 67) hC hE dX2_spreadWidths_67 (zsprR_end hR ea)
        · skip
          have g28 := Int32.not_le.mp h28
          refine z_aload_n (pc := 31) hC 1 dX2_spreadWidths_31 rfl rfl (z_isr_o _) ?_
          refine z_ifnull (pc := 32) (tgt := 67) hC dX2_spreadWidths_32 (by decide) (fun h32 => ?_) (fun a32 h32 => ?_)
          · skip
            rw [h32]
            show zJ C g N 5 0 0 Ir P J 67 [(3, .int (nI l)), (2, .null), (0, .ref (g.1 82)), (1, .ref (g.1 p))] []
            have ea : a = kn σ p := Nat.le_antisymm ha (List.getElem?_eq_none_iff.mp h32)
            exact z_vret (pc := 67) hC hE dX2_spreadWidths_67 (zsprR_end hR ea)
          · skip
            rw [h32]
            show zJ C g N 5 0 0 Ir P J 35 [(3, .int (nI l)), (2, .ref (g.1 a32)), (0, .ref (g.1 82)), (1, .ref (g.1 p))] []
            obtain ⟨hkd32, hik32, hmem32⟩ := sKids_get h32
            have hx32 := sKids_lt ht.1 hmem32
            refine z_aload_n (pc := 35) hC 1 dX2_spreadWidths_35 rfl rfl z_isr_r ?_
            refine z_cS (pc := 36) (st := []) hC [.ref (g.1 a32)] ((kX2_lineEnd C.2.1 g N Ir P J (sKids σ p) (fun x hx => (sKids_lt ht.1 hx).2.1) ((zLk_seg hl (zTr_lt ht he)).1) (sLn σ nw p W) (fun i hi => Nat.lt_of_le_of_lt (zstep_le (sLn_step σ nw p W) i) (by have q9 : i < kn σ p := hi; have := kn_le ht.1 p; omega)) (fun i x hx => (hR.2.1 i x hx).2) a a32 h32 hik32 hx32.2.1)) zkX2_lineEnd zm_2_177 ⟨rfl, rfl⟩ rfl rfl hRm ⟨Nat.le_of_ble_eq_true rfl, Nat.le_of_ble_eq_true rfl⟩ (Nat.le_of_ble_eq_true rfl) ⟨Nat.zero_le _, Nat.zero_le _⟩ dX2_spreadWidths_36 ?_
            refine z_astore (pc := 39) (lv' := [(4, va_rf (Option.map g.1 ((sKids σ p)[(zend (sLn σ nw p W) (kn σ p) a)]?))), (3, .int (nI l)), (2, .ref (g.1 a32)), (0, .ref (g.1 82)), (1, .ref (g.1 p))]) hC dX2_spreadWidths_39 (by decide) (z_isr_o _) rfl ?_
            refine z_aload_n (pc := 41) hC 3 dX2_spreadWidths_41 rfl rfl z_isr_r ?_
            refine z_aload_n (pc := 42) hC 2 dX2_spreadWidths_42 rfl rfl z_isr_r ?_
            refine z_aload (pc := 43) hC 0 dX2_spreadWidths_43 rfl (z_isr_o _) ?_
            refine z_iconst (pc := 45) (v := 1) hC dX2_spreadWidths_45 rfl ?_
            show zJ C g N 5 0 0 Ir P J 46 [(4, va_rf (Option.map g.1 ((sKids σ p)[(zend (sLn σ nw p W) (kn σ p) a)]?))), (3, .int (nI l)), (2, .ref (g.1 a32)), (0, .ref (g.1 82)), (1, .ref (g.1 p))] [.int (zB true), va_rf (Option.map g.1 ((sKids σ p)[(zend (sLn σ nw p W) (kn σ p) a)]?)), .ref (g.1 a32), .ref (g.1 82)]
            refine z_aload_n (pc := 46) hC 4 dX2_spreadWidths_46 rfl rfl z_isr_r ?_
            refine z_cV (pc := 47) (st := [.int (zB true), va_rf (Option.map g.1 ((sKids σ p)[(zend (sLn σ nw p W) (kn σ p) a)]?)), .ref (g.1 a32), .ref (g.1 82)]) hC [] (kSX0_innerWidth C.2.1 g N Ir P J htr p he W hw14) (z_shb (zTr_lt ht he)) (z_ltb hC (zTr_lt ht he)) rfl zkX0_innerWidth zm_2_154 ⟨rfl, rfl⟩ rfl rfl hRm ⟨Nat.le_of_ble_eq_true rfl, Nat.le_of_ble_eq_true rfl⟩ (by simp [z_catO, z_catR, z_catI, z_catL, z_catN]) ⟨Nat.zero_le _, Nat.zero_le _⟩ dX2_spreadWidths_47 ?_
            refine z_aload_n (pc := 50) hC 4 dX2_spreadWidths_50 rfl rfl z_isr_r ?_
            refine z_iconst (pc := 51) (v := 4) hC dX2_spreadWidths_51 rfl ?_
            refine z_cV (pc := 52) (st := [.int (sIn W (sSt σ p 5)), .int (zB true), va_rf (Option.map g.1 ((sKids σ p)[(zend (sLn σ nw p W) (kn σ p) a)]?)), .ref (g.1 a32), .ref (g.1 82)]) hC [.int 4] (kX0_of C.2.1 g N Ir P J p 4 (zTr_lt ht he) (by decide) 4 rfl (sSt σ p 4) (zTr_st htr he (by decide))) (z_shb (zTr_lt ht he)) (z_ltb hC (zTr_lt ht he)) rfl zkX0_of zm_2_125 ⟨rfl, rfl⟩ rfl rfl hRm ⟨Nat.le_of_ble_eq_true rfl, Nat.le_of_ble_eq_true rfl⟩ (by simp [z_catO, z_catR, z_catI, z_catL, z_catN]) ⟨Nat.zero_le _, Nat.zero_le _⟩ dX2_spreadWidths_52 ?_
            have k55 := (kX2_flexKidsT C.2.1 g N Ir P J (sKids σ p) (fun x hx => (sKids_lt ht.1 hx).2.1) sKids_nd ((zLk_seg hl (zTr_lt ht he)).1) (kn_le ht.1 p) a (zend (sLn σ nw p W) (kn σ p) a) (Nat.le_of_lt (zend_spec hik32).1) (zend_spec hik32).2.1 (sIn W (sSt σ p 5)) (sSt σ p 4) (zflex_pos htr true hnr hb (zend_spec hik32).2.1).1 (zflex_pos htr true hnr hb (zend_spec hik32).2.1).2)
            rw [h32] at k55
            refine z_callV (pc := 55) (st := []) hC [.ref (g.1 a32), va_rf (Option.map g.1 ((sKids σ p)[(zend (sLn σ nw p W) (kn σ p) a)]?)), .int (zB true), .int (sIn W (sSt σ p 5)), .int (sSt σ p 4)] (k55) rfl (z_lt hC (by decide)) rfl zkX2_flexKids zm_2_180 ⟨rfl, rfl⟩ rfl rfl hRm ⟨Nat.le_of_ble_eq_true rfl, Nat.le_of_ble_eq_true rfl⟩ (Nat.le_of_ble_eq_true rfl) ⟨Nat.zero_le _, Nat.zero_le _⟩ dX2_spreadWidths_55 ?_
            intro v I3 P2 J2 hq
            have hR3 := zsprR_s htr hnr q4 hik32 (hal hik32).1 hR hq
            obtain ⟨hv, hP2, hJ2, _, _⟩ := hq
            subst hv
            rw [hP2, hJ2]
            show zJ C g N 5 0 0 I3 P J 58 [(4, va_rf (Option.map g.1 ((sKids σ p)[(zend (sLn σ nw p W) (kn σ p) a)]?))), (3, .int (nI l)), (2, .ref (g.1 a32)), (0, .ref (g.1 82)), (1, .ref (g.1 p))] []
            refine z_aload (pc := 58) hC 0 dX2_spreadWidths_58 rfl (z_isr_o _) ?_
            refine z_astore_n (pc := 60) (lv' := [(2, va_rf (Option.map g.1 ((sKids σ p)[(zend (sLn σ nw p W) (kn σ p) a)]?))), (4, va_rf (Option.map g.1 ((sKids σ p)[(zend (sLn σ nw p W) (kn σ p) a)]?))), (3, .int (nI l)), (0, .ref (g.1 82)), (1, .ref (g.1 p))]) hC dX2_spreadWidths_60 rfl (by decide) (z_isr_o _) rfl ?_
            refine z_iinc (pc := 61) (v := nI (l + 1)) (lv' := [(3, .int (nI (l + 1))), (2, va_rf (Option.map g.1 ((sKids σ p)[(zend (sLn σ nw p W) (kn σ p) a)]?))), (4, va_rf (Option.map g.1 ((sKids σ p)[(zend (sLn σ nw p W) (kn σ p) a)]?))), (0, .ref (g.1 82)), (1, .ref (g.1 p))]) hC 2 dX2_spreadWidths_61 rfl (nI_1 l) (by decide) (by first | (simp [z_catO]; done) | (simp [z_catO, z_catR, z_catI, z_catN, z_catL]; done) | (simp [z_catO, z_catR, z_catI, z_catN, z_catL]; decide)) ?_
            refine z_goto (pc := 64) (tgt := 23) hC dX2_spreadWidths_64 (by decide) ?_
            refine z_lvs (lv' := [(3, .int (nI (l + 1))), (2, va_rf (Option.map g.1 ((sKids σ p)[(zend (sLn σ nw p W) (kn σ p) a)]?))), (0, .ref (g.1 82)), (1, .ref (g.1 p))]) [0, 1, 3, 4] rfl ?_
            exact ih (zend (sLn σ nw p W) (kn σ p) a) (l + 1) I3 (zend_spec hik32).2.1 (zln_next hik32 hal) hR3 (by have := (zend_spec (ln := (sLn σ nw p W)) hik32).1; omega)
    exact L23 (kn σ p + 1) 0 0 _ (Nat.zero_le _) (fun _ => ⟨rfl, (sLn_step σ nw p W).1⟩) hR0 (by omega)
  · skip
    have g4 := zB_t h4
    have q4 := of_decide_eq_true g4
    refine z_aload_n (pc := 7) hC 1 dX2_spreadWidths_7 rfl rfl z_isr_r ?_
    refine z_callS (pc := 8) (st := []) hC [.ref (g.1 p)] ((kX2_spreadColumn C.2.1 g N I P J ht hl p he W hW nw hnw q4)) zkX2_spreadColumn zm_2_151 ⟨rfl, rfl⟩ rfl rfl hRm ⟨Nat.le_of_ble_eq_true rfl, Nat.le_of_ble_eq_true rfl⟩ (Nat.le_of_ble_eq_true rfl) ⟨Nat.zero_le _, Nat.zero_le _⟩ dX2_spreadWidths_8 ?_
    intro v I2 P2 J2 hq
    obtain ⟨hv, hP2, hJ2, hf, hs, hc⟩ := hq
    subst hv
    rw [hP2, hJ2]
    show zJ C g N 5 0 0 I2 P J 11 [(0, .ref (g.1 82)), (1, .ref (g.1 p))] []
    exact z_vret (pc := 11) hC hE dX2_spreadWidths_11 ⟨rfl, rfl, rfl, fun q j h1 h2 h3 h4 => hf q j h1 h2 h3 h4, hs, hc⟩
end ZSPM
