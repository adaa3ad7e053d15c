section ZPN
set_option maxHeartbeats 4000000 in
set_option maxRecDepth 100000 in
theorem kX2_placeRow (lx : Launch) (g : zG) (N : Nat) (I : Nat → Nat → Int32) (P : Nat → Nat → Option Nat) (J : Nat → Nat → Int64) {σ : zS} (ht : zTr σ I P) (hl : zLk σ I P) (p : Nat) (he : sEx σ p = true) (hrow : ¬ sSt σ p 0 = 1) (hW : I p 14 = sWD σ p) (hkw : ∀ k, k ∈ sKids σ p → I k 14 = sWD σ k) (hnh : ∀ k, k ∈ sKids σ p → I k 11 = sNH σ k) (hH : I p 15 = sHT σ p) (hkl : ∀ i q, (sKids σ p)[i]? = some q → I q 17 = nI (sLn σ (sNW σ) p (sWD σ p) i)) (lc : Int32) (hlv : I p 16 = lc) (hlc : kn σ p ≠ 0 → lc = nI (sLCn σ (sNW σ) p (sWD σ p))) : z_Ct lx yX2_placeRow (zT yX2_placeRow cX2_placeRow 6 (Option.none : Option FieldType)) ({ frames := 4, cells := 0, slots := 0, locals := 96 } : Room) g N I P J [.ref (g.1 p)] (zplcQ σ p I P J) 0 0 := by
  refine z_of (by decide) (Nat.le_of_ble_eq_true rfl) (lv0 := [(0, .ref (g.1 p))]) rfl ?_
  intro C hlx hC hE hRm
  have hC : zX C cX2_placeRow 6 RX2 (zT yX2_placeRow cX2_placeRow 6 (Option.none : Option FieldType)) g N := hC
  refine z_aload_n (pc := 0) hC 0 dX2_placeRow_0 rfl rfl z_isr_r ?_
  refine z_gI (pc := 1) hC 0 13 (x := I p 13) (z_shb (zTr_lt ht he)) (z_ltb hC (zTr_lt ht he)) rfl inX0 (by decide) rfl zm_1_70 rfl dX2_placeRow_1 ?_
  refine z_aload_n (pc := 4) hC 0 dX2_placeRow_4 rfl rfl z_isr_r ?_
  refine z_iconst (pc := 5) (v := 5) hC dX2_placeRow_5 rfl ?_
  refine z_cV (pc := 6) (st := [.int (I p 13)]) hC [.int 5] (kX0_of C.2.1 g N I P J p 5 (zTr_lt ht he) (by decide) 5 rfl (sSt σ p 5) (zTr_st ht he (by decide))) (z_shb (zTr_lt ht he)) (z_ltb hC (zTr_lt ht he)) rfl zkX0_of zm_2_125 ⟨rfl, rfl⟩ rfl rfl hRm ⟨Nat.le_of_ble_eq_true rfl, Nat.le_of_ble_eq_true rfl⟩ (Nat.le_of_ble_eq_true rfl) ⟨Nat.zero_le _, Nat.zero_le _⟩ dX2_placeRow_6 ?_
  refine z_iadd (pc := 9) hC dX2_placeRow_9 ?_
  refine z_istore_n (pc := 10) (lv' := [(1, .int ((I p 13) + (sSt σ p 5))), (0, .ref (g.1 p))]) hC dX2_placeRow_10 rfl (by decide) rfl ?_
  refine z_aload_n (pc := 11) hC 1 dX2_placeRow_11 rfl rfl z_isr_r ?_
  refine z_gP (pc := 12) hC 0 6 (v := va_rf (Option.map g.1 ((sKids σ p)[0]?))) (z_shb (zTr_lt ht he)) (z_ltb hC (zTr_lt ht he)) rfl inX0 (by decide) rfl zm_1_52 (by rw [(zLk_seg hl (zTr_lt ht he)).2]) dX2_placeRow_12 ?_
  refine z_astore_n (pc := 15) (lv' := [(2, va_rf (Option.map g.1 ((sKids σ p)[0]?))), (1, .int ((I p 13) + (sSt σ p 5))), (0, .ref (g.1 p))]) hC dX2_placeRow_15 rfl (by decide) (z_isr_o _) rfl ?_
  refine z_iconst (pc := 16) (v := 0) hC dX2_placeRow_16 rfl ?_
  refine z_istore_n (pc := 17) (lv' := [(3, .int 0), (2, va_rf (Option.map g.1 ((sKids σ p)[0]?))), (1, .int ((I p 13) + (sSt σ p 5))), (0, .ref (g.1 p))]) hC dX2_placeRow_17 rfl (by decide) (by first | (simp [z_catO]; done) | (simp [z_catO, z_catR, z_catI, z_catN, z_catL]; done) | (simp [z_catO, z_catR, z_catI, z_catN, z_catL]; decide)) ?_
  have L18 : ∀ (zf : Nat) (a l : Nat) (Ir : Nat → Nat → Int32) (ha : a ≤ kn σ p) (hal : a < kn σ p → zbeg (sLn σ (sNW σ) p (sWD σ p)) a = a ∧ (sLn σ (sNW σ) p (sWD σ p)) a = l) (hset : zsetv [15, 12, 13] (sKids σ p) 0 a (zrv σ p I) I Ir), kn σ p - a < zf → zJ C g N 6 0 0 Ir P J 18 [(3, .int (nI l)), (2, va_rf (Option.map g.1 ((sKids σ p)[a]?))), (1, .int (I p 13 + sSt σ p 5 + zsum (fun l => sHg σ p (sHT σ p) l + sSt σ p 4) l)), (0, .ref (g.1 p))] [] := by
    intro zf
    induction zf with
    | zero =>
      intro a l Ir ha hal hset hn2
      exact absurd hn2 (Nat.not_lt_zero _)
    | succ zf ih =>
      intro a l Ir ha hal hset hn2
      have hly := hset.lay ht.1 (by decide)
      have htr := ht.lay hly
      have hlr := hl.lay hly
      have hWr : Ir p 14 = sWD σ p := (hset.own ht.1 14).trans hW
      have hHr : Ir p 15 = sHT σ p := (hset.own ht.1 15).trans hH
      have hkr : ∀ k, k ∈ sKids σ p → Ir k 14 = sWD σ k := fun k hk => (hset.oth (by decide)).trans (hkw k hk)
      have hnr : ∀ k, k ∈ sKids σ p → Ir k 11 = sNH σ k := fun k hk => (hset.oth (by decide)).trans (hnh k hk)
      refine z_iload_n (pc := 18) hC 0 dX2_placeRow_18 rfl rfl ?_
      refine z_aload_n (pc := 19) hC 3 dX2_placeRow_19 rfl rfl z_isr_r ?_
      refine z_gI (pc := 20) hC 0 16 (x := lc) (z_shb (zTr_lt ht he)) (z_ltb hC (zTr_lt ht he)) rfl inX0 (by decide) rfl zm_1_78 ((hset.own ht.1 16).trans hlv) dX2_placeRow_20 ?_
      refine z_icmp_ge (pc := 23) (tgt := 88) hC dX2_placeRow_23 (by decide) (fun h23 => ?_) (fun h23 => ?_)
      · skip
        have g23 := Int32.not_lt.mpr h23
        have ea : a = kn σ p := by
          by_cases e : kn σ p = 0
          · omega
          · exact zln_end ht.1 ha hal (by rw [← hlc e]; exact h23)
        exact z_vret (pc := 88) hC hE dX2_placeRow_88 (by subst ea; exact zrv_end hset)
      · skip
        have g23 := Int32.not_le.mp h23
        refine z_aload_n (pc := 26) hC 1 dX2_placeRow_26 rfl rfl (z_isr_o _) ?_
        refine z_ifnull (pc := 27) (tgt := 88) hC dX2_placeRow_27 (by decide) (fun h27 => ?_) (fun a27 h27 => ?_)
        · skip
          rw [h27]
          show zJ C g N 6 0 0 Ir P J 88 [(3, .int (nI l)), (2, .null), (1, .int (I p 13 + sSt σ p 5 + zsum (fun l => sHg σ p (sHT σ p) l + sSt σ p 4) l)), (0, .ref (g.1 p))] []
          have ea : a = kn σ p := Nat.le_antisymm ha (List.getElem?_eq_none_iff.mp h27)
          exact z_vret (pc := 88) hC hE dX2_placeRow_88 (by subst ea; exact zrv_end hset)
        · skip
          rw [h27]
          show zJ C g N 6 0 0 Ir P J 30 [(3, .int (nI l)), (2, .ref (g.1 a27)), (1, .int (I p 13 + sSt σ p 5 + zsum (fun l => sHg σ p (sHT σ p) l + sSt σ p 4) l)), (0, .ref (g.1 p))] []
          obtain ⟨hkd27, hik27, hmem27⟩ := sKids_get h27
          have hx27 := sKids_lt ht.1 hmem27
          refine z_aload_n (pc := 30) hC 1 dX2_placeRow_30 rfl rfl z_isr_r ?_
          refine z_cS (pc := 31) (st := []) hC [.ref (g.1 a27)] ((kX2_lineEnd C.2.1 g N Ir P J (sKids σ p) (fun x hx => (sKids_lt ht.1 hx).2.1) ((zLk_seg hl (zTr_lt ht he)).1) (sLn σ (sNW σ) p (sWD σ p)) (fun i hi => Nat.lt_of_le_of_lt (zstep_le (sLn_step σ (sNW σ) p (sWD σ p)) i) (by have q9 : i < kn σ p := hi; have := kn_le ht.1 p; omega)) (fun i x hx => (hset.oth (by decide)).trans (hkl i x hx)) a a27 h27 hik27 hx27.2.1)) zkX2_lineEnd zm_2_177 ⟨rfl, rfl⟩ rfl rfl hRm ⟨Nat.le_of_ble_eq_true rfl, Nat.le_of_ble_eq_true rfl⟩ (Nat.le_of_ble_eq_true rfl) ⟨Nat.zero_le _, Nat.zero_le _⟩ dX2_placeRow_31 ?_
          refine z_astore (pc := 34) (lv' := [(4, va_rf (Option.map g.1 ((sKids σ p)[(zend (sLn σ (sNW σ) p (sWD σ p)) (kn σ p) a)]?))), (3, .int (nI l)), (2, .ref (g.1 a27)), (1, .int (I p 13 + sSt σ p 5 + zsum (fun l => sHg σ p (sHT σ p) l + sSt σ p 4) l)), (0, .ref (g.1 p))]) hC dX2_placeRow_34 (by decide) (z_isr_o _) rfl ?_
          refine z_aload_n (pc := 36) hC 4 dX2_placeRow_36 rfl rfl z_isr_r ?_
          refine z_cV (pc := 37) (st := []) hC [] (kX0_wraps C.2.1 g N Ir P J p (zTr_lt ht he) (sSt σ p 1) (zTr_st htr he (by decide))) (z_shb (zTr_lt ht he)) (z_ltb hC (zTr_lt ht he)) rfl zkX0_wraps zm_2_173 ⟨rfl, rfl⟩ rfl rfl hRm ⟨Nat.le_of_ble_eq_true rfl, Nat.le_of_ble_eq_true rfl⟩ (Nat.le_of_ble_eq_true rfl) ⟨Nat.zero_le _, Nat.zero_le _⟩ dX2_placeRow_37 ?_
          refine z_if_eq (pc := 40) (tgt := 52) hC dX2_placeRow_40 (by decide) (fun h40 => ?_) (fun h40 => ?_)
          · skip
            have g40 := zB_f h40
            have q40 := of_decide_eq_false g40
            refine z_aload_n (pc := 52) hC 4 dX2_placeRow_52 rfl rfl z_isr_r ?_
            refine z_cV (pc := 53) (st := []) hC [] (kSX0_innerHeight C.2.1 g N Ir P J htr p he (sHT σ p) hHr) (z_shb (zTr_lt ht he)) (z_ltb hC (zTr_lt ht he)) rfl zkX0_innerHeight zm_3_7 ⟨rfl, rfl⟩ rfl rfl hRm ⟨Nat.le_of_ble_eq_true rfl, Nat.le_of_ble_eq_true rfl⟩ (Nat.le_of_ble_eq_true rfl) ⟨Nat.zero_le _, Nat.zero_le _⟩ dX2_placeRow_53 ?_
            rw [show sIn (sHT σ p) (sSt σ p 5) = sHg σ p (sHT σ p) l by unfold sHg; rw [if_neg q40]]
            refine z_istore (pc := 56) (lv' := [(5, .int (sHg σ p (sHT σ p) l)), (4, va_rf (Option.map g.1 ((sKids σ p)[(zend (sLn σ (sNW σ) p (sWD σ p)) (kn σ p) a)]?))), (3, .int (nI l)), (2, .ref (g.1 a27)), (1, .int (I p 13 + sSt σ p 5 + zsum (fun l => sHg σ p (sHT σ p) l + sSt σ p 4) l)), (0, .ref (g.1 p))]) hC dX2_placeRow_56 (by decide) (by first | (simp [z_catO]; done) | (simp [z_catO, z_catR, z_catI, z_catN, z_catL]; done) | (simp [z_catO, z_catR, z_catI, z_catN, z_catL]; decide)) ?_
            refine z_aload_n (pc := 58) hC 5 dX2_placeRow_58 rfl rfl z_isr_r ?_
            refine z_aload_n (pc := 59) hC 3 dX2_placeRow_59 rfl rfl z_isr_r ?_
            refine z_aload (pc := 60) hC 1 dX2_placeRow_60 rfl (z_isr_o _) ?_
            refine z_iload_n (pc := 62) hC 4 dX2_placeRow_62 rfl rfl ?_
            refine z_iload (pc := 63) hC 0 dX2_placeRow_63 rfl ?_
            have k65 := kX2_placeLine C.2.1 g N Ir P J htr hlr p he hWr hkr hnr a (zend (sLn σ (sNW σ) p (sWD σ p)) (kn σ p) a) (Nat.le_of_lt (zend_spec hik27).1) (zend_spec hik27).2.1 (I p 13 + sSt σ p 5 + zsum (fun l => sHg σ p (sHT σ p) l + sSt σ p 4) l) (sHg σ p (sHT σ p) l)
            rw [h27] at k65
            refine z_callS (pc := 65) (st := []) hC [.ref (g.1 p), .ref (g.1 a27), va_rf (Option.map g.1 ((sKids σ p)[(zend (sLn σ (sNW σ) p (sWD σ p)) (kn σ p) a)]?)), .int (I p 13 + sSt σ p 5 + zsum (fun l => sHg σ p (sHT σ p) l + sSt σ p 4) l), .int (sHg σ p (sHT σ p) l)] (k65) zkX2_placeLine zm_3_20 ⟨rfl, rfl⟩ rfl rfl hRm ⟨Nat.le_of_ble_eq_true rfl, Nat.le_of_ble_eq_true rfl⟩ (Nat.le_of_ble_eq_true rfl) ⟨Nat.zero_le _, Nat.zero_le _⟩ dX2_placeRow_65 ?_
            intro v I3 P2 J2 hq
            obtain ⟨hv, hP2, hJ2, hs3⟩ := hq
            subst hv
            rw [hP2, hJ2]
            rw [hset.own ht.1 12] at hs3
            have hset3 := zsetv_app sKids_nd (Nat.zero_le _) (Nat.le_of_lt (zend_spec hik27).1) hset hs3 (fun k k1 k2 j hj => zrv_line ht.1 hrow hik27 (hal hik27) rfl rfl k k1 k2 j hj)
            have htr3 := ht.lay (hset3.lay ht.1 (by decide))
            show zJ C g N 6 0 0 I3 P J 68 [(5, .int (sHg σ p (sHT σ p) l)), (4, va_rf (Option.map g.1 ((sKids σ p)[(zend (sLn σ (sNW σ) p (sWD σ p)) (kn σ p) a)]?))), (3, .int (nI l)), (2, .ref (g.1 a27)), (1, .int (I p 13 + sSt σ p 5 + zsum (fun l => sHg σ p (sHT σ p) l + sSt σ p 4) l)), (0, .ref (g.1 p))] []
            refine z_iload_n (pc := 68) hC 4 dX2_placeRow_68 rfl rfl ?_
            refine z_iload (pc := 69) hC 0 dX2_placeRow_69 rfl ?_
            refine z_aload_n (pc := 71) hC 5 dX2_placeRow_71 rfl rfl z_isr_r ?_
            refine z_iconst (pc := 72) (v := 4) hC dX2_placeRow_72 rfl ?_
            refine z_cV (pc := 73) (st := [.int (sHg σ p (sHT σ p) l), .int (I p 13 + sSt σ p 5 + zsum (fun l => sHg σ p (sHT σ p) l + sSt σ p 4) l)]) hC [.int 4] (kX0_of C.2.1 g N I3 P J p 4 (zTr_lt ht he) (by decide) 4 rfl (sSt σ p 4) (zTr_st htr3 he (by decide))) (z_shb (zTr_lt ht he)) (z_ltb hC (zTr_lt ht he)) rfl zkX0_of zm_2_125 ⟨rfl, rfl⟩ rfl rfl hRm ⟨Nat.le_of_ble_eq_true rfl, Nat.le_of_ble_eq_true rfl⟩ (Nat.le_of_ble_eq_true rfl) ⟨Nat.zero_le _, Nat.zero_le _⟩ dX2_placeRow_73 ?_
            refine z_iadd (pc := 76) hC dX2_placeRow_76 ?_
            refine z_iadd (pc := 77) hC dX2_placeRow_77 ?_
            rw [show (I p 13 + sSt σ p 5 + zsum (fun l => sHg σ p (sHT σ p) l + sSt σ p 4) l) + ((sHg σ p (sHT σ p) l) + (sSt σ p 4)) = I p 13 + sSt σ p 5 + zsum (fun l => sHg σ p (sHT σ p) l + sSt σ p 4) (l + 1) from Int32.add_assoc _ _ _]
            refine z_istore_n (pc := 78) (lv' := [(1, .int (I p 13 + sSt σ p 5 + zsum (fun l => sHg σ p (sHT σ p) l + sSt σ p 4) (l + 1))), (5, .int (sHg σ p (sHT σ p) l)), (4, va_rf (Option.map g.1 ((sKids σ p)[(zend (sLn σ (sNW σ) p (sWD σ p)) (kn σ p) a)]?))), (3, .int (nI l)), (2, .ref (g.1 a27)), (0, .ref (g.1 p))]) hC dX2_placeRow_78 rfl (by decide) rfl ?_
            refine z_aload (pc := 79) hC 2 dX2_placeRow_79 rfl (z_isr_o _) ?_
            refine z_astore_n (pc := 81) (lv' := [(2, va_rf (Option.map g.1 ((sKids σ p)[(zend (sLn σ (sNW σ) p (sWD σ p)) (kn σ p) a)]?))), (1, .int (I p 13 + sSt σ p 5 + zsum (fun l => sHg σ p (sHT σ p) l + sSt σ p 4) (l + 1))), (5, .int (sHg σ p (sHT σ p) l)), (4, va_rf (Option.map g.1 ((sKids σ p)[(zend (sLn σ (sNW σ) p (sWD σ p)) (kn σ p) a)]?))), (3, .int (nI l)), (0, .ref (g.1 p))]) hC dX2_placeRow_81 rfl (by decide) (z_isr_o _) rfl ?_
            refine z_iinc (pc := 82) (v := nI (l + 1)) (lv' := [(3, .int (nI (l + 1))), (2, va_rf (Option.map g.1 ((sKids σ p)[(zend (sLn σ (sNW σ) p (sWD σ p)) (kn σ p) a)]?))), (1, .int (I p 13 + sSt σ p 5 + zsum (fun l => sHg σ p (sHT σ p) l + sSt σ p 4) (l + 1))), (5, .int (sHg σ p (sHT σ p) l)), (4, va_rf (Option.map g.1 ((sKids σ p)[(zend (sLn σ (sNW σ) p (sWD σ p)) (kn σ p) a)]?))), (0, .ref (g.1 p))]) hC 4 dX2_placeRow_82 rfl (nI_1 l) (by decide) (by first | (simp [z_catO]; done) | (simp [z_catO, z_catR, z_catI, z_catN, z_catL]; done) | (simp [z_catO, z_catR, z_catI, z_catN, z_catL]; decide)) ?_
            refine z_goto (pc := 85) (tgt := 18) hC dX2_placeRow_85 (by decide) ?_
            refine z_lvs (lv' := [(3, .int (nI (l + 1))), (2, va_rf (Option.map g.1 ((sKids σ p)[(zend (sLn σ (sNW σ) p (sWD σ p)) (kn σ p) a)]?))), (1, .int (I p 13 + sSt σ p 5 + zsum (fun l => sHg σ p (sHT σ p) l + sSt σ p 4) (l + 1))), (0, .ref (g.1 p))]) [0, 1, 2, 5] rfl ?_
            exact ih (zend (sLn σ (sNW σ) p (sWD σ p)) (kn σ p) a) (l + 1) I3 (zend_spec hik27).2.1 (zln_next hik27 hal) hset3 (by have := (zend_spec (ln := (sLn σ (sNW σ) p (sWD σ p))) hik27).1; omega)
          · skip
            have g40 := zB_t h40
            have q40 := of_decide_eq_true g40
            refine z_aload_n (pc := 43) hC 2 dX2_placeRow_43 rfl rfl z_isr_r ?_
            refine z_aload (pc := 44) hC 0 dX2_placeRow_44 rfl (z_isr_o _) ?_
            have k46 := kX2_lineHeight C.2.1 g N Ir P J htr hlr p he (sNH σ) hnr a (zend (sLn σ (sNW σ) p (sWD σ p)) (kn σ p) a) (Nat.le_of_lt (zend_spec hik27).1) (zend_spec hik27).2.1
            rw [h27, ← sLH_line hik27 (hal hik27)] at k46
            refine z_cS (pc := 46) (st := []) hC [.ref (g.1 a27), va_rf (Option.map g.1 ((sKids σ p)[(zend (sLn σ (sNW σ) p (sWD σ p)) (kn σ p) a)]?))] (k46) zkX2_lineHeight zm_2_236 ⟨rfl, rfl⟩ rfl rfl hRm ⟨Nat.le_of_ble_eq_true rfl, Nat.le_of_ble_eq_true rfl⟩ (Nat.le_of_ble_eq_true rfl) ⟨Nat.zero_le _, Nat.zero_le _⟩ dX2_placeRow_46 ?_
            refine z_goto (pc := 49) (tgt := 56) hC dX2_placeRow_49 (by decide) ?_
            rw [show sLH σ (sNH σ) p (sWD σ p) l = sHg σ p (sHT σ p) l by unfold sHg; rw [if_pos q40]]
            refine z_istore (pc := 56) (lv' := [(5, .int (sHg σ p (sHT σ p) l)), (4, va_rf (Option.map g.1 ((sKids σ p)[(zend (sLn σ (sNW σ) p (sWD σ p)) (kn σ p) a)]?))), (3, .int (nI l)), (2, .ref (g.1 a27)), (1, .int (I p 13 + sSt σ p 5 + zsum (fun l => sHg σ p (sHT σ p) l + sSt σ p 4) l)), (0, .ref (g.1 p))]) hC dX2_placeRow_56 (by decide) (by first | (simp [z_catO]; done) | (simp [z_catO, z_catR, z_catI, z_catN, z_catL]; done) | (simp [z_catO, z_catR, z_catI, z_catN, z_catL]; decide)) ?_
            refine z_aload_n (pc := 58) hC 5 dX2_placeRow_58 rfl rfl z_isr_r ?_
            refine z_aload_n (pc := 59) hC 3 dX2_placeRow_59 rfl rfl z_isr_r ?_
            refine z_aload (pc := 60) hC 1 dX2_placeRow_60 rfl (z_isr_o _) ?_
            refine z_iload_n (pc := 62) hC 4 dX2_placeRow_62 rfl rfl ?_
            refine z_iload (pc := 63) hC 0 dX2_placeRow_63 rfl ?_
            have k65 := kX2_placeLine C.2.1 g N Ir P J htr hlr p he hWr hkr hnr a (zend (sLn σ (sNW σ) p (sWD σ p)) (kn σ p) a) (Nat.le_of_lt (zend_spec hik27).1) (zend_spec hik27).2.1 (I p 13 + sSt σ p 5 + zsum (fun l => sHg σ p (sHT σ p) l + sSt σ p 4) l) (sHg σ p (sHT σ p) l)
            rw [h27] at k65
            refine z_callS (pc := 65) (st := []) hC [.ref (g.1 p), .ref (g.1 a27), va_rf (Option.map g.1 ((sKids σ p)[(zend (sLn σ (sNW σ) p (sWD σ p)) (kn σ p) a)]?)), .int (I p 13 + sSt σ p 5 + zsum (fun l => sHg σ p (sHT σ p) l + sSt σ p 4) l), .int (sHg σ p (sHT σ p) l)] (k65) zkX2_placeLine zm_3_20 ⟨rfl, rfl⟩ rfl rfl hRm ⟨Nat.le_of_ble_eq_true rfl, Nat.le_of_ble_eq_true rfl⟩ (Nat.le_of_ble_eq_true rfl) ⟨Nat.zero_le _, Nat.zero_le _⟩ dX2_placeRow_65 ?_
            intro v I3 P2 J2 hq
            obtain ⟨hv, hP2, hJ2, hs3⟩ := hq
            subst hv
            rw [hP2, hJ2]
            rw [hset.own ht.1 12] at hs3
            have hset3 := zsetv_app sKids_nd (Nat.zero_le _) (Nat.le_of_lt (zend_spec hik27).1) hset hs3 (fun k k1 k2 j hj => zrv_line ht.1 hrow hik27 (hal hik27) rfl rfl k k1 k2 j hj)
            have htr3 := ht.lay (hset3.lay ht.1 (by decide))
            show zJ C g N 6 0 0 I3 P J 68 [(5, .int (sHg σ p (sHT σ p) l)), (4, va_rf (Option.map g.1 ((sKids σ p)[(zend (sLn σ (sNW σ) p (sWD σ p)) (kn σ p) a)]?))), (3, .int (nI l)), (2, .ref (g.1 a27)), (1, .int (I p 13 + sSt σ p 5 + zsum (fun l => sHg σ p (sHT σ p) l + sSt σ p 4) l)), (0, .ref (g.1 p))] []
            refine z_iload_n (pc := 68) hC 4 dX2_placeRow_68 rfl rfl ?_
            refine z_iload (pc := 69) hC 0 dX2_placeRow_69 rfl ?_
            refine z_aload_n (pc := 71) hC 5 dX2_placeRow_71 rfl rfl z_isr_r ?_
            refine z_iconst (pc := 72) (v := 4) hC dX2_placeRow_72 rfl ?_
            refine z_cV (pc := 73) (st := [.int (sHg σ p (sHT σ p) l), .int (I p 13 + sSt σ p 5 + zsum (fun l => sHg σ p (sHT σ p) l + sSt σ p 4) l)]) hC [.int 4] (kX0_of C.2.1 g N I3 P J p 4 (zTr_lt ht he) (by decide) 4 rfl (sSt σ p 4) (zTr_st htr3 he (by decide))) (z_shb (zTr_lt ht he)) (z_ltb hC (zTr_lt ht he)) rfl zkX0_of zm_2_125 ⟨rfl, rfl⟩ rfl rfl hRm ⟨Nat.le_of_ble_eq_true rfl, Nat.le_of_ble_eq_true rfl⟩ (Nat.le_of_ble_eq_true rfl) ⟨Nat.zero_le _, Nat.zero_le _⟩ dX2_placeRow_73 ?_
            refine z_iadd (pc := 76) hC dX2_placeRow_76 ?_
            refine z_iadd (pc := 77) hC dX2_placeRow_77 ?_
            rw [show (I p 13 + sSt σ p 5 + zsum (fun l => sHg σ p (sHT σ p) l + sSt σ p 4) l) + ((sHg σ p (sHT σ p) l) + (sSt σ p 4)) = I p 13 + sSt σ p 5 + zsum (fun l => sHg σ p (sHT σ p) l + sSt σ p 4) (l + 1) from Int32.add_assoc _ _ _]
            refine z_istore_n (pc := 78) (lv' := [(1, .int (I p 13 + sSt σ p 5 + zsum (fun l => sHg σ p (sHT σ p) l + sSt σ p 4) (l + 1))), (5, .int (sHg σ p (sHT σ p) l)), (4, va_rf (Option.map g.1 ((sKids σ p)[(zend (sLn σ (sNW σ) p (sWD σ p)) (kn σ p) a)]?))), (3, .int (nI l)), (2, .ref (g.1 a27)), (0, .ref (g.1 p))]) hC dX2_placeRow_78 rfl (by decide) rfl ?_
            refine z_aload (pc := 79) hC 2 dX2_placeRow_79 rfl (z_isr_o _) ?_
            refine z_astore_n (pc := 81) (lv' := [(2, va_rf (Option.map g.1 ((sKids σ p)[(zend (sLn σ (sNW σ) p (sWD σ p)) (kn σ p) a)]?))), (1, .int (I p 13 + sSt σ p 5 + zsum (fun l => sHg σ p (sHT σ p) l + sSt σ p 4) (l + 1))), (5, .int (sHg σ p (sHT σ p) l)), (4, va_rf (Option.map g.1 ((sKids σ p)[(zend (sLn σ (sNW σ) p (sWD σ p)) (kn σ p) a)]?))), (3, .int (nI l)), (0, .ref (g.1 p))]) hC dX2_placeRow_81 rfl (by decide) (z_isr_o _) rfl ?_
            refine z_iinc (pc := 82) (v := nI (l + 1)) (lv' := [(3, .int (nI (l + 1))), (2, va_rf (Option.map g.1 ((sKids σ p)[(zend (sLn σ (sNW σ) p (sWD σ p)) (kn σ p) a)]?))), (1, .int (I p 13 + sSt σ p 5 + zsum (fun l => sHg σ p (sHT σ p) l + sSt σ p 4) (l + 1))), (5, .int (sHg σ p (sHT σ p) l)), (4, va_rf (Option.map g.1 ((sKids σ p)[(zend (sLn σ (sNW σ) p (sWD σ p)) (kn σ p) a)]?))), (0, .ref (g.1 p))]) hC 4 dX2_placeRow_82 rfl (nI_1 l) (by decide) (by first | (simp [z_catO]; done) | (simp [z_catO, z_catR, z_catI, z_catN, z_catL]; done) | (simp [z_catO, z_catR, z_catI, z_catN, z_catL]; decide)) ?_
            refine z_goto (pc := 85) (tgt := 18) hC dX2_placeRow_85 (by decide) ?_
            refine z_lvs (lv' := [(3, .int (nI (l + 1))), (2, va_rf (Option.map g.1 ((sKids σ p)[(zend (sLn σ (sNW σ) p (sWD σ p)) (kn σ p) a)]?))), (1, .int (I p 13 + sSt σ p 5 + zsum (fun l => sHg σ p (sHT σ p) l + sSt σ p 4) (l + 1))), (0, .ref (g.1 p))]) [0, 1, 2, 5] rfl ?_
            exact ih (zend (sLn σ (sNW σ) p (sWD σ p)) (kn σ p) a) (l + 1) I3 (zend_spec hik27).2.1 (zln_next hik27 hal) hset3 (by have := (zend_spec (ln := (sLn σ (sNW σ) p (sWD σ p))) hik27).1; omega)
  have L0 := L18 (kn σ p + 1) 0 0 _ (Nat.zero_le _) (fun _ => ⟨rfl, (sLn_step σ (sNW σ) p (sWD σ p)).1⟩) (zsetv_0 _ _ _ _ _) (by omega)
  rw [show I p 13 + sSt σ p 5 + zsum (fun l => sHg σ p (sHT σ p) l + sSt σ p 4) 0 = I p 13 + sSt σ p 5 from Int32.add_zero _] at L0
  exact L0
set_option maxHeartbeats 4000000 in
set_option maxRecDepth 100000 in
theorem kX2_placeColumn (lx : Launch) (g : zG) (N : Nat) (I : Nat → Nat → Int32) (P : Nat → Nat → Option Nat) (J : Nat → Nat → Int64) {σ : zS} (ht : zTr σ I P) (hl : zLk σ I P) (p : Nat) (he : sEx σ p = true) (hcol : sSt σ p 0 = 1) (hW : I p 14 = sWD σ p) (hkw : ∀ k, k ∈ sKids σ p → I k 14 = sWD σ k) (hnh : ∀ k, k ∈ sKids σ p → I k 11 = sNH σ k) (hH : I p 15 = sHT σ p) : z_Ct lx yX2_placeColumn (zT yX2_placeColumn cX2_placeColumn 8 (Option.none : Option FieldType)) ({ frames := 4, cells := 0, slots := 0, locals := 114 } : Room) g N I P J [.ref (g.1 82), .ref (g.1 p)] (zplcQ σ p I P J) 0 0 := by
  refine z_of (by decide) (Nat.le_of_ble_eq_true rfl) (lv0 := [(0, .ref (g.1 82)), (1, .ref (g.1 p))]) rfl ?_
  intro C hlx hC hE hRm
  have hC : zX C cX2_placeColumn 8 RX2 (zT yX2_placeColumn cX2_placeColumn 8 (Option.none : Option FieldType)) g N := hC
  refine z_aload_n (pc := 0) hC 0 dX2_placeColumn_0 rfl rfl z_isr_r ?_
  refine z_aload_n (pc := 1) hC 1 dX2_placeColumn_1 rfl rfl z_isr_r ?_
  refine z_gP (pc := 2) hC 0 6 (v := va_rf (Option.map g.1 ((sKids σ p)[0]?))) (z_shb (zTr_lt ht he)) (z_ltb hC (zTr_lt ht he)) rfl inX0 (by decide) rfl zm_1_52 (by rw [(zLk_seg hl (zTr_lt ht he)).2]) dX2_placeColumn_2 ?_
  refine z_null (pc := 5) hC dX2_placeColumn_5 ?_
  refine z_iconst (pc := 6) (v := 0) hC dX2_placeColumn_6 rfl ?_
  refine z_aload_n (pc := 7) hC 1 dX2_placeColumn_7 rfl rfl z_isr_r ?_
  refine z_cV (pc := 8) (st := [.int 0, .null, va_rf (Option.map g.1 ((sKids σ p)[0]?)), .ref (g.1 82)]) hC [] (kSX0_innerHeight C.2.1 g N I P J ht p he (sHT σ p) hH) (z_shb (zTr_lt ht he)) (z_ltb hC (zTr_lt ht he)) rfl zkX0_innerHeight zm_3_7 ⟨rfl, rfl⟩ rfl rfl hRm ⟨Nat.le_of_ble_eq_true rfl, Nat.le_of_ble_eq_true rfl⟩ (by simp [z_catO, z_catR, z_catI, z_catL, z_catN]) ⟨Nat.zero_le _, Nat.zero_le _⟩ dX2_placeColumn_8 ?_
  refine z_aload_n (pc := 11) hC 1 dX2_placeColumn_11 rfl rfl z_isr_r ?_
  refine z_iconst (pc := 12) (v := 4) hC dX2_placeColumn_12 rfl ?_
  refine z_cV (pc := 13) (st := [.int (sIn (sHT σ p) (sSt σ p 5)), .int 0, .null, va_rf (Option.map g.1 ((sKids σ p)[0]?)), .ref (g.1 82)]) hC [.int 4] (kX0_of C.2.1 g N I P J p 4 (zTr_lt ht he) (by decide) 4 rfl (sSt σ p 4) (zTr_st ht he (by decide))) (z_shb (zTr_lt ht he)) (z_ltb hC (zTr_lt ht he)) rfl zkX0_of zm_2_125 ⟨rfl, rfl⟩ rfl rfl hRm ⟨Nat.le_of_ble_eq_true rfl, Nat.le_of_ble_eq_true rfl⟩ (by simp [z_catO, z_catR, z_catI, z_catL, z_catN]) ⟨Nat.zero_le _, Nat.zero_le _⟩ dX2_placeColumn_13 ?_
  have k16 := kX2_flexKidsF C.2.1 g N I P J (sKids σ p) (fun x hx => (sKids_lt ht.1 hx).2.1) sKids_nd ((zLk_seg hl (zTr_lt ht he)).1) (kn_le ht.1 p) 0 (kn σ p) (Nat.zero_le _) (Nat.le_refl _) (sIn (sHT σ p) (sSt σ p 5)) (sSt σ p 4) (zflex_pos ht false hnh (sNH_bd ht.1 p) (Nat.le_refl _)).1 (zflex_pos ht false hnh (sNH_bd ht.1 p) (Nat.le_refl _)).2
  rw [show (sKids σ p)[kn σ p]? = none from List.getElem?_eq_none (Nat.le_refl _)] at k16
  refine z_callV (pc := 16) (st := []) hC [va_rf (Option.map g.1 ((sKids σ p)[0]?)), .null, .int 0, .int (sIn (sHT σ p) (sSt σ p 5)), .int (sSt σ p 4)] (k16) rfl (z_lt hC (by decide)) rfl zkX2_flexKids zm_2_180 ⟨rfl, rfl⟩ rfl rfl hRm ⟨Nat.le_of_ble_eq_true rfl, Nat.le_of_ble_eq_true rfl⟩ (Nat.le_of_ble_eq_true rfl) ⟨Nat.zero_le _, Nat.zero_le _⟩ dX2_placeColumn_16 ?_
  intro v I2 P2 J2 hq
  obtain ⟨hv, hP2, hJ2, hfr, hsz⟩ := hq
  subst hv
  rw [hP2, hJ2]
  have hf : ∀ q j, ¬ (q = 83 ∧ (j = 9 ∨ j = 10)) → ¬ (86 ≤ q ∧ q ≤ 94) → ¬ (j = 15 ∧ q ∈ sKids σ p) → I2 q j = I q j := fun q j h1 h2 h3 => hfr q j h1 h2 (fun y => h3 ⟨y.1, by obtain ⟨_, k, _, _, y2⟩ := y; exact List.mem_of_getElem? y2⟩)
  have hh : ∀ i q, (sKids σ p)[i]? = some q → I2 q 15 = sKH σ p (sHT σ p) i := fun i q hq => (hsz i q (Nat.zero_le _) (sKids_get hq).2.1 hq).trans ((zflex_S ht false hnh (Nat.le_refl _) _ rfl (Nat.zero_le _) (sKids_get hq).2.1).trans (by unfold sKH; rw [if_pos hcol]))
  have hp40 := zTr_lt ht he
  have hly : zLay I I2 := fun q j hk => hf q j (fun z => by unfold zKeep at hk; omega) (fun z => by unfold zKeep at hk; omega) (fun z => by have := (sKids_lt ht.1 z.2).2.1; unfold zKeep at hk; omega)
  have ht2 := ht.lay hly
  have hl2 := hl.lay hly
  have hpI : ∀ j, I2 p j = I p j := fun j => hf p j (by omega) (by omega) (fun z => sPn ht.1 z.2)
  have hhk : ∀ d q, (sKids σ p)[d]? = some q → I2 q 15 = sHT σ q := fun d q hq => (hh d q hq).trans ((sHT_kd ht.1 (sKids_get hq).2.1).symm.trans (by rw [(sKids_get hq).1]))
  show zJ C g N 8 0 0 I2 P J 19 [(0, .ref (g.1 82)), (1, .ref (g.1 p))] []
  refine z_aload_n (pc := 19) hC 1 dX2_placeColumn_19 rfl rfl z_isr_r ?_
  refine z_cV (pc := 20) (st := []) hC [] (kSX0_innerHeight C.2.1 g N I2 P J ht2 p he (sHT σ p) ((hpI 15).trans hH)) (z_shb (zTr_lt ht he)) (z_ltb hC (zTr_lt ht he)) rfl zkX0_innerHeight zm_3_7 ⟨rfl, rfl⟩ rfl rfl hRm ⟨Nat.le_of_ble_eq_true rfl, Nat.le_of_ble_eq_true rfl⟩ (Nat.le_of_ble_eq_true rfl) ⟨Nat.zero_le _, Nat.zero_le _⟩ dX2_placeColumn_20 ?_
  refine z_aload_n (pc := 23) hC 1 dX2_placeColumn_23 rfl rfl z_isr_r ?_
  refine z_gI (pc := 24) hC 0 8 (x := nI (kn σ p)) (z_shb (zTr_lt ht he)) (z_ltb hC (zTr_lt ht he)) rfl inX0 (by decide) rfl zm_1_58 ((hl2.1 p (zTr_lt ht he)).2.2.1) dX2_placeColumn_24 ?_
  refine z_aload_n (pc := 27) hC 1 dX2_placeColumn_27 rfl rfl z_isr_r ?_
  refine z_iconst (pc := 28) (v := 4) hC dX2_placeColumn_28 rfl ?_
  refine z_cV (pc := 29) (st := [.int (nI (kn σ p)), .int (sIn (sHT σ p) (sSt σ p 5))]) hC [.int 4] (kX0_of C.2.1 g N I2 P J p 4 (zTr_lt ht he) (by decide) 4 rfl (sSt σ p 4) (zTr_st ht2 he (by decide))) (z_shb (zTr_lt ht he)) (z_ltb hC (zTr_lt ht he)) rfl zkX0_of zm_2_125 ⟨rfl, rfl⟩ rfl rfl hRm ⟨Nat.le_of_ble_eq_true rfl, Nat.le_of_ble_eq_true rfl⟩ (Nat.le_of_ble_eq_true rfl) ⟨Nat.zero_le _, Nat.zero_le _⟩ dX2_placeColumn_29 ?_
  refine z_cSN (pc := 32) (st := [.int (sIn (sHT σ p) (sSt σ p 5))]) hC [.int (nI (kn σ p)), .int (sSt σ p 4)] (kX5_gaps C.2.1 g N I2 P J (nI (kn σ p)) (sSt σ p 4)) zkX5_gaps (hC.2.2.2.2.2.1.2.2.2.2.2.2.1) ⟨rfl, rfl⟩ rfl rfl hRm ⟨Nat.le_of_ble_eq_true rfl, Nat.le_of_ble_eq_true rfl⟩ (Nat.le_of_ble_eq_true rfl) ⟨Nat.zero_le _, Nat.zero_le _⟩ dX2_placeColumn_32 ?_
  refine z_isub (pc := 35) hC dX2_placeColumn_35 ?_
  refine z_istore_n (pc := 36) (lv' := [(2, .int ((sIn (sHT σ p) (sSt σ p 5)) - (zgap (nI (kn σ p)) (sSt σ p 4)))), (0, .ref (g.1 82)), (1, .ref (g.1 p))]) hC dX2_placeColumn_36 rfl (by decide) rfl ?_
  refine z_aload_n (pc := 37) hC 2 dX2_placeColumn_37 rfl rfl z_isr_r ?_
  refine z_gP (pc := 38) hC 0 6 (v := va_rf (Option.map g.1 ((sKids σ p)[0]?))) (z_shb (zTr_lt ht he)) (z_ltb hC (zTr_lt ht he)) rfl inX0 (by decide) rfl zm_1_52 (by rw [(zLk_seg hl (zTr_lt ht he)).2]) dX2_placeColumn_38 ?_
  refine z_astore_n (pc := 41) (lv' := [(3, va_rf (Option.map g.1 ((sKids σ p)[0]?))), (2, .int ((sIn (sHT σ p) (sSt σ p 5)) - (zgap (nI (kn σ p)) (sSt σ p 4)))), (0, .ref (g.1 82)), (1, .ref (g.1 p))]) hC dX2_placeColumn_41 rfl (by decide) (z_isr_o _) rfl ?_
  have L42 : ∀ (zf : Nat) (d : Nat) (hd : d ≤ kn σ p), kn σ p - d < zf → zJ C g N 8 0 0 I2 P J 42 [(3, va_rf (Option.map g.1 ((sKids σ p)[d]?))), (2, .int (sIn (sHT σ p) (sSt σ p 5) - zgap (nI (kn σ p)) (sSt σ p 4) - zsum (fun j => sO σ (sHT σ) (kd σ p (0 + j))) d)), (0, .ref (g.1 82)), (1, .ref (g.1 p))] [] := by
    intro zf
    induction zf with
    | zero =>
      intro d hd hn2
      exact absurd hn2 (Nat.not_lt_zero _)
    | succ zf ih =>
      intro d hd hn2
      refine z_aload_n (pc := 42) hC 0 dX2_placeColumn_42 rfl rfl (z_isr_o _) ?_
      refine z_ifnull (pc := 43) (tgt := 66) hC dX2_placeColumn_43 (by decide) (fun h43 => ?_) (fun a43 h43 => ?_)
      · skip
        rw [h43]
        show zJ C g N 8 0 0 I2 P J 66 [(3, .null), (2, .int (sIn (sHT σ p) (sSt σ p 5) - zgap (nI (kn σ p)) (sSt σ p 4) - zsum (fun j => sO σ (sHT σ) (kd σ p (0 + j))) d)), (0, .ref (g.1 82)), (1, .ref (g.1 p))] []
        have ed : d = kn σ p := Nat.le_antisymm hd (List.getElem?_eq_none_iff.mp h43)
        subst ed
        rw [show sIn (sHT σ p) (sSt σ p 5) - zgap (nI (kn σ p)) (sSt σ p 4) - zsum (fun j => sO σ (sHT σ) (kd σ p (0 + j))) (kn σ p) = sFr σ p (sHT σ) (sIn (sHT σ p) (sSt σ p 5)) 0 (kn σ p) from zsc _ _ _]
        refine z_aload_n (pc := 66) hC 3 dX2_placeColumn_66 rfl rfl z_isr_r ?_
        refine z_gI (pc := 67) hC 0 12 (x := I p 12) (z_shb (zTr_lt ht he)) (z_ltb hC (zTr_lt ht he)) rfl inX0 (by decide) rfl zm_1_67 (hpI 12) dX2_placeColumn_67 ?_
        refine z_aload_n (pc := 70) hC 3 dX2_placeColumn_70 rfl rfl z_isr_r ?_
        refine z_iconst (pc := 71) (v := 5) hC dX2_placeColumn_71 rfl ?_
        refine z_cV (pc := 72) (st := [.int (I p 12)]) hC [.int 5] (kX0_of C.2.1 g N I2 P J p 5 (zTr_lt ht he) (by decide) 5 rfl (sSt σ p 5) (zTr_st ht2 he (by decide))) (z_shb (zTr_lt ht he)) (z_ltb hC (zTr_lt ht he)) rfl zkX0_of zm_2_125 ⟨rfl, rfl⟩ rfl rfl hRm ⟨Nat.le_of_ble_eq_true rfl, Nat.le_of_ble_eq_true rfl⟩ (Nat.le_of_ble_eq_true rfl) ⟨Nat.zero_le _, Nat.zero_le _⟩ dX2_placeColumn_72 ?_
        refine z_iadd (pc := 75) hC dX2_placeColumn_75 ?_
        refine z_istore_n (pc := 76) (lv' := [(3, .int ((I p 12) + (sSt σ p 5))), (2, .int (sFr σ p (sHT σ) (sIn (sHT σ p) (sSt σ p 5)) 0 (kn σ p))), (0, .ref (g.1 82)), (1, .ref (g.1 p))]) hC dX2_placeColumn_76 rfl (by decide) rfl ?_
        refine z_aload_n (pc := 77) hC 3 dX2_placeColumn_77 rfl rfl z_isr_r ?_
        refine z_gI (pc := 78) hC 0 13 (x := I p 13) (z_shb (zTr_lt ht he)) (z_ltb hC (zTr_lt ht he)) rfl inX0 (by decide) rfl zm_1_70 (hpI 13) dX2_placeColumn_78 ?_
        refine z_aload_n (pc := 81) hC 3 dX2_placeColumn_81 rfl rfl z_isr_r ?_
        refine z_iconst (pc := 82) (v := 5) hC dX2_placeColumn_82 rfl ?_
        refine z_cV (pc := 83) (st := [.int (I p 13)]) hC [.int 5] (kX0_of C.2.1 g N I2 P J p 5 (zTr_lt ht he) (by decide) 5 rfl (sSt σ p 5) (zTr_st ht2 he (by decide))) (z_shb (zTr_lt ht he)) (z_ltb hC (zTr_lt ht he)) rfl zkX0_of zm_2_125 ⟨rfl, rfl⟩ rfl rfl hRm ⟨Nat.le_of_ble_eq_true rfl, Nat.le_of_ble_eq_true rfl⟩ (Nat.le_of_ble_eq_true rfl) ⟨Nat.zero_le _, Nat.zero_le _⟩ dX2_placeColumn_83 ?_
        refine z_iadd (pc := 86) hC dX2_placeColumn_86 ?_
        refine z_istore (pc := 87) (lv' := [(4, .int ((I p 13) + (sSt σ p 5))), (3, .int ((I p 12) + (sSt σ p 5))), (2, .int (sFr σ p (sHT σ) (sIn (sHT σ p) (sSt σ p 5)) 0 (kn σ p))), (0, .ref (g.1 82)), (1, .ref (g.1 p))]) hC dX2_placeColumn_87 (by decide) rfl ?_
        refine z_iconst (pc := 89) (v := 0) hC dX2_placeColumn_89 rfl ?_
        refine z_istore (pc := 90) (lv' := [(5, .int 0), (4, .int ((I p 13) + (sSt σ p 5))), (3, .int ((I p 12) + (sSt σ p 5))), (2, .int (sFr σ p (sHT σ) (sIn (sHT σ p) (sSt σ p 5)) 0 (kn σ p))), (0, .ref (g.1 82)), (1, .ref (g.1 p))]) hC dX2_placeColumn_90 (by decide) rfl ?_
        refine z_aload_n (pc := 92) hC 5 dX2_placeColumn_92 rfl rfl z_isr_r ?_
        refine z_gP (pc := 93) hC 0 6 (v := va_rf (Option.map g.1 ((sKids σ p)[0]?))) (z_shb (zTr_lt ht he)) (z_ltb hC (zTr_lt ht he)) rfl inX0 (by decide) rfl zm_1_52 (by rw [(zLk_seg hl (zTr_lt ht he)).2]) dX2_placeColumn_93 ?_
        refine z_astore (pc := 96) (lv' := [(6, va_rf (Option.map g.1 ((sKids σ p)[0]?))), (5, .int 0), (4, .int ((I p 13) + (sSt σ p 5))), (3, .int ((I p 12) + (sSt σ p 5))), (2, .int (sFr σ p (sHT σ) (sIn (sHT σ p) (sSt σ p 5)) 0 (kn σ p))), (0, .ref (g.1 82)), (1, .ref (g.1 p))]) hC dX2_placeColumn_96 (by decide) (z_isr_o _) rfl ?_
        have L98 : ∀ (zf : Nat) (d : Nat) (Ir : Nat → Nat → Int32) (hd : d ≤ kn σ p) (hset : zsetv [12, 13] (sKids σ p) 0 d (fun i j => if j = 12 then I p 12 + sSt σ p 5 + sKX σ p i else I p 13 + sSt σ p 5 + sKY σ p i) I2 Ir), kn σ p - d < zf → zJ C g N 8 0 0 Ir P J 98 [(6, va_rf (Option.map g.1 ((sKids σ p)[d]?))), (5, .int (nI d)), (4, .int (I p 13 + sSt σ p 5 + zsum (fun j => sO σ (sHT σ) (kd σ p (0 + j)) + sSt σ p 4) d)), (3, .int (I p 12 + sSt σ p 5)), (2, .int (sFr σ p (sHT σ) (sIn (sHT σ p) (sSt σ p 5)) 0 (kn σ p))), (0, .ref (g.1 82)), (1, .ref (g.1 p))] [] := by
          intro zf
          induction zf with
          | zero =>
            intro d Ir hd hset hn2
            exact absurd hn2 (Nat.not_lt_zero _)
          | succ zf ih =>
            intro d Ir hd hset hn2
            have htr := ht2.lay (hset.lay ht.1 (by decide))
            refine z_aload (pc := 98) hC 0 dX2_placeColumn_98 rfl (z_isr_o _) ?_
            refine z_ifnull (pc := 100) (tgt := 212) hC dX2_placeColumn_100 (by decide) (fun h100 => ?_) (fun a100 h100 => ?_)
            · skip
              rw [h100]
              show zJ C g N 8 0 0 Ir P J 212 [(6, .null), (5, .int (nI d)), (4, .int (I p 13 + sSt σ p 5 + zsum (fun j => sO σ (sHT σ) (kd σ p (0 + j)) + sSt σ p 4) d)), (3, .int (I p 12 + sSt σ p 5)), (2, .int (sFr σ p (sHT σ) (sIn (sHT σ p) (sSt σ p 5)) 0 (kn σ p))), (0, .ref (g.1 82)), (1, .ref (g.1 p))] []
              have ed : d = kn σ p := Nat.le_antisymm hd (List.getElem?_eq_none_iff.mp h100)
              exact z_vret (pc := 212) hC hE dX2_placeColumn_212 (by rw [ed] at hset; exact zcolQ ht.1 hcol hf hh hset)
            · skip
              rw [h100]
              show zJ C g N 8 0 0 Ir P J 103 [(6, .ref (g.1 a100)), (5, .int (nI d)), (4, .int (I p 13 + sSt σ p 5 + zsum (fun j => sO σ (sHT σ) (kd σ p (0 + j)) + sSt σ p 4) d)), (3, .int (I p 12 + sSt σ p 5)), (2, .int (sFr σ p (sHT σ) (sIn (sHT σ p) (sSt σ p 5)) 0 (kn σ p))), (0, .ref (g.1 82)), (1, .ref (g.1 p))] []
              obtain ⟨hkd100, hik100, hmem100⟩ := sKids_get h100
              have hx100 := sKids_lt ht.1 hmem100
              have hx102 := hx100.2.1
              refine z_aload_n (pc := 103) hC 6 dX2_placeColumn_103 rfl rfl z_isr_r ?_
              refine z_cV (pc := 104) (st := []) hC [] (kSX0_innerWidth C.2.1 g N Ir P J htr p he (sWD σ p) ((hset.own ht.1 14).trans ((hpI 14).trans hW))) (z_shb (zTr_lt ht he)) (z_ltb hC (zTr_lt ht he)) rfl zkX0_innerWidth zm_2_154 ⟨rfl, rfl⟩ rfl rfl hRm ⟨Nat.le_of_ble_eq_true rfl, Nat.le_of_ble_eq_true rfl⟩ (Nat.le_of_ble_eq_true rfl) ⟨Nat.zero_le _, Nat.zero_le _⟩ dX2_placeColumn_104 ?_
              refine z_aload (pc := 107) hC 0 dX2_placeColumn_107 rfl z_isr_r ?_
              refine z_gI (pc := 109) hC 0 14 (x := sWD σ a100) (z_shb (zTr_lt ht hx100.2.2.1)) (z_ltb hC (zTr_lt ht hx100.2.2.1)) rfl inX0 (by decide) rfl zm_1_72 ((hset.oth (by decide)).trans ((hf a100 14 (by omega) (by omega) (fun z => absurd z.1 (by decide))).trans (hkw a100 hmem100))) dX2_placeColumn_109 ?_
              refine z_isub (pc := 112) hC dX2_placeColumn_112 ?_
              refine z_aload (pc := 113) hC 0 dX2_placeColumn_113 rfl z_isr_r ?_
              refine z_cV (pc := 115) (st := [.int ((sIn (sWD σ p) (sSt σ p 5)) - (sWD σ a100))]) hC [] (kX0_margins C.2.1 g N Ir P J a100 (zTr_lt ht hx100.2.2.1) (sSt σ a100 6) (zTr_st htr hx100.2.2.1 (by decide))) (z_shb (zTr_lt ht hx100.2.2.1)) (z_ltb hC (zTr_lt ht hx100.2.2.1)) rfl zkX0_margins zm_2_129 ⟨rfl, rfl⟩ rfl rfl hRm ⟨Nat.le_of_ble_eq_true rfl, Nat.le_of_ble_eq_true rfl⟩ (Nat.le_of_ble_eq_true rfl) ⟨Nat.zero_le _, Nat.zero_le _⟩ dX2_placeColumn_115 ?_
              refine z_isub (pc := 118) hC dX2_placeColumn_118 ?_
              refine z_istore (pc := 119) (lv' := [(7, .int (((sIn (sWD σ p) (sSt σ p 5)) - (sWD σ a100)) - (2 * sSt σ a100 6))), (6, .ref (g.1 a100)), (5, .int (nI d)), (4, .int (I p 13 + sSt σ p 5 + zsum (fun j => sO σ (sHT σ) (kd σ p (0 + j)) + sSt σ p 4) d)), (3, .int (I p 12 + sSt σ p 5)), (2, .int (sFr σ p (sHT σ) (sIn (sHT σ p) (sSt σ p 5)) 0 (kn σ p))), (0, .ref (g.1 82)), (1, .ref (g.1 p))]) hC dX2_placeColumn_119 (by decide) rfl ?_
              refine z_aload (pc := 121) hC 1 dX2_placeColumn_121 rfl z_isr_r ?_
              refine z_iload_n (pc := 123) hC 4 dX2_placeColumn_123 rfl rfl ?_
              refine z_aload (pc := 124) hC 1 dX2_placeColumn_124 rfl z_isr_r ?_
              refine z_cV (pc := 126) (st := [.int (I p 12 + sSt σ p 5), .ref (g.1 a100)]) hC [] (kSX0_alignment C.2.1 g N Ir P J htr a100 hx100.2.2.1 hx100.2.2.2.2) (z_shb (zTr_lt ht hx100.2.2.1)) (z_ltb hC (zTr_lt ht hx100.2.2.1)) rfl zkX0_alignment zm_2_159 ⟨rfl, rfl⟩ rfl rfl hRm ⟨Nat.le_of_ble_eq_true rfl, Nat.le_of_ble_eq_true rfl⟩ (Nat.le_of_ble_eq_true rfl) ⟨Nat.zero_le _, Nat.zero_le _⟩ dX2_placeColumn_126 ?_
              refine z_iload (pc := 129) hC 0 dX2_placeColumn_129 rfl ?_
              refine z_cS (pc := 131) (st := [.int (I p 12 + sSt σ p 5), .ref (g.1 a100)]) hC [.int (sAl σ a100), .int (((sIn (sWD σ p) (sSt σ p 5)) - (sWD σ a100)) - (2 * sSt σ a100 6))] (kX2_alignShift C.2.1 g N Ir P J (sAl σ a100) (((sIn (sWD σ p) (sSt σ p 5)) - (sWD σ a100)) - (2 * sSt σ a100 6))) zkX2_alignShift zm_3_11 ⟨rfl, rfl⟩ rfl rfl hRm ⟨Nat.le_of_ble_eq_true rfl, Nat.le_of_ble_eq_true rfl⟩ (Nat.le_of_ble_eq_true rfl) ⟨Nat.zero_le _, Nat.zero_le _⟩ dX2_placeColumn_131 ?_
              refine z_iadd (pc := 134) hC dX2_placeColumn_134 ?_
              refine z_aload (pc := 135) hC 1 dX2_placeColumn_135 rfl z_isr_r ?_
              refine z_bipush (pc := 137) (v := 6) hC dX2_placeColumn_137 rfl ?_
              refine z_cV (pc := 139) (st := [.int ((I p 12 + sSt σ p 5) + (sAs (sAl σ a100) (((sIn (sWD σ p) (sSt σ p 5)) - (sWD σ a100)) - (2 * sSt σ a100 6)))), .ref (g.1 a100)]) hC [.int 6] (kX0_of C.2.1 g N Ir P J a100 6 (zTr_lt ht hx100.2.2.1) (by decide) 6 rfl (sSt σ a100 6) (zTr_st htr hx100.2.2.1 (by decide))) (z_shb (zTr_lt ht hx100.2.2.1)) (z_ltb hC (zTr_lt ht hx100.2.2.1)) rfl zkX0_of zm_2_125 ⟨rfl, rfl⟩ rfl rfl hRm ⟨Nat.le_of_ble_eq_true rfl, Nat.le_of_ble_eq_true rfl⟩ (Nat.le_of_ble_eq_true rfl) ⟨Nat.zero_le _, Nat.zero_le _⟩ dX2_placeColumn_139 ?_
              refine z_iadd (pc := 142) hC dX2_placeColumn_142 ?_
              refine z_pI (pc := 143) hC 0 12 (z_shb (zTr_lt ht hx100.2.2.1)) (z_ltb hC (zTr_lt ht hx100.2.2.1)) rfl inX0 tyX0_ok nmX0 (by decide) rfl zm_1_67 rfl rfl rfl dX2_placeColumn_143 ?_
              refine z_aload (pc := 146) hC 1 dX2_placeColumn_146 rfl z_isr_r ?_
              refine z_iload (pc := 148) hC 3 dX2_placeColumn_148 rfl ?_
              refine z_aload_n (pc := 150) hC 7 dX2_placeColumn_150 rfl rfl z_isr_r ?_
              refine z_iconst (pc := 151) (v := 2) hC dX2_placeColumn_151 rfl ?_
              refine z_cV (pc := 152) (st := [.int (I p 13 + sSt σ p 5 + zsum (fun j => sO σ (sHT σ) (kd σ p (0 + j)) + sSt σ p 4) d), .ref (g.1 a100)]) hC [.int 2] (kX0_of C.2.1 g N (z_u Ir a100 12 (((I p 12 + sSt σ p 5) + (sAs (sAl σ a100) (((sIn (sWD σ p) (sSt σ p 5)) - (sWD σ a100)) - (2 * sSt σ a100 6)))) + (sSt σ a100 6))) P J p 2 (zTr_lt ht he) (by decide) 2 rfl (sSt σ p 2) (zTr_st (htr.lay (zLay.rf.u (zNK (a := a100) (k := 12) (zTr_lt ht hx100.2.2.1) (by decide)))) he (by decide))) (z_shb (zTr_lt ht he)) (z_ltb hC (zTr_lt ht he)) rfl zkX0_of zm_2_125 ⟨rfl, rfl⟩ rfl rfl hRm ⟨Nat.le_of_ble_eq_true rfl, Nat.le_of_ble_eq_true rfl⟩ (Nat.le_of_ble_eq_true rfl) ⟨Nat.zero_le _, Nat.zero_le _⟩ dX2_placeColumn_152 ?_
              refine z_iload_n (pc := 155) hC 5 dX2_placeColumn_155 rfl rfl ?_
              refine z_iload (pc := 156) hC 2 dX2_placeColumn_156 rfl ?_
              refine z_aload_n (pc := 158) hC 7 dX2_placeColumn_158 rfl rfl z_isr_r ?_
              refine z_gI (pc := 159) hC 0 8 (x := nI (kn σ p)) (z_shb (zTr_lt ht he)) (z_ltb hC (zTr_lt ht he)) rfl inX0 (by decide) rfl zm_1_58 ((z_u_a _ _ (fun q => sPn ht.1 (q ▸ hmem100))).trans ((hset.own ht.1 8).trans ((hl2.1 p (zTr_lt ht he)).2.2.1))) dX2_placeColumn_159 ?_
              refine z_cS (pc := 162) (st := [.int (I p 13 + sSt σ p 5 + zsum (fun j => sO σ (sHT σ) (kd σ p (0 + j)) + sSt σ p 4) d), .ref (g.1 a100)]) hC [.int (sSt σ p 2), .int (sFr σ p (sHT σ) (sIn (sHT σ p) (sSt σ p 5)) 0 (kn σ p)), .int (nI d), .int (nI (kn σ p))] (kX2_justifyShift C.2.1 g N (z_u Ir a100 12 (((I p 12 + sSt σ p 5) + (sAs (sAl σ a100) (((sIn (sWD σ p) (sSt σ p 5)) - (sWD σ a100)) - (2 * sSt σ a100 6)))) + (sSt σ a100 6))) P J (sSt σ p 2) (sFr σ p (sHT σ) (sIn (sHT σ p) (sSt σ p 5)) 0 (kn σ p)) d (kn σ p) (by omega) (kn_le ht.1 p)) zkX2_justifyShift zm_3_14 ⟨rfl, rfl⟩ rfl rfl hRm ⟨Nat.le_of_ble_eq_true rfl, Nat.le_of_ble_eq_true rfl⟩ (Nat.le_of_ble_eq_true rfl) ⟨Nat.zero_le _, Nat.zero_le _⟩ dX2_placeColumn_162 ?_
              refine z_iadd (pc := 165) hC dX2_placeColumn_165 ?_
              refine z_aload (pc := 166) hC 1 dX2_placeColumn_166 rfl z_isr_r ?_
              refine z_bipush (pc := 168) (v := 6) hC dX2_placeColumn_168 rfl ?_
              refine z_cV (pc := 170) (st := [.int ((I p 13 + sSt σ p 5 + zsum (fun j => sO σ (sHT σ) (kd σ p (0 + j)) + sSt σ p 4) d) + (sJu (sSt σ p 2) (sFr σ p (sHT σ) (sIn (sHT σ p) (sSt σ p 5)) 0 (kn σ p)) d (kn σ p))), .ref (g.1 a100)]) hC [.int 6] (kX0_of C.2.1 g N (z_u Ir a100 12 (((I p 12 + sSt σ p 5) + (sAs (sAl σ a100) (((sIn (sWD σ p) (sSt σ p 5)) - (sWD σ a100)) - (2 * sSt σ a100 6)))) + (sSt σ a100 6))) P J a100 6 (zTr_lt ht hx100.2.2.1) (by decide) 6 rfl (sSt σ a100 6) (zTr_st (htr.lay (zLay.rf.u (zNK (a := a100) (k := 12) (zTr_lt ht hx100.2.2.1) (by decide)))) hx100.2.2.1 (by decide))) (z_shb (zTr_lt ht hx100.2.2.1)) (z_ltb hC (zTr_lt ht hx100.2.2.1)) rfl zkX0_of zm_2_125 ⟨rfl, rfl⟩ rfl rfl hRm ⟨Nat.le_of_ble_eq_true rfl, Nat.le_of_ble_eq_true rfl⟩ (Nat.le_of_ble_eq_true rfl) ⟨Nat.zero_le _, Nat.zero_le _⟩ dX2_placeColumn_170 ?_
              refine z_iadd (pc := 173) hC dX2_placeColumn_173 ?_
              refine z_pI (pc := 174) hC 0 13 (z_shb (zTr_lt ht hx100.2.2.1)) (z_ltb hC (zTr_lt ht hx100.2.2.1)) rfl inX0 tyX0_ok nmX0 (by decide) rfl zm_1_70 rfl rfl rfl dX2_placeColumn_174 ?_
              refine z_iload (pc := 177) hC 3 dX2_placeColumn_177 rfl ?_
              refine z_aload (pc := 179) hC 1 dX2_placeColumn_179 rfl z_isr_r ?_
              refine z_gI (pc := 181) hC 0 15 (x := sHT σ a100) (z_shb (zTr_lt ht hx100.2.2.1)) (z_ltb hC (zTr_lt ht hx100.2.2.1)) rfl inX0 (by decide) rfl zm_1_75 ((z_u_b _ _ (by decide)).trans ((z_u_b _ _ (by decide)).trans ((hset.oth (by decide)).trans (hhk d a100 h100)))) dX2_placeColumn_181 ?_
              refine z_aload (pc := 184) hC 1 dX2_placeColumn_184 rfl z_isr_r ?_
              refine z_cV (pc := 186) (st := [.int (sHT σ a100), .int (I p 13 + sSt σ p 5 + zsum (fun j => sO σ (sHT σ) (kd σ p (0 + j)) + sSt σ p 4) d)]) hC [] (kX0_margins C.2.1 g N (z_u (z_u Ir a100 12 (((I p 12 + sSt σ p 5) + (sAs (sAl σ a100) (((sIn (sWD σ p) (sSt σ p 5)) - (sWD σ a100)) - (2 * sSt σ a100 6)))) + (sSt σ a100 6))) a100 13 (((I p 13 + sSt σ p 5 + zsum (fun j => sO σ (sHT σ) (kd σ p (0 + j)) + sSt σ p 4) d) + (sJu (sSt σ p 2) (sFr σ p (sHT σ) (sIn (sHT σ p) (sSt σ p 5)) 0 (kn σ p)) d (kn σ p))) + (sSt σ a100 6))) P J a100 (zTr_lt ht hx100.2.2.1) (sSt σ a100 6) (zTr_st ((htr.lay (zLay.rf.u (zNK (a := a100) (k := 12) (zTr_lt ht hx100.2.2.1) (by decide)))).lay (zLay.rf.u (zNK (a := a100) (k := 13) (zTr_lt ht hx100.2.2.1) (by decide)))) hx100.2.2.1 (by decide))) (z_shb (zTr_lt ht hx100.2.2.1)) (z_ltb hC (zTr_lt ht hx100.2.2.1)) rfl zkX0_margins zm_2_129 ⟨rfl, rfl⟩ rfl rfl hRm ⟨Nat.le_of_ble_eq_true rfl, Nat.le_of_ble_eq_true rfl⟩ (Nat.le_of_ble_eq_true rfl) ⟨Nat.zero_le _, Nat.zero_le _⟩ dX2_placeColumn_186 ?_
              refine z_iadd (pc := 189) hC dX2_placeColumn_189 ?_
              refine z_aload_n (pc := 190) hC 7 dX2_placeColumn_190 rfl rfl z_isr_r ?_
              refine z_iconst (pc := 191) (v := 4) hC dX2_placeColumn_191 rfl ?_
              refine z_cV (pc := 192) (st := [.int ((sHT σ a100) + (2 * sSt σ a100 6)), .int (I p 13 + sSt σ p 5 + zsum (fun j => sO σ (sHT σ) (kd σ p (0 + j)) + sSt σ p 4) d)]) hC [.int 4] (kX0_of C.2.1 g N (z_u (z_u Ir a100 12 (((I p 12 + sSt σ p 5) + (sAs (sAl σ a100) (((sIn (sWD σ p) (sSt σ p 5)) - (sWD σ a100)) - (2 * sSt σ a100 6)))) + (sSt σ a100 6))) a100 13 (((I p 13 + sSt σ p 5 + zsum (fun j => sO σ (sHT σ) (kd σ p (0 + j)) + sSt σ p 4) d) + (sJu (sSt σ p 2) (sFr σ p (sHT σ) (sIn (sHT σ p) (sSt σ p 5)) 0 (kn σ p)) d (kn σ p))) + (sSt σ a100 6))) P J p 4 (zTr_lt ht he) (by decide) 4 rfl (sSt σ p 4) (zTr_st ((htr.lay (zLay.rf.u (zNK (a := a100) (k := 12) (zTr_lt ht hx100.2.2.1) (by decide)))).lay (zLay.rf.u (zNK (a := a100) (k := 13) (zTr_lt ht hx100.2.2.1) (by decide)))) he (by decide))) (z_shb (zTr_lt ht he)) (z_ltb hC (zTr_lt ht he)) rfl zkX0_of zm_2_125 ⟨rfl, rfl⟩ rfl rfl hRm ⟨Nat.le_of_ble_eq_true rfl, Nat.le_of_ble_eq_true rfl⟩ (Nat.le_of_ble_eq_true rfl) ⟨Nat.zero_le _, Nat.zero_le _⟩ dX2_placeColumn_192 ?_
              refine z_iadd (pc := 195) hC dX2_placeColumn_195 ?_
              refine z_iadd (pc := 196) hC dX2_placeColumn_196 ?_
              rw [show (I p 13 + sSt σ p 5 + zsum (fun j => sO σ (sHT σ) (kd σ p (0 + j)) + sSt σ p 4) d) + (((sHT σ a100) + (2 * sSt σ a100 6)) + (sSt σ p 4)) = I p 13 + sSt σ p 5 + zsum (fun j => sO σ (sHT σ) (kd σ p (0 + j)) + sSt σ p 4) (d + 1) from by show _ = I p 13 + sSt σ p 5 + (zsum (fun j => sO σ (sHT σ) (kd σ p (0 + j)) + sSt σ p 4) d + (sO σ (sHT σ) (kd σ p (0 + d)) + sSt σ p 4)); rw [Nat.zero_add, hkd100, Int32.add_assoc]; rfl]
              refine z_istore (pc := 197) (lv' := [(4, .int (I p 13 + sSt σ p 5 + zsum (fun j => sO σ (sHT σ) (kd σ p (0 + j)) + sSt σ p 4) (d + 1))), (7, .int (((sIn (sWD σ p) (sSt σ p 5)) - (sWD σ a100)) - (2 * sSt σ a100 6))), (6, .ref (g.1 a100)), (5, .int (nI d)), (3, .int (I p 12 + sSt σ p 5)), (2, .int (sFr σ p (sHT σ) (sIn (sHT σ p) (sSt σ p 5)) 0 (kn σ p))), (0, .ref (g.1 82)), (1, .ref (g.1 p))]) hC dX2_placeColumn_197 (by decide) rfl ?_
              refine z_iinc (pc := 199) (v := nI (d + 1)) (lv' := [(5, .int (nI (d + 1))), (4, .int (I p 13 + sSt σ p 5 + zsum (fun j => sO σ (sHT σ) (kd σ p (0 + j)) + sSt σ p 4) (d + 1))), (7, .int (((sIn (sWD σ p) (sSt σ p 5)) - (sWD σ a100)) - (2 * sSt σ a100 6))), (6, .ref (g.1 a100)), (3, .int (I p 12 + sSt σ p 5)), (2, .int (sFr σ p (sHT σ) (sIn (sHT σ p) (sSt σ p 5)) 0 (kn σ p))), (0, .ref (g.1 82)), (1, .ref (g.1 p))]) hC 3 dX2_placeColumn_199 rfl (nI_1 d) (by decide) rfl ?_
              refine z_aload (pc := 202) hC 3 dX2_placeColumn_202 rfl z_isr_r ?_
              refine z_gP (pc := 204) hC 0 7 (v := va_rf (Option.map g.1 ((sKids σ p)[d + 1]?))) (z_shb (zTr_lt ht hx100.2.2.1)) (z_ltb hC (zTr_lt ht hx100.2.2.1)) rfl inX0 (by decide) rfl zm_1_55 (by rw [(zLk_seg hl (zTr_lt ht he)).1 _ a100 h100]) dX2_placeColumn_204 ?_
              refine z_astore (pc := 207) (lv' := [(6, va_rf (Option.map g.1 ((sKids σ p)[d + 1]?))), (5, .int (nI (d + 1))), (4, .int (I p 13 + sSt σ p 5 + zsum (fun j => sO σ (sHT σ) (kd σ p (0 + j)) + sSt σ p 4) (d + 1))), (7, .int (((sIn (sWD σ p) (sSt σ p 5)) - (sWD σ a100)) - (2 * sSt σ a100 6))), (3, .int (I p 12 + sSt σ p 5)), (2, .int (sFr σ p (sHT σ) (sIn (sHT σ p) (sSt σ p 5)) 0 (kn σ p))), (0, .ref (g.1 82)), (1, .ref (g.1 p))]) hC dX2_placeColumn_207 (by decide) (z_isr_o _) rfl ?_
              refine z_goto (pc := 209) (tgt := 98) hC dX2_placeColumn_209 (by decide) ?_
              refine z_lvs (lv' := [(6, va_rf (Option.map g.1 ((sKids σ p)[d + 1]?))), (5, .int (nI (d + 1))), (4, .int (I p 13 + sSt σ p 5 + zsum (fun j => sO σ (sHT σ) (kd σ p (0 + j)) + sSt σ p 4) (d + 1))), (3, .int (I p 12 + sSt σ p 5)), (2, .int (sFr σ p (sHT σ) (sIn (sHT σ p) (sSt σ p 5)) 0 (kn σ p))), (0, .ref (g.1 82)), (1, .ref (g.1 p))]) [0, 1, 2, 4, 5, 6, 7] rfl ?_
              refine ih (d + 1) _ (by omega) (zsetv_2 sKids_nd h100 (Nat.zero_le _) hset (by decide) ?_ ?_) (by omega)
              · show _ = I p 12 + sSt σ p 5 + sKX σ p d
                unfold sKX sAcr
                rw [if_pos hcol, hkd100, ← zss, Int32.add_assoc]
              · show _ = I p 13 + sSt σ p 5 + sKY σ p d
                unfold sKY sAlo sBf
                rw [if_pos hcol, hkd100]
                simp only [Int32.add_assoc, Nat.sub_zero]
        have L0 := L98 (kn σ p + 1) 0 _ (Nat.zero_le _) (zsetv_0 _ _ _ _ _) (by omega)
        rw [show I p 13 + sSt σ p 5 + zsum (fun j => sO σ (sHT σ) (kd σ p (0 + j)) + sSt σ p 4) 0 = I p 13 + sSt σ p 5 from Int32.add_zero _] at L0
        exact L0
      · skip
        rw [h43]
        show zJ C g N 8 0 0 I2 P J 46 [(3, .ref (g.1 a43)), (2, .int (sIn (sHT σ p) (sSt σ p 5) - zgap (nI (kn σ p)) (sSt σ p 4) - zsum (fun j => sO σ (sHT σ) (kd σ p (0 + j))) d)), (0, .ref (g.1 82)), (1, .ref (g.1 p))] []
        obtain ⟨hkd43, hik43, hmem43⟩ := sKids_get h43
        have hx43 := sKids_lt ht.1 hmem43
        refine z_iload_n (pc := 46) hC 1 dX2_placeColumn_46 rfl rfl ?_
        refine z_aload_n (pc := 47) hC 0 dX2_placeColumn_47 rfl rfl z_isr_r ?_
        refine z_gI (pc := 48) hC 0 15 (x := sHT σ a43) (z_shb (zTr_lt ht hx43.2.2.1)) (z_ltb hC (zTr_lt ht hx43.2.2.1)) rfl inX0 (by decide) rfl zm_1_75 (hhk d a43 h43) dX2_placeColumn_48 ?_
        refine z_aload_n (pc := 51) hC 0 dX2_placeColumn_51 rfl rfl z_isr_r ?_
        refine z_cV (pc := 52) (st := [.int (sHT σ a43), .int (sIn (sHT σ p) (sSt σ p 5) - zgap (nI (kn σ p)) (sSt σ p 4) - zsum (fun j => sO σ (sHT σ) (kd σ p (0 + j))) d)]) hC [] (kX0_margins C.2.1 g N I2 P J a43 (zTr_lt ht hx43.2.2.1) (sSt σ a43 6) (zTr_st ht2 hx43.2.2.1 (by decide))) (z_shb (zTr_lt ht hx43.2.2.1)) (z_ltb hC (zTr_lt ht hx43.2.2.1)) rfl zkX0_margins zm_2_129 ⟨rfl, rfl⟩ rfl rfl hRm ⟨Nat.le_of_ble_eq_true rfl, Nat.le_of_ble_eq_true rfl⟩ (Nat.le_of_ble_eq_true rfl) ⟨Nat.zero_le _, Nat.zero_le _⟩ dX2_placeColumn_52 ?_
        refine z_iadd (pc := 55) hC dX2_placeColumn_55 ?_
        refine z_isub (pc := 56) hC dX2_placeColumn_56 ?_
        rw [show (sIn (sHT σ p) (sSt σ p 5) - zgap (nI (kn σ p)) (sSt σ p 4) - zsum (fun j => sO σ (sHT σ) (kd σ p (0 + j))) d) - ((sHT σ a43) + (2 * sSt σ a43 6)) = sIn (sHT σ p) (sSt σ p 5) - zgap (nI (kn σ p)) (sSt σ p 4) - zsum (fun j => sO σ (sHT σ) (kd σ p (0 + j))) (d + 1) from by rw [← zdiff]; show _ = _ - sO σ (sHT σ) (kd σ p (0 + d)); rw [Nat.zero_add, hkd43]; rfl]
        refine z_istore_n (pc := 57) (lv' := [(2, .int (sIn (sHT σ p) (sSt σ p 5) - zgap (nI (kn σ p)) (sSt σ p 4) - zsum (fun j => sO σ (sHT σ) (kd σ p (0 + j))) (d + 1))), (3, .ref (g.1 a43)), (0, .ref (g.1 82)), (1, .ref (g.1 p))]) hC dX2_placeColumn_57 rfl (by decide) rfl ?_
        refine z_aload_n (pc := 58) hC 1 dX2_placeColumn_58 rfl rfl z_isr_r ?_
        refine z_gP (pc := 59) hC 0 7 (v := va_rf (Option.map g.1 ((sKids σ p)[d + 1]?))) (z_shb (zTr_lt ht hx43.2.2.1)) (z_ltb hC (zTr_lt ht hx43.2.2.1)) rfl inX0 (by decide) rfl zm_1_55 (by rw [(zLk_seg hl (zTr_lt ht he)).1 _ a43 h43]) dX2_placeColumn_59 ?_
        refine z_astore_n (pc := 62) (lv' := [(3, va_rf (Option.map g.1 ((sKids σ p)[d + 1]?))), (2, .int (sIn (sHT σ p) (sSt σ p 5) - zgap (nI (kn σ p)) (sSt σ p 4) - zsum (fun j => sO σ (sHT σ) (kd σ p (0 + j))) (d + 1))), (0, .ref (g.1 82)), (1, .ref (g.1 p))]) hC dX2_placeColumn_62 rfl (by decide) (z_isr_o _) rfl ?_
        refine z_goto (pc := 63) (tgt := 42) hC dX2_placeColumn_63 (by decide) ?_
        exact ih (d + 1) (by omega) (by omega)
  have L0 := L42 (kn σ p + 1) 0 (Nat.zero_le _) (by omega)
  rw [show sIn (sHT σ p) (sSt σ p 5) - zgap (nI (kn σ p)) (sSt σ p 4) - zsum (fun j => sO σ (sHT σ) (kd σ p (0 + j))) 0 = sIn (sHT σ p) (sSt σ p 5) - zgap (nI (kn σ p)) (sSt σ p 4) from Int32.sub_zero _] at L0
  exact L0
end ZPN
