section ZPM
set_option maxHeartbeats 4000000 in
set_option maxRecDepth 100000 in
theorem kX2_justifyShift (lx : Launch) (g : zG) (N : Nat) (I : Nat → Nat → Int32) (P : Nat → Nat → Option Nat) (J : Nat → Nat → Int64) (how free : Int32) (k m : Nat) (hm : 1 ≤ m) (hm2 : m ≤ 40) : z_Ct lx yX2_justifyShift (zT yX2_justifyShift cX2_justifyShift 4 (Option.some FieldType.int)) ({ frames := 0, cells := 0, slots := 0, locals := 0 } : Room) g N I P J [.int how, .int free, .int (nI k), .int (nI m)] (zMu (some (.int (sJu how free k m))) I P J) 0 0 := by
  refine z_of (by decide) (Nat.le_of_ble_eq_true rfl) (lv0 := [(0, .int how), (1, .int free), (2, .int (nI k)), (3, .int (nI m))]) rfl ?_
  intro C hlx hC hE hRm
  have hC : zX C cX2_justifyShift 4 RX2 (zT yX2_justifyShift cX2_justifyShift 4 (Option.some FieldType.int)) g N := hC
  refine z_iload_n (pc := 0) hC 1 dX2_justifyShift_0 rfl rfl ?_
  refine z_if_le (pc := 1) (tgt := 9) hC dX2_justifyShift_1 (by decide) (fun h1 => ?_) (fun h1 => ?_)
  · skip
    have g1 := Int32.not_lt.mpr h1
    refine z_iconst (pc := 9) (v := 0) hC dX2_justifyShift_9 rfl ?_
    exact z_iret (pc := 10) hC hE dX2_justifyShift_10 (zMu_i (by unfold sJu; rw [if_pos h1]))
  · skip
    have g1 := Int32.not_le.mp h1
    refine z_iload_n (pc := 4) hC 3 dX2_justifyShift_4 rfl rfl ?_
    refine z_iconst (pc := 5) (v := 1) hC dX2_justifyShift_5 rfl ?_
    refine z_icmp_ge (pc := 6) (tgt := 11) hC dX2_justifyShift_6 (by decide) (fun h6 => ?_) (fun h6 => ?_)
    · skip
      have g6 := Int32.not_lt.mpr h6
      refine z_iload_n (pc := 11) hC 0 dX2_justifyShift_11 rfl rfl ?_
      refine z_tsw4 (pc := 12) (t0 := 77) (t1 := 44) (t2 := 46) (t3 := 50) (t4 := 67) hC dX2_justifyShift_12 (by decide) (by decide) (by decide) (by decide) (by decide) (fun s12_1 => ?_) (fun s12_2 => ?_) (fun s12_3 => ?_) (fun s12_4 => ?_) (fun s12_1 s12_2 s12_3 s12_4 => ?_)
      · skip
        refine z_iload_n (pc := 44) hC 1 dX2_justifyShift_44 rfl rfl ?_
        exact z_iret (pc := 45) hC hE dX2_justifyShift_45 (zMu_i (by unfold sJu; rw [if_neg h1, s12_1, if_pos rfl]))
      · skip
        refine z_iload_n (pc := 46) hC 1 dX2_justifyShift_46 rfl rfl ?_
        refine z_iconst (pc := 47) (v := 2) hC dX2_justifyShift_47 rfl ?_
        refine z_idiv (pc := 48) hC dX2_justifyShift_48 (by decide) ?_
        exact z_iret (pc := 49) hC hE dX2_justifyShift_49 (zMu_i (by unfold sJu; rw [if_neg h1, s12_2, if_neg (by decide), if_pos rfl]))
      · skip
        refine z_iload_n (pc := 50) hC 3 dX2_justifyShift_50 rfl rfl ?_
        refine z_iconst (pc := 51) (v := 1) hC dX2_justifyShift_51 rfl ?_
        refine z_icmp_le (pc := 52) (tgt := 65) hC dX2_justifyShift_52 (by decide) (fun h52 => ?_) (fun h52 => ?_)
        · skip
          have g52 := Int32.not_lt.mpr h52
          refine z_iconst (pc := 65) (v := 0) hC dX2_justifyShift_65 rfl ?_
          exact z_iret (pc := 66) hC hE dX2_justifyShift_66 (zMu_i (by unfold sJu; rw [if_neg h1, s12_3, if_neg (by decide), if_neg (by decide), if_pos rfl, if_pos (Nat.not_lt.mp (fun q => (Int32.not_lt.mpr h52) ((zm_one hm2).mpr q)))]))
        · skip
          have g52 := Int32.not_le.mp h52
          refine z_iload_n (pc := 55) hC 1 dX2_justifyShift_55 rfl rfl ?_
          refine z_iload_n (pc := 56) hC 2 dX2_justifyShift_56 rfl rfl ?_
          refine z_imul (pc := 57) hC dX2_justifyShift_57 ?_
          refine z_iload_n (pc := 58) hC 3 dX2_justifyShift_58 rfl rfl ?_
          refine z_iconst (pc := 59) (v := 1) hC dX2_justifyShift_59 rfl ?_
          refine z_isub (pc := 60) hC dX2_justifyShift_60 ?_
          refine z_idiv (pc := 61) hC dX2_justifyShift_61 (zm1_ne hm2 g52) ?_
          refine z_goto (pc := 62) (tgt := 66) hC dX2_justifyShift_62 (by decide) ?_
          exact z_iret (pc := 66) hC hE dX2_justifyShift_66 (zMu_i (by unfold sJu; rw [if_neg h1, s12_3, if_neg (by decide), if_neg (by decide), if_pos rfl, if_neg (fun q => absurd ((zm_one hm2).mp g52) (Nat.not_lt.mpr q))]))
      · skip
        refine z_iload_n (pc := 67) hC 1 dX2_justifyShift_67 rfl rfl ?_
        refine z_iload_n (pc := 68) hC 2 dX2_justifyShift_68 rfl rfl ?_
        refine z_iconst (pc := 69) (v := 1) hC dX2_justifyShift_69 rfl ?_
        refine z_iadd (pc := 70) hC dX2_justifyShift_70 ?_
        refine z_imul (pc := 71) hC dX2_justifyShift_71 ?_
        refine z_iload_n (pc := 72) hC 3 dX2_justifyShift_72 rfl rfl ?_
        refine z_iconst (pc := 73) (v := 1) hC dX2_justifyShift_73 rfl ?_
        refine z_iadd (pc := 74) hC dX2_justifyShift_74 ?_
        refine z_idiv (pc := 75) hC dX2_justifyShift_75 (zp1_ne hm2) ?_
        exact z_iret (pc := 76) hC hE dX2_justifyShift_76 (zMu_i (by unfold sJu; rw [if_neg h1, s12_4, if_neg (by decide), if_neg (by decide), if_neg (by decide), if_pos rfl]))
      · skip
        refine z_iconst (pc := 77) (v := 0) hC dX2_justifyShift_77 rfl ?_
        exact z_iret (pc := 78) hC hE dX2_justifyShift_78 (zMu_i (by unfold sJu; rw [if_neg h1, if_neg s12_1, if_neg s12_2, if_neg s12_3, if_neg s12_4]))
    · skip
      have g6 := Int32.not_le.mp h6
      exact absurd g6 (zm_pos hm hm2)
set_option maxHeartbeats 4000000 in
set_option maxRecDepth 100000 in
theorem kX2_alignShift (lx : Launch) (g : zG) (N : Nat) (I : Nat → Nat → Int32) (P : Nat → Nat → Option Nat) (J : Nat → Nat → Int64) (how free : Int32) : z_Ct lx yX2_alignShift (zT yX2_alignShift cX2_alignShift 2 (Option.some FieldType.int)) ({ frames := 0, cells := 0, slots := 0, locals := 0 } : Room) g N I P J [.int how, .int free] (zMu (some (.int (sAs how free))) I P J) 0 0 := by
  refine z_of (by decide) (Nat.le_of_ble_eq_true rfl) (lv0 := [(0, .int how), (1, .int free)]) rfl ?_
  intro C hlx hC hE hRm
  have hC : zX C cX2_alignShift 2 RX2 (zT yX2_alignShift cX2_alignShift 2 (Option.some FieldType.int)) g N := hC
  refine z_iload_n (pc := 0) hC 1 dX2_alignShift_0 rfl rfl ?_
  refine z_if_gt (pc := 1) (tgt := 6) hC dX2_alignShift_1 (by decide) (fun h1 => ?_) (fun h1 => ?_)
  · skip
    have g1 := Int32.not_le.mpr h1
    refine z_iload_n (pc := 6) hC 0 dX2_alignShift_6 rfl rfl ?_
    refine z_lsw2 (pc := 7) (t0 := 38) (t1 := 32) (t2 := 34) hC dX2_alignShift_7 (by decide) (by decide) (by decide) (fun s7_1 => ?_) (fun s7_2 => ?_) (fun s7_1 s7_2 => ?_)
    · skip
      refine z_iload_n (pc := 32) hC 1 dX2_alignShift_32 rfl rfl ?_
      exact z_iret (pc := 33) hC hE dX2_alignShift_33 (zMu_i (by unfold sAs; rw [if_neg (Int32.not_le.mpr h1), s7_1, if_pos rfl]))
    · skip
      refine z_iload_n (pc := 34) hC 1 dX2_alignShift_34 rfl rfl ?_
      refine z_iconst (pc := 35) (v := 2) hC dX2_alignShift_35 rfl ?_
      refine z_idiv (pc := 36) hC dX2_alignShift_36 (by decide) ?_
      exact z_iret (pc := 37) hC hE dX2_alignShift_37 (zMu_i (by unfold sAs; rw [if_neg (Int32.not_le.mpr h1), s7_2, if_neg (by decide), if_pos rfl]))
    · skip
      refine z_iconst (pc := 38) (v := 0) hC dX2_alignShift_38 rfl ?_
      exact z_iret (pc := 39) hC hE dX2_alignShift_39 (zMu_i (by unfold sAs; rw [if_neg (Int32.not_le.mpr h1), if_neg s7_1, if_neg s7_2]))
  · skip
    have g1 := Int32.not_lt.mp h1
    refine z_iconst (pc := 4) (v := 0) hC dX2_alignShift_4 rfl ?_
    exact z_iret (pc := 5) hC hE dX2_alignShift_5 (zMu_i (by unfold sAs; rw [if_pos g1]))
set_option maxHeartbeats 4000000 in
set_option maxRecDepth 100000 in
theorem kX2_placeLine (lx : Launch) (g : zG) (N : Nat) (I : Nat → Nat → Int32) (P : Nat → Nat → Option Nat) (J : Nat → Nat → Int64) {σ : zS} (ht : zTr σ I P) (hl : zLk σ I P) (p : Nat) (he : sEx σ p = true) (hW : I p 14 = sWD σ p) (hkw : ∀ k, k ∈ sKids σ p → I k 14 = sWD σ k) (hnh : ∀ k, k ∈ sKids σ p → I k 11 = sNH σ k) (a z : Nat) (haz : a ≤ z) (hz : z ≤ kn σ p) (tp hg : Int32) : z_Ct lx yX2_placeLine (zT yX2_placeLine cX2_placeLine 11 (Option.none : Option FieldType)) ({ frames := 3, cells := 0, slots := 0, locals := 66 } : Room) g N I P J [.ref (g.1 p), va_rf (Option.map g.1 ((sKids σ p)[a]?)), va_rf (Option.map g.1 ((sKids σ p)[z]?)), .int tp, .int hg] (zplQ σ p a z tp hg I P J) 0 0 := by
  refine z_of (by decide) (by simp [lg_sl, z_catO, z_catR, z_catI, z_catL, z_catN]) (lv0 := [(0, .ref (g.1 p)), (1, va_rf (Option.map g.1 ((sKids σ p)[a]?))), (2, va_rf (Option.map g.1 ((sKids σ p)[z]?))), (3, .int tp), (4, .int hg)]) (by simp [lv_args, z_catO, z_catR, z_catI, z_catL, z_catN]) ?_
  intro C hlx hC hE hRm
  have hC : zX C cX2_placeLine 11 RX2 (zT yX2_placeLine cX2_placeLine 11 (Option.none : Option FieldType)) g N := hC
  have hac := kn_le ht.1 p
  have J52 : zJ C g N 11 0 0 I P J 52 [(6, .int (sIn (sWD σ p) (sSt σ p 5) - zsum (fun j => sO σ (sWD σ) (kd σ p (a + j))) (z - a))), (5, .int (nI (z - a))), (0, .ref (g.1 p)), (1, va_rf (Option.map g.1 ((sKids σ p)[a]?))), (2, va_rf (Option.map g.1 ((sKids σ p)[z]?))), (3, .int tp), (4, .int hg)] [] := by
    refine z_iload (pc := 52) hC 0 dX2_placeLine_52 rfl ?_
    refine z_iload (pc := 54) hC 1 dX2_placeLine_54 rfl ?_
    refine z_aload_n (pc := 56) hC 2 dX2_placeLine_56 rfl rfl z_isr_r ?_
    refine z_iconst (pc := 57) (v := 4) hC dX2_placeLine_57 rfl ?_
    refine z_cV (pc := 58) (st := [.int (nI (z - a)), .int (sIn (sWD σ p) (sSt σ p 5) - zsum (fun j => sO σ (sWD σ) (kd σ p (a + j))) (z - a))]) hC [.int 4] (kX0_of C.2.1 g N I P J p 4 (zTr_lt ht he) (by decide) 4 rfl (sSt σ p 4) (zTr_st ht he (by decide))) (z_shb (zTr_lt ht he)) (z_ltb hC (zTr_lt ht he)) rfl zkX0_of zm_2_125 ⟨rfl, rfl⟩ rfl rfl hRm ⟨Nat.le_of_ble_eq_true rfl, Nat.le_of_ble_eq_true rfl⟩ (Nat.le_of_ble_eq_true rfl) ⟨Nat.zero_le _, Nat.zero_le _⟩ dX2_placeLine_58 ?_
    refine z_cSN (pc := 61) (st := [.int (sIn (sWD σ p) (sSt σ p 5) - zsum (fun j => sO σ (sWD σ) (kd σ p (a + j))) (z - a))]) hC [.int (nI (z - a)), .int (sSt σ p 4)] (kX5_gaps C.2.1 g N I P J (nI (z - a)) (sSt σ p 4)) zkX5_gaps (hC.2.2.2.2.2.1.2.2.2.2.2.2.1) ⟨rfl, rfl⟩ rfl rfl hRm ⟨Nat.le_of_ble_eq_true rfl, Nat.le_of_ble_eq_true rfl⟩ (Nat.le_of_ble_eq_true rfl) ⟨Nat.zero_le _, Nat.zero_le _⟩ dX2_placeLine_61 ?_
    refine z_isub (pc := 64) hC dX2_placeLine_64 ?_
    rw [show (sIn (sWD σ p) (sSt σ p 5) - zsum (fun j => sO σ (sWD σ) (kd σ p (a + j))) (z - a)) - (zgap (nI (z - a)) (sSt σ p 4)) = sFr σ p (sWD σ) (sIn (sWD σ p) (sSt σ p 5)) a z from rfl]
    refine z_istore (pc := 65) (lv' := [(6, .int (sFr σ p (sWD σ) (sIn (sWD σ p) (sSt σ p 5)) a z)), (5, .int (nI (z - a))), (0, .ref (g.1 p)), (1, va_rf (Option.map g.1 ((sKids σ p)[a]?))), (2, va_rf (Option.map g.1 ((sKids σ p)[z]?))), (3, .int tp), (4, .int hg)]) hC dX2_placeLine_65 (by decide) rfl ?_
    refine z_aload_n (pc := 67) hC 2 dX2_placeLine_67 rfl rfl z_isr_r ?_
    refine z_gI (pc := 68) hC 0 12 (x := I p 12) (z_shb (zTr_lt ht he)) (z_ltb hC (zTr_lt ht he)) rfl inX0 (by decide) rfl zm_1_67 rfl dX2_placeLine_68 ?_
    refine z_aload_n (pc := 71) hC 2 dX2_placeLine_71 rfl rfl z_isr_r ?_
    refine z_iconst (pc := 72) (v := 5) hC dX2_placeLine_72 rfl ?_
    refine z_cV (pc := 73) (st := [.int (I p 12)]) hC [.int 5] (kX0_of C.2.1 g N I P J p 5 (zTr_lt ht he) (by decide) 5 rfl (sSt σ p 5) (zTr_st ht he (by decide))) (z_shb (zTr_lt ht he)) (z_ltb hC (zTr_lt ht he)) rfl zkX0_of zm_2_125 ⟨rfl, rfl⟩ rfl rfl hRm ⟨Nat.le_of_ble_eq_true rfl, Nat.le_of_ble_eq_true rfl⟩ (Nat.le_of_ble_eq_true rfl) ⟨Nat.zero_le _, Nat.zero_le _⟩ dX2_placeLine_73 ?_
    refine z_iadd (pc := 76) hC dX2_placeLine_76 ?_
    refine z_istore (pc := 77) (lv' := [(7, .int ((I p 12) + (sSt σ p 5))), (6, .int (sFr σ p (sWD σ) (sIn (sWD σ p) (sSt σ p 5)) a z)), (5, .int (nI (z - a))), (0, .ref (g.1 p)), (1, va_rf (Option.map g.1 ((sKids σ p)[a]?))), (2, va_rf (Option.map g.1 ((sKids σ p)[z]?))), (3, .int tp), (4, .int hg)]) hC dX2_placeLine_77 (by decide) rfl ?_
    refine z_iconst (pc := 79) (v := 0) hC dX2_placeLine_79 rfl ?_
    refine z_istore (pc := 80) (lv' := [(8, .int 0), (7, .int ((I p 12) + (sSt σ p 5))), (6, .int (sFr σ p (sWD σ) (sIn (sWD σ p) (sSt σ p 5)) a z)), (5, .int (nI (z - a))), (0, .ref (g.1 p)), (1, va_rf (Option.map g.1 ((sKids σ p)[a]?))), (2, va_rf (Option.map g.1 ((sKids σ p)[z]?))), (3, .int tp), (4, .int hg)]) hC dX2_placeLine_80 (by decide) rfl ?_
    refine z_aload_n (pc := 82) hC 5 dX2_placeLine_82 rfl rfl (z_isr_o _) ?_
    refine z_astore (pc := 83) (lv' := [(9, va_rf (Option.map g.1 ((sKids σ p)[a]?))), (8, .int 0), (7, .int ((I p 12) + (sSt σ p 5))), (6, .int (sFr σ p (sWD σ) (sIn (sWD σ p) (sSt σ p 5)) a z)), (5, .int (nI (z - a))), (0, .ref (g.1 p)), (1, va_rf (Option.map g.1 ((sKids σ p)[a]?))), (2, va_rf (Option.map g.1 ((sKids σ p)[z]?))), (3, .int tp), (4, .int hg)]) hC dX2_placeLine_83 (by decide) (z_isr_o _) rfl ?_
    have L85 : ∀ (zf : Nat) (d : Nat) (Ir : Nat → Nat → Int32) (hd : d ≤ z - a) (hset : zsetv [15, 12, 13] (sKids σ p) a (a + d) (fun i j => if j = 15 then sRoH σ (kd σ p i) hg else if j = 12 then I p 12 + sSt σ p 5 + sAlo σ p (sWD σ) (sIn (sWD σ p) (sSt σ p 5)) a z i else tp + sAcr σ (kd σ p i) (sRoH σ (kd σ p i) hg) hg) I Ir), z - a - d < zf → zJ C g N 11 0 0 Ir P J 85 [(9, va_rf (Option.map g.1 ((sKids σ p)[a + d]?))), (8, .int (nI d)), (7, .int (I p 12 + sSt σ p 5 + zsum (fun j => sO σ (sWD σ) (kd σ p (a + j)) + sSt σ p 4) d)), (6, .int (sFr σ p (sWD σ) (sIn (sWD σ p) (sSt σ p 5)) a z)), (5, .int (nI (z - a))), (0, .ref (g.1 p)), (1, va_rf (Option.map g.1 ((sKids σ p)[a]?))), (2, va_rf (Option.map g.1 ((sKids σ p)[z]?))), (3, .int tp), (4, .int hg)] [] := by
      intro zf
      induction zf with
      | zero =>
        intro d Ir hd hset hn2
        exact absurd hn2 (Nat.not_lt_zero _)
      | succ zf ih =>
        intro d Ir hd hset hn2
        have htr := ht.lay (hset.lay ht.1 (by decide))
        refine z_aload (pc := 85) hC 0 dX2_placeLine_85 rfl (z_isr_o _) ?_
        refine z_ifnull (pc := 87) (tgt := 214) hC dX2_placeLine_87 (by decide) (fun h87 => ?_) (fun a87 h87 => ?_)
        · skip
          rw [h87]
          show zJ C g N 11 0 0 Ir P J 214 [(9, .null), (8, .int (nI d)), (7, .int (I p 12 + sSt σ p 5 + zsum (fun j => sO σ (sWD σ) (kd σ p (a + j)) + sSt σ p 4) d)), (6, .int (sFr σ p (sWD σ) (sIn (sWD σ p) (sSt σ p 5)) a z)), (5, .int (nI (z - a))), (0, .ref (g.1 p)), (1, va_rf (Option.map g.1 ((sKids σ p)[a]?))), (2, va_rf (Option.map g.1 ((sKids σ p)[z]?))), (3, .int tp), (4, .int hg)] []
          have ed : d = z - a := by
            have := List.getElem?_eq_none_iff.mp h87
            have q : (sKids σ p).length = kn σ p := rfl
            omega
          exact z_vret (pc := 214) hC hE dX2_placeLine_214 (by rw [show a + d = z by omega] at hset; exact ⟨rfl, rfl, rfl, hset⟩)
        · skip
          rw [h87]
          show zJ C g N 11 0 0 Ir P J 90 [(9, .ref (g.1 a87)), (8, .int (nI d)), (7, .int (I p 12 + sSt σ p 5 + zsum (fun j => sO σ (sWD σ) (kd σ p (a + j)) + sSt σ p 4) d)), (6, .int (sFr σ p (sWD σ) (sIn (sWD σ p) (sSt σ p 5)) a z)), (5, .int (nI (z - a))), (0, .ref (g.1 p)), (1, va_rf (Option.map g.1 ((sKids σ p)[a]?))), (2, va_rf (Option.map g.1 ((sKids σ p)[z]?))), (3, .int tp), (4, .int hg)] []
          obtain ⟨hkd87, hik87, hmem87⟩ := sKids_get h87
          have hx87 := sKids_lt ht.1 hmem87
          refine z_aload (pc := 90) hC 0 dX2_placeLine_90 rfl z_isr_r ?_
          refine z_aload_n (pc := 92) hC 7 dX2_placeLine_92 rfl rfl (z_isr_o _) ?_
          refine z_acmp_eq (pc := 93) (tgt := 214) (x := (some a87)) (y := ((sKids σ p)[z]?)) hC dX2_placeLine_93 (by decide) (fun b q => by cases q; exact z_ltb hC hx87.2.1) (fun b q => z_ltb hC (sKids_lt ht.1 (List.mem_of_getElem? q)).2.1) (fun h93 => ?_) (fun h93 => ?_)
          · skip
            have ed : d = z - a := by
              have := zlist_inj sKids_nd h87 h93.symm
              omega
            exact z_vret (pc := 214) hC hE dX2_placeLine_214 (by rw [show a + d = z by omega] at hset; exact ⟨rfl, rfl, rfl, hset⟩)
          · skip
            have ed : a + d < z := by
              rcases Nat.lt_or_ge (a + d) z with q | q
              · exact q
              · have e : a + d = z := by omega
                rw [e] at h87; exact absurd h87.symm h93
            refine z_aload (pc := 96) hC 0 dX2_placeLine_96 rfl z_isr_r ?_
            refine z_aload (pc := 98) hC 0 dX2_placeLine_98 rfl z_isr_r ?_
            refine z_iload (pc := 100) hC 9 dX2_placeLine_100 rfl ?_
            refine z_cS (pc := 102) (st := [.ref (g.1 a87)]) hC [.ref (g.1 a87), .int hg] (kX2_heightInLine C.2.1 g N Ir P J htr a87 hx87.2.2.1 hx87.2.2.2.2 ((hset.oth (by decide)).trans (hnh a87 hmem87)) hg) zkX2_heightInLine zm_3_23 ⟨rfl, rfl⟩ rfl rfl hRm ⟨Nat.le_of_ble_eq_true rfl, Nat.le_of_ble_eq_true rfl⟩ (Nat.le_of_ble_eq_true rfl) ⟨Nat.zero_le _, Nat.zero_le _⟩ dX2_placeLine_102 ?_
            refine z_pI (pc := 105) hC 0 15 (z_shb (zTr_lt ht hx87.2.2.1)) (z_ltb hC (zTr_lt ht hx87.2.2.1)) rfl inX0 tyX0_ok nmX0 (by decide) rfl zm_1_75 rfl rfl rfl dX2_placeLine_105 ?_
            refine z_iload (pc := 108) hC 9 dX2_placeLine_108 rfl ?_
            refine z_aload (pc := 110) hC 0 dX2_placeLine_110 rfl z_isr_r ?_
            refine z_gI (pc := 112) hC 0 15 (x := sRoH σ a87 hg) (z_shb (zTr_lt ht hx87.2.2.1)) (z_ltb hC (zTr_lt ht hx87.2.2.1)) rfl inX0 (by decide) rfl zm_1_75 (z_u_s _ _ _ _) dX2_placeLine_112 ?_
            refine z_isub (pc := 115) hC dX2_placeLine_115 ?_
            refine z_aload (pc := 116) hC 0 dX2_placeLine_116 rfl z_isr_r ?_
            refine z_cV (pc := 118) (st := [.int (hg - (sRoH σ a87 hg))]) hC [] (kX0_margins C.2.1 g N (z_u Ir a87 15 (sRoH σ a87 hg)) P J a87 (zTr_lt ht hx87.2.2.1) (sSt σ a87 6) (zTr_st (htr.lay (zLay.rf.u (zNK (a := a87) (k := 15) (zTr_lt ht hx87.2.2.1) (by decide)))) hx87.2.2.1 (by decide))) (z_shb (zTr_lt ht hx87.2.2.1)) (z_ltb hC (zTr_lt ht hx87.2.2.1)) rfl zkX0_margins zm_2_129 ⟨rfl, rfl⟩ rfl rfl hRm ⟨Nat.le_of_ble_eq_true rfl, Nat.le_of_ble_eq_true rfl⟩ (Nat.le_of_ble_eq_true rfl) ⟨Nat.zero_le _, Nat.zero_le _⟩ dX2_placeLine_118 ?_
            refine z_isub (pc := 121) hC dX2_placeLine_121 ?_
            refine z_istore (pc := 122) (lv' := [(10, .int ((hg - (sRoH σ a87 hg)) - (2 * sSt σ a87 6))), (9, .ref (g.1 a87)), (8, .int (nI d)), (7, .int (I p 12 + sSt σ p 5 + zsum (fun j => sO σ (sWD σ) (kd σ p (a + j)) + sSt σ p 4) d)), (6, .int (sFr σ p (sWD σ) (sIn (sWD σ p) (sSt σ p 5)) a z)), (5, .int (nI (z - a))), (0, .ref (g.1 p)), (1, va_rf (Option.map g.1 ((sKids σ p)[a]?))), (2, va_rf (Option.map g.1 ((sKids σ p)[z]?))), (3, .int tp), (4, .int hg)]) hC dX2_placeLine_122 (by decide) rfl ?_
            refine z_aload (pc := 124) hC 1 dX2_placeLine_124 rfl z_isr_r ?_
            refine z_iload (pc := 126) hC 3 dX2_placeLine_126 rfl ?_
            refine z_aload_n (pc := 128) hC 6 dX2_placeLine_128 rfl rfl z_isr_r ?_
            refine z_iconst (pc := 129) (v := 2) hC dX2_placeLine_129 rfl ?_
            refine z_cV (pc := 130) (st := [.int (I p 12 + sSt σ p 5 + zsum (fun j => sO σ (sWD σ) (kd σ p (a + j)) + sSt σ p 4) d), .ref (g.1 a87)]) hC [.int 2] (kX0_of C.2.1 g N (z_u Ir a87 15 (sRoH σ a87 hg)) P J p 2 (zTr_lt ht he) (by decide) 2 rfl (sSt σ p 2) (zTr_st (htr.lay (zLay.rf.u (zNK (a := a87) (k := 15) (zTr_lt ht hx87.2.2.1) (by decide)))) he (by decide))) (z_shb (zTr_lt ht he)) (z_ltb hC (zTr_lt ht he)) rfl zkX0_of zm_2_125 ⟨rfl, rfl⟩ rfl rfl hRm ⟨Nat.le_of_ble_eq_true rfl, Nat.le_of_ble_eq_true rfl⟩ (Nat.le_of_ble_eq_true rfl) ⟨Nat.zero_le _, Nat.zero_le _⟩ dX2_placeLine_130 ?_
            refine z_iload (pc := 133) hC 4 dX2_placeLine_133 rfl ?_
            refine z_iload (pc := 135) hC 2 dX2_placeLine_135 rfl ?_
            refine z_iload (pc := 137) hC 5 dX2_placeLine_137 rfl ?_
            refine z_cS (pc := 139) (st := [.int (I p 12 + sSt σ p 5 + zsum (fun j => sO σ (sWD σ) (kd σ p (a + j)) + sSt σ p 4) d), .ref (g.1 a87)]) hC [.int (sSt σ p 2), .int (sFr σ p (sWD σ) (sIn (sWD σ p) (sSt σ p 5)) a z), .int (nI d), .int (nI (z - a))] (kX2_justifyShift C.2.1 g N (z_u Ir a87 15 (sRoH σ a87 hg)) P J (sSt σ p 2) (sFr σ p (sWD σ) (sIn (sWD σ p) (sSt σ p 5)) a z) d (z - a) (by omega) (by have := kn_le ht.1 p; omega)) zkX2_justifyShift zm_3_14 ⟨rfl, rfl⟩ rfl rfl hRm ⟨Nat.le_of_ble_eq_true rfl, Nat.le_of_ble_eq_true rfl⟩ (Nat.le_of_ble_eq_true rfl) ⟨Nat.zero_le _, Nat.zero_le _⟩ dX2_placeLine_139 ?_
            refine z_iadd (pc := 142) hC dX2_placeLine_142 ?_
            refine z_aload (pc := 143) hC 1 dX2_placeLine_143 rfl z_isr_r ?_
            refine z_bipush (pc := 145) (v := 6) hC dX2_placeLine_145 rfl ?_
            refine z_cV (pc := 147) (st := [.int ((I p 12 + sSt σ p 5 + zsum (fun j => sO σ (sWD σ) (kd σ p (a + j)) + sSt σ p 4) d) + (sJu (sSt σ p 2) (sFr σ p (sWD σ) (sIn (sWD σ p) (sSt σ p 5)) a z) d (z - a))), .ref (g.1 a87)]) hC [.int 6] (kX0_of C.2.1 g N (z_u Ir a87 15 (sRoH σ a87 hg)) P J a87 6 (zTr_lt ht hx87.2.2.1) (by decide) 6 rfl (sSt σ a87 6) (zTr_st (htr.lay (zLay.rf.u (zNK (a := a87) (k := 15) (zTr_lt ht hx87.2.2.1) (by decide)))) hx87.2.2.1 (by decide))) (z_shb (zTr_lt ht hx87.2.2.1)) (z_ltb hC (zTr_lt ht hx87.2.2.1)) rfl zkX0_of zm_2_125 ⟨rfl, rfl⟩ rfl rfl hRm ⟨Nat.le_of_ble_eq_true rfl, Nat.le_of_ble_eq_true rfl⟩ (Nat.le_of_ble_eq_true rfl) ⟨Nat.zero_le _, Nat.zero_le _⟩ dX2_placeLine_147 ?_
            refine z_iadd (pc := 150) hC dX2_placeLine_150 ?_
            refine z_pI (pc := 151) hC 0 12 (z_shb (zTr_lt ht hx87.2.2.1)) (z_ltb hC (zTr_lt ht hx87.2.2.1)) rfl inX0 tyX0_ok nmX0 (by decide) rfl zm_1_67 rfl rfl rfl dX2_placeLine_151 ?_
            refine z_aload (pc := 154) hC 1 dX2_placeLine_154 rfl z_isr_r ?_
            refine z_iload_n (pc := 156) hC 9 dX2_placeLine_156 rfl rfl ?_
            refine z_aload (pc := 157) hC 1 dX2_placeLine_157 rfl z_isr_r ?_
            refine z_cV (pc := 159) (st := [.int tp, .ref (g.1 a87)]) hC [] (kSX0_alignment C.2.1 g N (z_u (z_u Ir a87 15 (sRoH σ a87 hg)) a87 12 (((I p 12 + sSt σ p 5 + zsum (fun j => sO σ (sWD σ) (kd σ p (a + j)) + sSt σ p 4) d) + (sJu (sSt σ p 2) (sFr σ p (sWD σ) (sIn (sWD σ p) (sSt σ p 5)) a z) d (z - a))) + (sSt σ a87 6))) P J ((htr.lay (zLay.rf.u (zNK (a := a87) (k := 15) (zTr_lt ht hx87.2.2.1) (by decide)))).lay (zLay.rf.u (zNK (a := a87) (k := 12) (zTr_lt ht hx87.2.2.1) (by decide)))) a87 hx87.2.2.1 hx87.2.2.2.2) (z_shb (zTr_lt ht hx87.2.2.1)) (z_ltb hC (zTr_lt ht hx87.2.2.1)) rfl zkX0_alignment zm_2_159 ⟨rfl, rfl⟩ rfl rfl hRm ⟨Nat.le_of_ble_eq_true rfl, Nat.le_of_ble_eq_true rfl⟩ (Nat.le_of_ble_eq_true rfl) ⟨Nat.zero_le _, Nat.zero_le _⟩ dX2_placeLine_159 ?_
            refine z_iload (pc := 162) hC 0 dX2_placeLine_162 rfl ?_
            refine z_cS (pc := 164) (st := [.int tp, .ref (g.1 a87)]) hC [.int (sAl σ a87), .int ((hg - (sRoH σ a87 hg)) - (2 * sSt σ a87 6))] (kX2_alignShift C.2.1 g N (z_u (z_u Ir a87 15 (sRoH σ a87 hg)) a87 12 (((I p 12 + sSt σ p 5 + zsum (fun j => sO σ (sWD σ) (kd σ p (a + j)) + sSt σ p 4) d) + (sJu (sSt σ p 2) (sFr σ p (sWD σ) (sIn (sWD σ p) (sSt σ p 5)) a z) d (z - a))) + (sSt σ a87 6))) P J (sAl σ a87) ((hg - (sRoH σ a87 hg)) - (2 * sSt σ a87 6))) zkX2_alignShift zm_3_11 ⟨rfl, rfl⟩ rfl rfl hRm ⟨Nat.le_of_ble_eq_true rfl, Nat.le_of_ble_eq_true rfl⟩ (Nat.le_of_ble_eq_true rfl) ⟨Nat.zero_le _, Nat.zero_le _⟩ dX2_placeLine_164 ?_
            refine z_iadd (pc := 167) hC dX2_placeLine_167 ?_
            refine z_aload (pc := 168) hC 1 dX2_placeLine_168 rfl z_isr_r ?_
            refine z_bipush (pc := 170) (v := 6) hC dX2_placeLine_170 rfl ?_
            refine z_cV (pc := 172) (st := [.int (tp + (sAs (sAl σ a87) ((hg - (sRoH σ a87 hg)) - (2 * sSt σ a87 6)))), .ref (g.1 a87)]) hC [.int 6] (kX0_of C.2.1 g N (z_u (z_u Ir a87 15 (sRoH σ a87 hg)) a87 12 (((I p 12 + sSt σ p 5 + zsum (fun j => sO σ (sWD σ) (kd σ p (a + j)) + sSt σ p 4) d) + (sJu (sSt σ p 2) (sFr σ p (sWD σ) (sIn (sWD σ p) (sSt σ p 5)) a z) d (z - a))) + (sSt σ a87 6))) P J a87 6 (zTr_lt ht hx87.2.2.1) (by decide) 6 rfl (sSt σ a87 6) (zTr_st ((htr.lay (zLay.rf.u (zNK (a := a87) (k := 15) (zTr_lt ht hx87.2.2.1) (by decide)))).lay (zLay.rf.u (zNK (a := a87) (k := 12) (zTr_lt ht hx87.2.2.1) (by decide)))) hx87.2.2.1 (by decide))) (z_shb (zTr_lt ht hx87.2.2.1)) (z_ltb hC (zTr_lt ht hx87.2.2.1)) rfl zkX0_of zm_2_125 ⟨rfl, rfl⟩ rfl rfl hRm ⟨Nat.le_of_ble_eq_true rfl, Nat.le_of_ble_eq_true rfl⟩ (Nat.le_of_ble_eq_true rfl) ⟨Nat.zero_le _, Nat.zero_le _⟩ dX2_placeLine_172 ?_
            refine z_iadd (pc := 175) hC dX2_placeLine_175 ?_
            refine z_pI (pc := 176) hC 0 13 (z_shb (zTr_lt ht hx87.2.2.1)) (z_ltb hC (zTr_lt ht hx87.2.2.1)) rfl inX0 tyX0_ok nmX0 (by decide) rfl zm_1_70 rfl rfl rfl dX2_placeLine_176 ?_
            refine z_iload (pc := 179) hC 3 dX2_placeLine_179 rfl ?_
            refine z_aload (pc := 181) hC 1 dX2_placeLine_181 rfl z_isr_r ?_
            refine z_gI (pc := 183) hC 0 14 (x := sWD σ a87) (z_shb (zTr_lt ht hx87.2.2.1)) (z_ltb hC (zTr_lt ht hx87.2.2.1)) rfl inX0 (by decide) rfl zm_1_72 ((z_u_b _ _ (by decide)).trans ((z_u_b _ _ (by decide)).trans ((z_u_b _ _ (by decide)).trans ((hset.oth (by decide)).trans (hkw a87 hmem87))))) dX2_placeLine_183 ?_
            refine z_aload (pc := 186) hC 1 dX2_placeLine_186 rfl z_isr_r ?_
            refine z_cV (pc := 188) (st := [.int (sWD σ a87), .int (I p 12 + sSt σ p 5 + zsum (fun j => sO σ (sWD σ) (kd σ p (a + j)) + sSt σ p 4) d)]) hC [] (kX0_margins C.2.1 g N (z_u (z_u (z_u Ir a87 15 (sRoH σ a87 hg)) a87 12 (((I p 12 + sSt σ p 5 + zsum (fun j => sO σ (sWD σ) (kd σ p (a + j)) + sSt σ p 4) d) + (sJu (sSt σ p 2) (sFr σ p (sWD σ) (sIn (sWD σ p) (sSt σ p 5)) a z) d (z - a))) + (sSt σ a87 6))) a87 13 ((tp + (sAs (sAl σ a87) ((hg - (sRoH σ a87 hg)) - (2 * sSt σ a87 6)))) + (sSt σ a87 6))) P J a87 (zTr_lt ht hx87.2.2.1) (sSt σ a87 6) (zTr_st (((htr.lay (zLay.rf.u (zNK (a := a87) (k := 15) (zTr_lt ht hx87.2.2.1) (by decide)))).lay (zLay.rf.u (zNK (a := a87) (k := 12) (zTr_lt ht hx87.2.2.1) (by decide)))).lay (zLay.rf.u (zNK (a := a87) (k := 13) (zTr_lt ht hx87.2.2.1) (by decide)))) hx87.2.2.1 (by decide))) (z_shb (zTr_lt ht hx87.2.2.1)) (z_ltb hC (zTr_lt ht hx87.2.2.1)) rfl zkX0_margins zm_2_129 ⟨rfl, rfl⟩ rfl rfl hRm ⟨Nat.le_of_ble_eq_true rfl, Nat.le_of_ble_eq_true rfl⟩ (Nat.le_of_ble_eq_true rfl) ⟨Nat.zero_le _, Nat.zero_le _⟩ dX2_placeLine_188 ?_
            refine z_iadd (pc := 191) hC dX2_placeLine_191 ?_
            refine z_aload_n (pc := 192) hC 6 dX2_placeLine_192 rfl rfl z_isr_r ?_
            refine z_iconst (pc := 193) (v := 4) hC dX2_placeLine_193 rfl ?_
            refine z_cV (pc := 194) (st := [.int ((sWD σ a87) + (2 * sSt σ a87 6)), .int (I p 12 + sSt σ p 5 + zsum (fun j => sO σ (sWD σ) (kd σ p (a + j)) + sSt σ p 4) d)]) hC [.int 4] (kX0_of C.2.1 g N (z_u (z_u (z_u Ir a87 15 (sRoH σ a87 hg)) a87 12 (((I p 12 + sSt σ p 5 + zsum (fun j => sO σ (sWD σ) (kd σ p (a + j)) + sSt σ p 4) d) + (sJu (sSt σ p 2) (sFr σ p (sWD σ) (sIn (sWD σ p) (sSt σ p 5)) a z) d (z - a))) + (sSt σ a87 6))) a87 13 ((tp + (sAs (sAl σ a87) ((hg - (sRoH σ a87 hg)) - (2 * sSt σ a87 6)))) + (sSt σ a87 6))) P J p 4 (zTr_lt ht he) (by decide) 4 rfl (sSt σ p 4) (zTr_st (((htr.lay (zLay.rf.u (zNK (a := a87) (k := 15) (zTr_lt ht hx87.2.2.1) (by decide)))).lay (zLay.rf.u (zNK (a := a87) (k := 12) (zTr_lt ht hx87.2.2.1) (by decide)))).lay (zLay.rf.u (zNK (a := a87) (k := 13) (zTr_lt ht hx87.2.2.1) (by decide)))) he (by decide))) (z_shb (zTr_lt ht he)) (z_ltb hC (zTr_lt ht he)) rfl zkX0_of zm_2_125 ⟨rfl, rfl⟩ rfl rfl hRm ⟨Nat.le_of_ble_eq_true rfl, Nat.le_of_ble_eq_true rfl⟩ (Nat.le_of_ble_eq_true rfl) ⟨Nat.zero_le _, Nat.zero_le _⟩ dX2_placeLine_194 ?_
            refine z_iadd (pc := 197) hC dX2_placeLine_197 ?_
            refine z_iadd (pc := 198) hC dX2_placeLine_198 ?_
            rw [show (I p 12 + sSt σ p 5 + zsum (fun j => sO σ (sWD σ) (kd σ p (a + j)) + sSt σ p 4) d) + (((sWD σ a87) + (2 * sSt σ a87 6)) + (sSt σ p 4)) = I p 12 + sSt σ p 5 + zsum (fun j => sO σ (sWD σ) (kd σ p (a + j)) + sSt σ p 4) (d + 1) from by show _ = I p 12 + sSt σ p 5 + (zsum (fun j => sO σ (sWD σ) (kd σ p (a + j)) + sSt σ p 4) d + (sO σ (sWD σ) (kd σ p (a + d)) + sSt σ p 4)); rw [hkd87, Int32.add_assoc]; rfl]
            refine z_istore (pc := 199) (lv' := [(7, .int (I p 12 + sSt σ p 5 + zsum (fun j => sO σ (sWD σ) (kd σ p (a + j)) + sSt σ p 4) (d + 1))), (10, .int ((hg - (sRoH σ a87 hg)) - (2 * sSt σ a87 6))), (9, .ref (g.1 a87)), (8, .int (nI d)), (6, .int (sFr σ p (sWD σ) (sIn (sWD σ p) (sSt σ p 5)) a z)), (5, .int (nI (z - a))), (0, .ref (g.1 p)), (1, va_rf (Option.map g.1 ((sKids σ p)[a]?))), (2, va_rf (Option.map g.1 ((sKids σ p)[z]?))), (3, .int tp), (4, .int hg)]) hC dX2_placeLine_199 (by decide) rfl ?_
            refine z_iinc (pc := 201) (v := nI (d + 1)) (lv' := [(8, .int (nI (d + 1))), (7, .int (I p 12 + sSt σ p 5 + zsum (fun j => sO σ (sWD σ) (kd σ p (a + j)) + sSt σ p 4) (d + 1))), (10, .int ((hg - (sRoH σ a87 hg)) - (2 * sSt σ a87 6))), (9, .ref (g.1 a87)), (6, .int (sFr σ p (sWD σ) (sIn (sWD σ p) (sSt σ p 5)) a z)), (5, .int (nI (z - a))), (0, .ref (g.1 p)), (1, va_rf (Option.map g.1 ((sKids σ p)[a]?))), (2, va_rf (Option.map g.1 ((sKids σ p)[z]?))), (3, .int tp), (4, .int hg)]) hC 3 dX2_placeLine_201 rfl (nI_1 d) (by decide) rfl ?_
            refine z_aload (pc := 204) hC 3 dX2_placeLine_204 rfl z_isr_r ?_
            refine z_gP (pc := 206) hC 0 7 (v := va_rf (Option.map g.1 ((sKids σ p)[a + (d + 1)]?))) (z_shb (zTr_lt ht hx87.2.2.1)) (z_ltb hC (zTr_lt ht hx87.2.2.1)) rfl inX0 (by decide) rfl zm_1_55 (by rw [(zLk_seg hl (zTr_lt ht he)).1 _ a87 h87]; rfl) dX2_placeLine_206 ?_
            refine z_astore (pc := 209) (lv' := [(9, va_rf (Option.map g.1 ((sKids σ p)[a + (d + 1)]?))), (8, .int (nI (d + 1))), (7, .int (I p 12 + sSt σ p 5 + zsum (fun j => sO σ (sWD σ) (kd σ p (a + j)) + sSt σ p 4) (d + 1))), (10, .int ((hg - (sRoH σ a87 hg)) - (2 * sSt σ a87 6))), (6, .int (sFr σ p (sWD σ) (sIn (sWD σ p) (sSt σ p 5)) a z)), (5, .int (nI (z - a))), (0, .ref (g.1 p)), (1, va_rf (Option.map g.1 ((sKids σ p)[a]?))), (2, va_rf (Option.map g.1 ((sKids σ p)[z]?))), (3, .int tp), (4, .int hg)]) hC dX2_placeLine_209 (by decide) (z_isr_o _) rfl ?_
            refine z_goto (pc := 211) (tgt := 85) hC dX2_placeLine_211 (by decide) ?_
            refine z_lvs (lv' := [(9, va_rf (Option.map g.1 ((sKids σ p)[a + (d + 1)]?))), (8, .int (nI (d + 1))), (7, .int (I p 12 + sSt σ p 5 + zsum (fun j => sO σ (sWD σ) (kd σ p (a + j)) + sSt σ p 4) (d + 1))), (6, .int (sFr σ p (sWD σ) (sIn (sWD σ p) (sSt σ p 5)) a z)), (5, .int (nI (z - a))), (0, .ref (g.1 p)), (1, va_rf (Option.map g.1 ((sKids σ p)[a]?))), (2, va_rf (Option.map g.1 ((sKids σ p)[z]?))), (3, .int tp), (4, .int hg)]) [0, 1, 2, 4, 5, 6, 7, 8, 9, 10] rfl ?_
            refine ih (d + 1) _ (by omega) (zsetv_3 sKids_nd h87 (Nat.le_add_right a d) hset (by decide) (by decide) (by decide) ?_ ?_ ?_) (by omega)
            · show _ = sRoH σ (kd σ p (a + d)) hg
              rw [hkd87]
            · show _ = I p 12 + sSt σ p 5 + sAlo σ p (sWD σ) (sIn (sWD σ p) (sSt σ p 5)) a z (a + d)
              unfold sAlo sBf
              rw [Nat.add_sub_cancel_left, hkd87]
              simp only [Int32.add_assoc]
            · show _ = tp + sAcr σ (kd σ p (a + d)) (sRoH σ (kd σ p (a + d)) hg) hg
              unfold sAcr
              rw [hkd87, ← zss, Int32.add_assoc]
    have L0 := L85 (z - a + 1) 0 _ (Nat.zero_le _) (zsetv_0 _ _ _ _ _) (by omega)
    rw [show I p 12 + sSt σ p 5 + zsum (fun j => sO σ (sWD σ) (kd σ p (a + j)) + sSt σ p 4) 0 = I p 12 + sSt σ p 5 from Int32.add_zero _] at L0
    exact L0
  refine z_iconst (pc := 0) (v := 0) hC dX2_placeLine_0 rfl ?_
  refine z_istore (pc := 1) (lv' := [(5, .int 0), (0, .ref (g.1 p)), (1, va_rf (Option.map g.1 ((sKids σ p)[a]?))), (2, va_rf (Option.map g.1 ((sKids σ p)[z]?))), (3, .int tp), (4, .int hg)]) hC dX2_placeLine_1 (by decide) rfl ?_
  refine z_aload_n (pc := 3) hC 1 dX2_placeLine_3 rfl rfl z_isr_r ?_
  refine z_cV (pc := 4) (st := []) hC [] (kSX0_innerWidth C.2.1 g N I P J ht p he (sWD σ p) hW) (z_shb (zTr_lt ht he)) (z_ltb hC (zTr_lt ht he)) rfl zkX0_innerWidth zm_2_154 ⟨rfl, rfl⟩ rfl rfl hRm ⟨Nat.le_of_ble_eq_true rfl, Nat.le_of_ble_eq_true rfl⟩ (Nat.le_of_ble_eq_true rfl) ⟨Nat.zero_le _, Nat.zero_le _⟩ dX2_placeLine_4 ?_
  refine z_istore (pc := 7) (lv' := [(6, .int (sIn (sWD σ p) (sSt σ p 5))), (5, .int 0), (0, .ref (g.1 p)), (1, va_rf (Option.map g.1 ((sKids σ p)[a]?))), (2, va_rf (Option.map g.1 ((sKids σ p)[z]?))), (3, .int tp), (4, .int hg)]) hC dX2_placeLine_7 (by decide) rfl ?_
  refine z_aload_n (pc := 9) hC 3 dX2_placeLine_9 rfl rfl (z_isr_o _) ?_
  refine z_astore (pc := 10) (lv' := [(7, va_rf (Option.map g.1 ((sKids σ p)[a]?))), (6, .int (sIn (sWD σ p) (sSt σ p 5))), (5, .int 0), (0, .ref (g.1 p)), (1, va_rf (Option.map g.1 ((sKids σ p)[a]?))), (2, va_rf (Option.map g.1 ((sKids σ p)[z]?))), (3, .int tp), (4, .int hg)]) hC dX2_placeLine_10 (by decide) (z_isr_o _) rfl ?_
  have L12 : ∀ (zf : Nat) (d : Nat) (hd : d ≤ z - a), z - a - d < zf → zJ C g N 11 0 0 I P J 12 [(7, va_rf (Option.map g.1 ((sKids σ p)[a + d]?))), (6, .int (sIn (sWD σ p) (sSt σ p 5) - zsum (fun j => sO σ (sWD σ) (kd σ p (a + j))) d)), (5, .int (nI d)), (0, .ref (g.1 p)), (1, va_rf (Option.map g.1 ((sKids σ p)[a]?))), (2, va_rf (Option.map g.1 ((sKids σ p)[z]?))), (3, .int tp), (4, .int hg)] [] := by
    intro zf
    induction zf with
    | zero =>
      intro d hd hn2
      exact absurd hn2 (Nat.not_lt_zero _)
    | succ zf ih =>
      intro d hd hn2
      refine z_aload (pc := 12) hC 0 dX2_placeLine_12 rfl (z_isr_o _) ?_
      refine z_ifnull (pc := 14) (tgt := 52) hC dX2_placeLine_14 (by decide) (fun h14 => ?_) (fun a14 h14 => ?_)
      · skip
        rw [h14]
        show zJ C g N 11 0 0 I P J 52 [(7, .null), (6, .int (sIn (sWD σ p) (sSt σ p 5) - zsum (fun j => sO σ (sWD σ) (kd σ p (a + j))) d)), (5, .int (nI d)), (0, .ref (g.1 p)), (1, va_rf (Option.map g.1 ((sKids σ p)[a]?))), (2, va_rf (Option.map g.1 ((sKids σ p)[z]?))), (3, .int tp), (4, .int hg)] []
        have ed : d = z - a := by
          have := List.getElem?_eq_none_iff.mp h14
          have q : (sKids σ p).length = kn σ p := rfl
          omega
        refine z_lvs (lv' := [(6, .int (sIn (sWD σ p) (sSt σ p 5) - zsum (fun j => sO σ (sWD σ) (kd σ p (a + j))) d)), (5, .int (nI d)), (0, .ref (g.1 p)), (1, va_rf (Option.map g.1 ((sKids σ p)[a]?))), (2, va_rf (Option.map g.1 ((sKids σ p)[z]?))), (3, .int tp), (4, .int hg)]) [1, 2, 3, 4, 5, 6, 7] rfl ?_
        subst ed
        exact J52
      · skip
        rw [h14]
        show zJ C g N 11 0 0 I P J 17 [(7, .ref (g.1 a14)), (6, .int (sIn (sWD σ p) (sSt σ p 5) - zsum (fun j => sO σ (sWD σ) (kd σ p (a + j))) d)), (5, .int (nI d)), (0, .ref (g.1 p)), (1, va_rf (Option.map g.1 ((sKids σ p)[a]?))), (2, va_rf (Option.map g.1 ((sKids σ p)[z]?))), (3, .int tp), (4, .int hg)] []
        obtain ⟨hkd14, hik14, hmem14⟩ := sKids_get h14
        have hx14 := sKids_lt ht.1 hmem14
        refine z_aload (pc := 17) hC 0 dX2_placeLine_17 rfl z_isr_r ?_
        refine z_aload_n (pc := 19) hC 5 dX2_placeLine_19 rfl rfl (z_isr_o _) ?_
        refine z_acmp_eq (pc := 20) (tgt := 52) (x := (some a14)) (y := ((sKids σ p)[z]?)) hC dX2_placeLine_20 (by decide) (fun b q => by cases q; exact z_ltb hC hx14.2.1) (fun b q => z_ltb hC (sKids_lt ht.1 (List.mem_of_getElem? q)).2.1) (fun h20 => ?_) (fun h20 => ?_)
        · skip
          have ed : d = z - a := by
            have := zlist_inj sKids_nd h14 h20.symm
            omega
          refine z_lvs (lv' := [(6, .int (sIn (sWD σ p) (sSt σ p 5) - zsum (fun j => sO σ (sWD σ) (kd σ p (a + j))) d)), (5, .int (nI d)), (0, .ref (g.1 p)), (1, va_rf (Option.map g.1 ((sKids σ p)[a]?))), (2, va_rf (Option.map g.1 ((sKids σ p)[z]?))), (3, .int tp), (4, .int hg)]) [1, 2, 3, 4, 5, 6, 7] rfl ?_
          subst ed
          exact J52
        · skip
          have ed : a + d < z := by
            rcases Nat.lt_or_ge (a + d) z with q | q
            · exact q
            · have e : a + d = z := by omega
              rw [e] at h14; exact absurd h14.symm h20
          refine z_iinc (pc := 23) (v := nI (d + 1)) (lv' := [(5, .int (nI (d + 1))), (7, .ref (g.1 a14)), (6, .int (sIn (sWD σ p) (sSt σ p 5) - zsum (fun j => sO σ (sWD σ) (kd σ p (a + j))) d)), (0, .ref (g.1 p)), (1, va_rf (Option.map g.1 ((sKids σ p)[a]?))), (2, va_rf (Option.map g.1 ((sKids σ p)[z]?))), (3, .int tp), (4, .int hg)]) hC 2 dX2_placeLine_23 rfl (nI_1 d) (by decide) rfl ?_
          refine z_iload (pc := 26) hC 2 dX2_placeLine_26 rfl ?_
          refine z_aload (pc := 28) hC 1 dX2_placeLine_28 rfl z_isr_r ?_
          refine z_gI (pc := 30) hC 0 14 (x := sWD σ a14) (z_shb (zTr_lt ht hx14.2.2.1)) (z_ltb hC (zTr_lt ht hx14.2.2.1)) rfl inX0 (by decide) rfl zm_1_72 (hkw a14 hmem14) dX2_placeLine_30 ?_
          refine z_aload (pc := 33) hC 1 dX2_placeLine_33 rfl z_isr_r ?_
          refine z_cV (pc := 35) (st := [.int (sWD σ a14), .int (sIn (sWD σ p) (sSt σ p 5) - zsum (fun j => sO σ (sWD σ) (kd σ p (a + j))) d)]) hC [] (kX0_margins C.2.1 g N I P J a14 (zTr_lt ht hx14.2.2.1) (sSt σ a14 6) (zTr_st ht hx14.2.2.1 (by decide))) (z_shb (zTr_lt ht hx14.2.2.1)) (z_ltb hC (zTr_lt ht hx14.2.2.1)) rfl zkX0_margins zm_2_129 ⟨rfl, rfl⟩ rfl rfl hRm ⟨Nat.le_of_ble_eq_true rfl, Nat.le_of_ble_eq_true rfl⟩ (Nat.le_of_ble_eq_true rfl) ⟨Nat.zero_le _, Nat.zero_le _⟩ dX2_placeLine_35 ?_
          refine z_iadd (pc := 38) hC dX2_placeLine_38 ?_
          refine z_isub (pc := 39) hC dX2_placeLine_39 ?_
          rw [show (sIn (sWD σ p) (sSt σ p 5) - zsum (fun j => sO σ (sWD σ) (kd σ p (a + j))) d) - ((sWD σ a14) + (2 * sSt σ a14 6)) = sIn (sWD σ p) (sSt σ p 5) - zsum (fun j => sO σ (sWD σ) (kd σ p (a + j))) (d + 1) from by rw [← zdiff]; show _ = _ - sO σ (sWD σ) (kd σ p (a + d)); rw [hkd14]; rfl]
          refine z_istore (pc := 40) (lv' := [(6, .int (sIn (sWD σ p) (sSt σ p 5) - zsum (fun j => sO σ (sWD σ) (kd σ p (a + j))) (d + 1))), (5, .int (nI (d + 1))), (7, .ref (g.1 a14)), (0, .ref (g.1 p)), (1, va_rf (Option.map g.1 ((sKids σ p)[a]?))), (2, va_rf (Option.map g.1 ((sKids σ p)[z]?))), (3, .int tp), (4, .int hg)]) hC dX2_placeLine_40 (by decide) rfl ?_
          refine z_aload (pc := 42) hC 2 dX2_placeLine_42 rfl z_isr_r ?_
          refine z_gP (pc := 44) hC 0 7 (v := va_rf (Option.map g.1 ((sKids σ p)[a + (d + 1)]?))) (z_shb (zTr_lt ht hx14.2.2.1)) (z_ltb hC (zTr_lt ht hx14.2.2.1)) rfl inX0 (by decide) rfl zm_1_55 (by rw [(zLk_seg hl (zTr_lt ht he)).1 _ a14 h14]; rfl) dX2_placeLine_44 ?_
          refine z_astore (pc := 47) (lv' := [(7, va_rf (Option.map g.1 ((sKids σ p)[a + (d + 1)]?))), (6, .int (sIn (sWD σ p) (sSt σ p 5) - zsum (fun j => sO σ (sWD σ) (kd σ p (a + j))) (d + 1))), (5, .int (nI (d + 1))), (0, .ref (g.1 p)), (1, va_rf (Option.map g.1 ((sKids σ p)[a]?))), (2, va_rf (Option.map g.1 ((sKids σ p)[z]?))), (3, .int tp), (4, .int hg)]) hC dX2_placeLine_47 (by decide) (z_isr_o _) rfl ?_
          refine z_goto (pc := 49) (tgt := 12) hC dX2_placeLine_49 (by decide) ?_
          exact ih (d + 1) (by omega) (by omega)
  have L0 := L12 (z - a + 1) 0 (Nat.zero_le _) (by omega)
  rw [show sIn (sWD σ p) (sSt σ p 5) - zsum (fun j => sO σ (sWD σ) (kd σ p (a + j))) 0 = sIn (sWD σ p) (sSt σ p 5) from Int32.sub_zero _] at L0
  exact L0
end ZPM
