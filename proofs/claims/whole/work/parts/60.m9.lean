section ZM9
set_option maxHeartbeats 4000000 in
set_option maxRecDepth 100000 in
theorem kX6_endOfLine (lx : Launch) (g : zG) (N : Nat) (I : Nat → Nat → Int32) (P : Nat → Nat → Option Nat) (J : Nat → Nat → Int64) {σ : zS} (hm : zMd σ I) (p : Nat) (he : sEx σ p = true) (hk : zKq σ p I) (nw : Nat → Int32) (hn : ∀ k, k ∈ sKids σ p → I 101 (2 * k + 0) = nw k) (W : Int32) (hW : I 102 (2 * p + 0) = W) (hrow : ¬ sSt σ p 0 = 1) (a : Nat) (hap : a < kn σ p) (hbeg : zbeg (sLn σ nw p W) a = a) : z_Ct lx yX6_endOfLine (zT yX6_endOfLine cX6_endOfLine 8 (Option.some FieldType.int)) ({ frames := 3, cells := 0, slots := 0, locals := 70 } : Room) g N I P J [.ref (g.1 95), .int (nI p), .int (nI a)] (zMu (some (.int (nI (zend (sLn σ nw p W) (kn σ p) a)))) I P J) 0 0 := by
  refine z_of (by decide) (Nat.le_of_ble_eq_true rfl) (lv0 := [(0, .ref (g.1 95)), (1, .int (nI p)), (2, .int (nI a))]) rfl ?_
  intro C hlx hC hE hRm
  have hC : zX C cX6_endOfLine 8 RX6 (zT yX6_endOfLine cX6_endOfLine 8 (Option.some FieldType.int)) g N := hC
  refine z_aload_n (pc := 0) hC 0 dX6_endOfLine_0 rfl rfl z_isr_r ?_
  refine z_iload_n (pc := 1) hC 1 dX6_endOfLine_1 rfl rfl ?_
  refine z_iconst (pc := 2) (v := 1) hC dX6_endOfLine_2 rfl ?_
  refine z_cV (pc := 3) (st := []) hC [.int (nI p), .int 1] (kX6_of C.2.1 g N I P J hm p 1 he (by decide) 1 rfl) rfl (z_lt hC (by decide)) rfl zkX6_of zm_4_162 ⟨rfl, rfl⟩ rfl rfl hRm ⟨Nat.le_of_ble_eq_true rfl, Nat.le_of_ble_eq_true rfl⟩ (Nat.le_of_ble_eq_true rfl) ⟨Nat.zero_le _, Nat.zero_le _⟩ dX6_endOfLine_3 ?_
  refine z_if_ne (pc := 6) (tgt := 14) hC dX6_endOfLine_6 (by decide) (fun h6 => ?_) (fun h6 => ?_)
  · skip
    have hwr := swr hm.1 he h6
    refine z_aload_n (pc := 14) hC 0 dX6_endOfLine_14 rfl rfl z_isr_r ?_
    refine z_iload_n (pc := 15) hC 1 dX6_endOfLine_15 rfl rfl ?_
    refine z_iconst (pc := 16) (v := 0) hC dX6_endOfLine_16 rfl ?_
    refine z_cV (pc := 17) (st := []) hC [.int (nI p), .int 0] (kX6_inner C.2.1 g N I P J hm p 0 he (by decide) W hW) rfl (z_lt hC (by decide)) rfl zkX6_inner zm_5_4 ⟨rfl, rfl⟩ rfl rfl hRm ⟨Nat.le_of_ble_eq_true rfl, Nat.le_of_ble_eq_true rfl⟩ (Nat.le_of_ble_eq_true rfl) ⟨Nat.zero_le _, Nat.zero_le _⟩ dX6_endOfLine_17 ?_
    refine z_istore_n (pc := 20) (lv' := [(3, .int (sIn W (sSt σ p 5))), (0, .ref (g.1 95)), (1, .int (nI p)), (2, .int (nI a))]) hC dX6_endOfLine_20 rfl (by decide) rfl ?_
    refine z_aload_n (pc := 21) hC 1 dX6_endOfLine_21 rfl rfl z_isr_r ?_
    refine z_aload_n (pc := 22) hC 1 dX6_endOfLine_22 rfl rfl z_isr_r ?_
    refine z_gF (pc := 23) hC 6 4 (t := 99) rfl (z_lt hC (by decide)) rfl inX6 (by decide) rfl zm_4_77 rfl dX6_endOfLine_23 ?_
    refine z_iload_n (pc := 26) hC 3 dX6_endOfLine_26 rfl rfl ?_
    refine z_iaN (pc := 27) hC a (x := nI (kd σ p a)) rfl (z_lt hC (by decide)) rfl (by have := kn_le hm.1 p; omega) (by decide) (hk.2 a hap) dX6_endOfLine_27 ?_
    refine z_aload_n (pc := 28) hC 1 dX6_endOfLine_28 rfl rfl z_isr_r ?_
    refine z_aload_n (pc := 29) hC 1 dX6_endOfLine_29 rfl rfl z_isr_r ?_
    refine z_gF (pc := 30) hC 6 4 (t := 99) rfl (z_lt hC (by decide)) rfl inX6 (by decide) rfl zm_4_77 rfl dX6_endOfLine_30 ?_
    refine z_iload_n (pc := 33) hC 3 dX6_endOfLine_33 rfl rfl ?_
    refine z_iaN (pc := 34) hC a (x := nI (kd σ p a)) rfl (z_lt hC (by decide)) rfl (by have := kn_le hm.1 p; omega) (by decide) (hk.2 a hap) dX6_endOfLine_34 ?_
    refine z_iconst (pc := 35) (v := 0) hC dX6_endOfLine_35 rfl ?_
    refine z_cV (pc := 36) (st := [.int (nI (kd σ p a)), .ref (g.1 95)]) hC [.int (nI (kd σ p a)), .int 0] (kX6_startOf C.2.1 g N I P J hm (kd σ p a) 0 (sKids_lt hm.1 (kd_mem hap)).2.2.1 (by decide) nw (hn _ (kd_mem hap))) rfl (z_lt hC (by decide)) rfl zkX6_startOf zm_5_27 ⟨rfl, rfl⟩ rfl rfl hRm ⟨Nat.le_of_ble_eq_true rfl, Nat.le_of_ble_eq_true rfl⟩ (Nat.le_of_ble_eq_true rfl) ⟨Nat.zero_le _, Nat.zero_le _⟩ dX6_endOfLine_36 ?_
    refine z_cV (pc := 39) (st := []) hC [.int (nI (kd σ p a)), .int (zlim (sB σ nw (kd σ p a)) (sSt σ (kd σ p a) 12) (sSt σ (kd σ p a) 14))] (kX6_outer C.2.1 g N I P J hm (kd σ p a) (sKids_lt hm.1 (kd_mem hap)).2.2.1 (zlim (sB σ nw (kd σ p a)) (sSt σ (kd σ p a) 12) (sSt σ (kd σ p a) 14))) rfl (z_lt hC (by decide)) rfl zkX6_outer zm_4_220 ⟨rfl, rfl⟩ rfl rfl hRm ⟨Nat.le_of_ble_eq_true rfl, Nat.le_of_ble_eq_true rfl⟩ (Nat.le_of_ble_eq_true rfl) ⟨Nat.zero_le _, Nat.zero_le _⟩ dX6_endOfLine_39 ?_
    refine z_eqI (show (zlim (sB σ nw (kd σ p a)) (sSt σ (kd σ p a) 12) (sSt σ (kd σ p a) 14)) + 2 * sSt σ (kd σ p a) 6 = (sLU σ nw p W a).2 from (sLU_beg hrow hbeg).symm) ?_
    refine z_istore (pc := 42) (lv' := [(4, .int ((sLU σ nw p W a).2)), (3, .int (sIn W (sSt σ p 5))), (0, .ref (g.1 95)), (1, .int (nI p)), (2, .int (nI a))]) hC dX6_endOfLine_42 (by decide) rfl ?_
    refine z_iload_n (pc := 44) hC 4 dX6_endOfLine_44 rfl rfl ?_
    refine z_iconst (pc := 45) (v := 1) hC dX6_endOfLine_45 rfl ?_
    refine z_iadd (pc := 46) hC dX6_endOfLine_46 ?_
    refine z_istore (pc := 47) (lv' := [(5, .int ((nI a) + 1)), (4, .int ((sLU σ nw p W a).2)), (3, .int (sIn W (sSt σ p 5))), (0, .ref (g.1 95)), (1, .int (nI p)), (2, .int (nI a))]) hC dX6_endOfLine_47 (by decide) rfl ?_
    refine z_iconst (pc := 49) (v := 1) hC dX6_endOfLine_49 rfl ?_
    refine z_istore (pc := 50) (lv' := [(6, .int 1), (5, .int ((nI a) + 1)), (4, .int ((sLU σ nw p W a).2)), (3, .int (sIn W (sSt σ p 5))), (0, .ref (g.1 95)), (1, .int (nI p)), (2, .int (nI a))]) hC dX6_endOfLine_50 (by decide) rfl ?_
    have L52 : ∀ (zf : Nat) (t : Nat) (mo : Bool) (u : Int32) (hz : zel σ nw p W a t mo u), kn σ p - t + mo.toNat < zf → zJ C g N 8 0 0 I P J 52 [(6, .int (zB mo)), (5, .int (nI t)), (4, .int u), (3, .int (sIn W (sSt σ p 5))), (0, .ref (g.1 95)), (1, .int (nI p)), (2, .int (nI a))] [] := by
      intro zf
      induction zf with
      | zero =>
        intro t mo u hz hn2
        exact absurd hn2 (Nat.not_lt_zero _)
      | succ zf ih =>
        intro t mo u hz hn2
        refine z_iload (pc := 52) hC 0 dX6_endOfLine_52 rfl ?_
        refine z_if_eq (pc := 54) (tgt := 136) hC dX6_endOfLine_54 (by decide) (fun h54 => ?_) (fun h54 => ?_)
        · skip
          have g54 := zB_f h54
          subst g54
          refine z_iload (pc := 136) hC 1 dX6_endOfLine_136 rfl ?_
          exact z_iret (pc := 138) hC hE dX6_endOfLine_138 (zMu_i (by rw [zel_f hz]))
        · skip
          have g54 := zB_t h54
          subst g54
          refine z_iload (pc := 57) hC 1 dX6_endOfLine_57 rfl ?_
          refine z_aload_n (pc := 59) hC 4 dX6_endOfLine_59 rfl rfl z_isr_r ?_
          refine z_gI (pc := 60) hC 6 5 (x := nI (kn σ p)) rfl (z_lt hC (by decide)) rfl inX6 (by decide) rfl zm_4_78 hk.1 dX6_endOfLine_60 ?_
          refine z_icmp_ge (pc := 63) (tgt := 136) hC dX6_endOfLine_63 (by decide) (fun h63 => ?_) (fun h63 => ?_)
          · skip
            have g63 := Int32.not_lt.mpr h63
            have htk := zc_ge h63 (by have := kn_le hm.1 p; have := hz.2.1; omega) (by have := kn_le hm.1 p; omega)
            refine z_iload (pc := 136) hC 1 dX6_endOfLine_136 rfl ?_
            exact z_iret (pc := 138) hC hE dX6_endOfLine_138 (zMu_i (by rw [zel_e hz htk]))
          · skip
            have g63 := Int32.not_le.mp h63
            have htk : t < kn σ p := zc_lt h63 (by have := kn_le hm.1 p; have := hz.2.1; omega) (by have := kn_le hm.1 p; omega)
            have hkm := kn_le hm.1 p
            refine z_iload (pc := 66) hC 2 dX6_endOfLine_66 rfl ?_
            refine z_aload_n (pc := 68) hC 4 dX6_endOfLine_68 rfl rfl z_isr_r ?_
            refine z_iload_n (pc := 69) hC 5 dX6_endOfLine_69 rfl rfl ?_
            refine z_iconst (pc := 70) (v := 4) hC dX6_endOfLine_70 rfl ?_
            refine z_cV (pc := 71) (st := [.int u]) hC [.int (nI p), .int 4] (kX6_of C.2.1 g N I P J hm p 4 he (by decide) 4 rfl) rfl (z_lt hC (by decide)) rfl zkX6_of zm_4_162 ⟨rfl, rfl⟩ rfl rfl hRm ⟨Nat.le_of_ble_eq_true rfl, Nat.le_of_ble_eq_true rfl⟩ (Nat.le_of_ble_eq_true rfl) ⟨Nat.zero_le _, Nat.zero_le _⟩ dX6_endOfLine_71 ?_
            refine z_iadd (pc := 74) hC dX6_endOfLine_74 ?_
            refine z_aload_n (pc := 75) hC 4 dX6_endOfLine_75 rfl rfl z_isr_r ?_
            refine z_aload_n (pc := 76) hC 4 dX6_endOfLine_76 rfl rfl z_isr_r ?_
            refine z_gF (pc := 77) hC 6 4 (t := 99) rfl (z_lt hC (by decide)) rfl inX6 (by decide) rfl zm_4_77 rfl dX6_endOfLine_77 ?_
            refine z_iload (pc := 80) hC 1 dX6_endOfLine_80 rfl ?_
            refine z_iaN (pc := 82) hC t (x := nI (kd σ p t)) rfl (z_lt hC (by decide)) rfl (by have := kn_le hm.1 p; omega) (by decide) (hk.2 t htk) dX6_endOfLine_82 ?_
            refine z_aload_n (pc := 83) hC 4 dX6_endOfLine_83 rfl rfl z_isr_r ?_
            refine z_aload_n (pc := 84) hC 4 dX6_endOfLine_84 rfl rfl z_isr_r ?_
            refine z_gF (pc := 85) hC 6 4 (t := 99) rfl (z_lt hC (by decide)) rfl inX6 (by decide) rfl zm_4_77 rfl dX6_endOfLine_85 ?_
            refine z_iload (pc := 88) hC 1 dX6_endOfLine_88 rfl ?_
            refine z_iaN (pc := 90) hC t (x := nI (kd σ p t)) rfl (z_lt hC (by decide)) rfl (by have := kn_le hm.1 p; omega) (by decide) (hk.2 t htk) dX6_endOfLine_90 ?_
            refine z_iconst (pc := 91) (v := 0) hC dX6_endOfLine_91 rfl ?_
            refine z_cV (pc := 92) (st := [.int (nI (kd σ p t)), .ref (g.1 95), .int (u + (sSt σ p 4))]) hC [.int (nI (kd σ p t)), .int 0] (kX6_startOf C.2.1 g N I P J hm (kd σ p t) 0 (sKids_lt hm.1 (kd_mem htk)).2.2.1 (by decide) nw (hn _ (kd_mem htk))) rfl (z_lt hC (by decide)) rfl zkX6_startOf zm_5_27 ⟨rfl, rfl⟩ rfl rfl hRm ⟨Nat.le_of_ble_eq_true rfl, Nat.le_of_ble_eq_true rfl⟩ (Nat.le_of_ble_eq_true rfl) ⟨Nat.zero_le _, Nat.zero_le _⟩ dX6_endOfLine_92 ?_
            refine z_cV (pc := 95) (st := [.int (u + (sSt σ p 4))]) hC [.int (nI (kd σ p t)), .int (zlim (sB σ nw (kd σ p t)) (sSt σ (kd σ p t) 12) (sSt σ (kd σ p t) 14))] (kX6_outer C.2.1 g N I P J hm (kd σ p t) (sKids_lt hm.1 (kd_mem htk)).2.2.1 (zlim (sB σ nw (kd σ p t)) (sSt σ (kd σ p t) 12) (sSt σ (kd σ p t) 14))) rfl (z_lt hC (by decide)) rfl zkX6_outer zm_4_220 ⟨rfl, rfl⟩ rfl rfl hRm ⟨Nat.le_of_ble_eq_true rfl, Nat.le_of_ble_eq_true rfl⟩ (Nat.le_of_ble_eq_true rfl) ⟨Nat.zero_le _, Nat.zero_le _⟩ dX6_endOfLine_95 ?_
            refine z_iadd (pc := 98) hC dX6_endOfLine_98 ?_
            refine z_eqI (show (u + (sSt σ p 4)) + ((zlim (sB σ nw (kd σ p t)) (sSt σ (kd σ p t) 12) (sSt σ (kd σ p t) 14)) + 2 * sSt σ (kd σ p t) 6) = u + sSt σ p 4 + sSO σ nw p t from rfl) ?_
            refine z_istore (pc := 99) (lv' := [(7, .int (u + sSt σ p 4 + sSO σ nw p t)), (6, .int (zB true)), (5, .int (nI t)), (4, .int u), (3, .int (sIn W (sSt σ p 5))), (0, .ref (g.1 95)), (1, .int (nI p)), (2, .int (nI a))]) hC dX6_endOfLine_99 (by decide) rfl ?_
            refine z_iload (pc := 101) hC 0 dX6_endOfLine_101 rfl ?_
            refine z_iload_n (pc := 103) hC 4 dX6_endOfLine_103 rfl rfl ?_
            refine z_icmp_gt (pc := 104) (tgt := 111) hC dX6_endOfLine_104 (by decide) (fun h104 => ?_) (fun h104 => ?_)
            · skip
              have g104 := Int32.not_le.mpr h104
              refine z_iconst (pc := 111) (v := 0) hC dX6_endOfLine_111 rfl ?_
              refine z_istore (pc := 112) (lv' := [(6, .int 0), (7, .int (u + sSt σ p 4 + sSO σ nw p t)), (5, .int (nI t)), (4, .int u), (3, .int (sIn W (sSt σ p 5))), (0, .ref (g.1 95)), (1, .int (nI p)), (2, .int (nI a))]) hC dX6_endOfLine_112 (by decide) rfl ?_
              refine z_iload (pc := 114) hC 1 dX6_endOfLine_114 rfl ?_
              refine z_istore (pc := 116) (lv' := [(4, .int (u + sSt σ p 4 + sSO σ nw p t)), (6, .int 0), (7, .int (u + sSt σ p 4 + sSO σ nw p t)), (5, .int (nI t)), (3, .int (sIn W (sSt σ p 5))), (0, .ref (g.1 95)), (1, .int (nI p)), (2, .int (nI a))]) hC dX6_endOfLine_116 (by decide) rfl ?_
              refine z_iload (pc := 118) hC 3 dX6_endOfLine_118 rfl ?_
              refine z_iload (pc := 120) hC 1 dX6_endOfLine_120 rfl ?_
              refine z_if_eq (pc := 122) (tgt := 129) hC dX6_endOfLine_122 (by decide) (fun h122 => ?_) (fun h122 => ?_)
              · skip
                refine z_iconst (pc := 129) (v := 0) hC dX6_endOfLine_129 rfl ?_
                refine z_iadd (pc := 130) hC dX6_endOfLine_130 ?_
                refine z_istore (pc := 131) (lv' := [(5, .int ((nI t) + 0)), (4, .int (u + sSt σ p 4 + sSO σ nw p t)), (6, .int 0), (7, .int (u + sSt σ p 4 + sSO σ nw p t)), (3, .int (sIn W (sSt σ p 5))), (0, .ref (g.1 95)), (1, .int (nI p)), (2, .int (nI a))]) hC dX6_endOfLine_131 (by decide) rfl ?_
                refine z_goto (pc := 133) (tgt := 52) hC dX6_endOfLine_133 (by decide) ?_
                refine z_lvs (lv' := [(6, .int 0), (5, .int ((nI t) + 0)), (4, .int (u + sSt σ p 4 + sSO σ nw p t)), (3, .int (sIn W (sSt σ p 5))), (0, .ref (g.1 95)), (1, .int (nI p)), (2, .int (nI a))]) [2, 0, 1, 4, 5, 6, 7] rfl ?_
                have K := ih t false (u + sSt σ p 4 + sSO σ nw p t) (zel_br hrow hwr hz htk h104 _) (by have hn3 : kn σ p - t + 1 < zf + 1 := hn2; show kn σ p - t + 0 < zf; omega)
                rw [show nI t = nI t + 0 from (Int32.add_zero _).symm] at K
                exact K
              · skip
                exact absurd h122 (by decide)
            · skip
              have g104 := Int32.not_lt.mp h104
              refine z_iconst (pc := 107) (v := 1) hC dX6_endOfLine_107 rfl ?_
              refine z_goto (pc := 108) (tgt := 112) hC dX6_endOfLine_108 (by decide) ?_
              refine z_istore (pc := 112) (lv' := [(6, .int 1), (7, .int (u + sSt σ p 4 + sSO σ nw p t)), (5, .int (nI t)), (4, .int u), (3, .int (sIn W (sSt σ p 5))), (0, .ref (g.1 95)), (1, .int (nI p)), (2, .int (nI a))]) hC dX6_endOfLine_112 (by decide) rfl ?_
              refine z_iload (pc := 114) hC 1 dX6_endOfLine_114 rfl ?_
              refine z_istore (pc := 116) (lv' := [(4, .int (u + sSt σ p 4 + sSO σ nw p t)), (6, .int 1), (7, .int (u + sSt σ p 4 + sSO σ nw p t)), (5, .int (nI t)), (3, .int (sIn W (sSt σ p 5))), (0, .ref (g.1 95)), (1, .int (nI p)), (2, .int (nI a))]) hC dX6_endOfLine_116 (by decide) rfl ?_
              refine z_iload (pc := 118) hC 3 dX6_endOfLine_118 rfl ?_
              refine z_iload (pc := 120) hC 1 dX6_endOfLine_120 rfl ?_
              refine z_if_eq (pc := 122) (tgt := 129) hC dX6_endOfLine_122 (by decide) (fun h122 => ?_) (fun h122 => ?_)
              · skip
                exact absurd h122 (by decide)
              · skip
                refine z_iconst (pc := 125) (v := 1) hC dX6_endOfLine_125 rfl ?_
                refine z_goto (pc := 126) (tgt := 130) hC dX6_endOfLine_126 (by decide) ?_
                refine z_iadd (pc := 130) hC dX6_endOfLine_130 ?_
                refine z_istore (pc := 131) (lv' := [(5, .int ((nI t) + 1)), (4, .int (u + sSt σ p 4 + sSO σ nw p t)), (6, .int 1), (7, .int (u + sSt σ p 4 + sSO σ nw p t)), (3, .int (sIn W (sSt σ p 5))), (0, .ref (g.1 95)), (1, .int (nI p)), (2, .int (nI a))]) hC dX6_endOfLine_131 (by decide) rfl ?_
                refine z_goto (pc := 133) (tgt := 52) hC dX6_endOfLine_133 (by decide) ?_
                refine z_lvs (lv' := [(6, .int 1), (5, .int ((nI t) + 1)), (4, .int (u + sSt σ p 4 + sSO σ nw p t)), (3, .int (sIn W (sSt σ p 5))), (0, .ref (g.1 95)), (1, .int (nI p)), (2, .int (nI a))]) [2, 0, 1, 4, 5, 6, 7] rfl ?_
                have K := ih (t + 1) true (u + sSt σ p 4 + sSO σ nw p t) (zel_go hrow hz htk (Int32.not_lt.mpr (Int32.not_lt.mp h104))) (by have hn3 : kn σ p - t + 1 < zf + 1 := hn2; show kn σ p - (t + 1) + 1 < zf; omega)
                rw [← nI_1] at K
                exact K
    have K := L52 100 (a + 1) true _ (zel_0 hap) (by have := kn_le hm.1 p; show kn σ p - (a + 1) + 1 < 100; omega)
    rw [← nI_1] at K
    exact K
  · skip
    refine z_aload_n (pc := 9) hC 0 dX6_endOfLine_9 rfl rfl z_isr_r ?_
    refine z_gI (pc := 10) hC 6 5 (x := nI (kn σ p)) rfl (z_lt hC (by decide)) rfl inX6 (by decide) rfl zm_4_78 hk.1 dX6_endOfLine_10 ?_
    exact z_iret (pc := 13) hC hE dX6_endOfLine_13 (zMu_i (by rw [zend_nw hrow (by rw [h6]; decide) hap]))
end ZM9
