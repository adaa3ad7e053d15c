section ZM10
set_option maxHeartbeats 4000000 in
set_option maxRecDepth 100000 in
theorem kX6_findNaturalHeights (lx : Launch) (g : zG) (N : Nat) (I : Nat → Nat → Int32) (P : Nat → Nat → Option Nat) (J : Nat → Nat → Int64) {σ : zS} (hm : zMd σ I) (hsh : ∀ c, c < sGv σ → I 100 c = zB (sSh σ c)) (hlm : ∀ b, sSh σ b = true → I 105 b = sLC σ (sNW σ) b (sWD σ b)) (hla : ∀ p, sSh σ p = true → ∀ k, k < kn σ p → I 104 (kd σ p k) = nI (sLn σ (sNW σ) p (sWD σ p) k)) : z_Ct lx yX6_findNaturalHeights (zT yX6_findNaturalHeights cX6_findNaturalHeights 3 (Option.none : Option FieldType)) ({ frames := 4, cells := 0, slots := 0, locals := 91 } : Room) g N I P J [.ref (g.1 95)] (fun v I' P' J' => v = none ∧ P' = P ∧ J' = J ∧ zNa σ 1 (sNH σ) 0 I I') 0 0 := by
  refine z_of (by decide) (Nat.le_of_ble_eq_true rfl) (lv0 := [(0, .ref (g.1 95))]) rfl ?_
  intro C hlx hC hE hRm
  have hC : zX C cX6_findNaturalHeights 3 RX6 (zT yX6_findNaturalHeights cX6_findNaturalHeights 3 (Option.none : Option FieldType)) g N := hC
  refine z_aload_n (pc := 0) hC 0 dX6_findNaturalHeights_0 rfl rfl z_isr_r ?_
  refine z_gF (pc := 1) hC 6 0 (t := 96) rfl (z_lt hC (by decide)) rfl inX6 (by decide) rfl zm_4_73 rfl dX6_findNaturalHeights_1 ?_
  refine z_iconst (pc := 4) (v := 0) hC dX6_findNaturalHeights_4 rfl ?_
  refine z_iaN (pc := 5) hC 0 (x := nI (sGv σ)) rfl (z_lt hC (by decide)) rfl (by decide) (by decide) hm.2.1 dX6_findNaturalHeights_5 ?_
  refine z_iconst (pc := 6) (v := 1) hC dX6_findNaturalHeights_6 rfl ?_
  refine z_isub (pc := 7) hC dX6_findNaturalHeights_7 ?_
  refine z_istore_n (pc := 8) (lv' := [(1, .int ((nI (sGv σ)) - 1)), (0, .ref (g.1 95))]) hC dX6_findNaturalHeights_8 rfl (by decide) rfl ?_
  rw [zneg1]
  have L9 : ∀ (zf : Nat) (n : Nat) (Ir : Nat → Nat → Int32) (hn : n ≤ sGv σ) (hz : zNa σ 1 (sNH σ) n I Ir), n < zf → zJ C g N 3 0 0 Ir P J 9 [(1, .int (nI n + (-1))), (0, .ref (g.1 95))] [] := by
    intro zf
    induction zf with
    | zero =>
      intro n Ir hn hz hn2
      exact absurd hn2 (Nat.not_lt_zero _)
    | succ zf ih =>
      intro n Ir hn hz hn2
      have hmr := hm.eq (fun k => hz.1 96 k (by decide) (by omega) (by omega))
      refine z_iload_n (pc := 9) hC 0 dX6_findNaturalHeights_9 rfl rfl ?_
      refine z_if_lt (pc := 10) (tgt := 86) hC dX6_findNaturalHeights_10 (by decide) (fun h10 => ?_) (fun h10 => ?_)
      · skip
        have g10 := Int32.not_le.mpr h10
        have e0 := zdec_t (by have := hm.gv; omega) h10
        subst e0
        exact z_vret (pc := 86) hC hE dX6_findNaturalHeights_86 ⟨rfl, rfl, rfl, hz⟩
      · skip
        have g10 := Int32.not_lt.mp h10
        obtain ⟨k, rfl⟩ := zdec_f h10
        rw [zdec k]
        have hkg : k < sGv σ := by omega
        have hk40 : k < 40 := by have := hm.gv; omega
        refine z_aload_n (pc := 13) hC 1 dX6_findNaturalHeights_13 rfl rfl z_isr_r ?_
        refine z_gF (pc := 14) hC 6 6 (t := 100) rfl (z_lt hC (by decide)) rfl inX6 (by decide) rfl zm_4_79 rfl dX6_findNaturalHeights_14 ?_
        refine z_iload_n (pc := 17) hC 0 dX6_findNaturalHeights_17 rfl rfl ?_
        refine z_zaN (pc := 18) hC k (x := zB (sSh σ k)) rfl (z_lt hC (by decide)) rfl hk40 (by decide) ((hz.1 100 k (by decide) (by omega) (by omega)).trans (hsh k hkg)) dX6_findNaturalHeights_18 ?_
        refine z_if_eq (pc := 19) (tgt := 80) hC dX6_findNaturalHeights_19 (by decide) (fun h19 => ?_) (fun h19 => ?_)
        · skip
          have g19 := zB_f h19
          refine z_iinc (pc := 80) (v := (nI k) + (-1)) (lv' := [(1, .int ((nI k) + (-1))), (0, .ref (g.1 95))]) hC 0 dX6_findNaturalHeights_80 rfl rfl (by decide) rfl ?_
          refine z_goto (pc := 83) (tgt := 9) hC dX6_findNaturalHeights_83 (by decide) ?_
          exact ih k Ir (by omega) (zNa_n hz g19) (by omega)
        · skip
          have g19 := zB_t h19
          refine z_aload_n (pc := 22) hC 1 dX6_findNaturalHeights_22 rfl rfl z_isr_r ?_
          refine z_iload_n (pc := 23) hC 0 dX6_findNaturalHeights_23 rfl rfl ?_
          refine z_callV (pc := 24) (st := []) hC [.int (nI k)] ((kX6_layKids C.2.1 g N Ir P J hmr k (sSh_ex hm.1 g19).2)) rfl (z_lt hC (by decide)) rfl zkX6_layKids zm_4_154 ⟨rfl, rfl⟩ rfl rfl hRm ⟨Nat.le_of_ble_eq_true rfl, Nat.le_of_ble_eq_true rfl⟩ (Nat.le_of_ble_eq_true rfl) ⟨Nat.zero_le _, Nat.zero_le _⟩ dX6_findNaturalHeights_24 ?_
          intro v I2 P2 J2 hq
          obtain ⟨hv, hP2, hJ2, hfr, hkq⟩ := hq
          subst hv
          rw [hP2, hJ2]
          have hm2 := hmr.eq (fun k => hfr 96 k (by decide) (by omega))
          have hs := g19
          have h105 : I2 105 k = sLC σ (sNW σ) k (sWD σ k) := (hfr 105 k (by decide) (by omega)).trans ((hz.1 105 k (by decide) (by omega) (by omega)).trans (hlm k hs))
          have hnk : ∀ c, c ∈ sKids σ k → I2 101 (2 * c + 1) = sNH σ c := fun c hc => (hfr 101 _ (by decide) (by omega)).trans (hz.2 c (sKids_lt hm.1 hc).1 (sKids_sh hm.1 hs hc))
          show zJ C g N 3 0 0 I2 P J 27 [(1, .int (nI k)), (0, .ref (g.1 95))] []
          refine z_aload_n (pc := 27) hC 1 dX6_findNaturalHeights_27 rfl rfl z_isr_r ?_
          refine z_iload_n (pc := 28) hC 0 dX6_findNaturalHeights_28 rfl rfl ?_
          refine z_cV (pc := 29) (st := []) hC [.int (nI k)] (kX6_isLeaf C.2.1 g N I2 P J hm2 k (sSh_ex hm.1 g19).2) rfl (z_lt hC (by decide)) rfl zkX6_isLeaf zm_4_212 ⟨rfl, rfl⟩ rfl rfl hRm ⟨Nat.le_of_ble_eq_true rfl, Nat.le_of_ble_eq_true rfl⟩ (Nat.le_of_ble_eq_true rfl) ⟨Nat.zero_le _, Nat.zero_le _⟩ dX6_findNaturalHeights_29 ?_
          refine z_if_eq (pc := 32) (tgt := 47) hC dX6_findNaturalHeights_32 (by decide) (fun h32 => ?_) (fun h32 => ?_)
          · skip
            have g32 := zB_f h32
            refine z_aload_n (pc := 47) hC 1 dX6_findNaturalHeights_47 rfl rfl z_isr_r ?_
            refine z_iload_n (pc := 48) hC 0 dX6_findNaturalHeights_48 rfl rfl ?_
            refine z_iconst (pc := 49) (v := 0) hC dX6_findNaturalHeights_49 rfl ?_
            refine z_cV (pc := 50) (st := []) hC [.int (nI k), .int 0] (kX6_of C.2.1 g N I2 P J hm2 k 0 (sSh_ex hm.1 g19).2 (by decide) 0 rfl) rfl (z_lt hC (by decide)) rfl zkX6_of zm_4_162 ⟨rfl, rfl⟩ rfl rfl hRm ⟨Nat.le_of_ble_eq_true rfl, Nat.le_of_ble_eq_true rfl⟩ (Nat.le_of_ble_eq_true rfl) ⟨Nat.zero_le _, Nat.zero_le _⟩ dX6_findNaturalHeights_50 ?_
            refine z_iconst (pc := 53) (v := 1) hC dX6_findNaturalHeights_53 rfl ?_
            refine z_icmp_ne (pc := 54) (tgt := 67) hC dX6_findNaturalHeights_54 (by decide) (fun h54 => ?_) (fun h54 => ?_)
            · skip
              refine z_aload_n (pc := 67) hC 1 dX6_findNaturalHeights_67 rfl rfl z_isr_r ?_
              refine z_iload_n (pc := 68) hC 0 dX6_findNaturalHeights_68 rfl rfl ?_
              refine z_cV (pc := 69) (st := []) hC [.int (nI k)] (kX6_rowContent C.2.1 g N I2 P J hm2 k (sSh_ex hm.1 hs).2 hkq (sNH σ) hnk (sWD σ k) (fun i hi => (hfr 104 _ (by decide) (by omega)).trans ((hz.1 104 _ (by decide) (by omega) (by omega)).trans (hla k hs i hi))) (h105.trans (by unfold sLC; rw [if_pos (znot_f g32)]))) rfl (z_lt hC (by decide)) rfl zkX6_rowContent zm_5_59 ⟨rfl, rfl⟩ rfl rfl hRm ⟨Nat.le_of_ble_eq_true rfl, Nat.le_of_ble_eq_true rfl⟩ (Nat.le_of_ble_eq_true rfl) ⟨Nat.zero_le _, Nat.zero_le _⟩ dX6_findNaturalHeights_69 ?_
              refine z_eqI (show (zgap (nI (sLCn σ (sNW σ) k (sWD σ k))) (sSt σ k 4) + zsum (sLH σ (sNH σ) k (sWD σ k)) (sLCn σ (sNW σ) k (sWD σ k))) = sCH σ (sNH σ) k from by unfold sCH; rw [if_pos (znot_f g32), if_neg h54]; exact Int32.add_comm _ _) ?_
              refine z_istore_n (pc := 72) (lv' := [(2, .int (sCH σ (sNH σ) k)), (1, .int (nI k)), (0, .ref (g.1 95))]) hC dX6_findNaturalHeights_72 rfl (by decide) rfl ?_
              refine z_aload_n (pc := 73) hC 2 dX6_findNaturalHeights_73 rfl rfl z_isr_r ?_
              refine z_iload_n (pc := 74) hC 1 dX6_findNaturalHeights_74 rfl rfl ?_
              refine z_iconst (pc := 75) (v := 1) hC dX6_findNaturalHeights_75 rfl ?_
              refine z_iload_n (pc := 76) hC 0 dX6_findNaturalHeights_76 rfl rfl ?_
              refine z_cV (pc := 77) (st := []) hC [.int (nI k), .int 1, .int (sCH σ (sNH σ) k)] (kX6_setNatural C.2.1 g N I2 P J hm2 k (sSh_ex hm.1 hs).2 1 (by decide) (sCH σ (sNH σ) k)) rfl (z_lt hC (by decide)) rfl zkX6_setNatural zm_4_228 ⟨rfl, rfl⟩ rfl rfl hRm ⟨Nat.le_of_ble_eq_true rfl, Nat.le_of_ble_eq_true rfl⟩ (Nat.le_of_ble_eq_true rfl) ⟨Nat.zero_le _, Nat.zero_le _⟩ dX6_findNaturalHeights_77 ?_
              refine z_iinc (pc := 80) (v := (nI k) + (-1)) (lv' := [(1, .int ((nI k) + (-1))), (2, .int (sCH σ (sNH σ) k)), (0, .ref (g.1 95))]) hC 1 dX6_findNaturalHeights_80 rfl rfl (by decide) rfl ?_
              refine z_goto (pc := 83) (tgt := 9) hC dX6_findNaturalHeights_83 (by decide) ?_
              refine z_lvs (lv' := [(1, .int ((nI k) + (-1))), (0, .ref (g.1 95))]) [0, 2] rfl ?_
              exact ih k _ (by omega) (zNa_s (by decide) hz hfr (zsn_H.trans (sNH_fix hm.1 k).symm)) (by omega)
            · skip
              refine z_aload_n (pc := 57) hC 1 dX6_findNaturalHeights_57 rfl rfl z_isr_r ?_
              refine z_iload_n (pc := 58) hC 0 dX6_findNaturalHeights_58 rfl rfl ?_
              refine z_iconst (pc := 59) (v := 1) hC dX6_findNaturalHeights_59 rfl ?_
              refine z_iconst (pc := 60) (v := 1) hC dX6_findNaturalHeights_60 rfl ?_
              refine z_cV (pc := 61) (st := []) hC [.int (nI k), .int 1, .int 1] (kX6_content C.2.1 g N I2 P J hm2 k (sSh_ex hm.1 hs).2 hkq 1 (by decide) (sNH σ) hnk true) rfl (z_lt hC (by decide)) rfl zkX6_content zm_4_216 ⟨rfl, rfl⟩ rfl rfl hRm ⟨Nat.le_of_ble_eq_true rfl, Nat.le_of_ble_eq_true rfl⟩ (Nat.le_of_ble_eq_true rfl) ⟨Nat.zero_le _, Nat.zero_le _⟩ dX6_findNaturalHeights_61 ?_
              refine z_goto (pc := 64) (tgt := 72) hC dX6_findNaturalHeights_64 (by decide) ?_
              refine z_eqI (show (if true = true then zsum (fun i => sO σ (sNH σ) (kd σ k i)) (kn σ k) + zgap (nI (kn σ k)) (sSt σ k 4) else zmx (fun i => sO σ (sNH σ) (kd σ k i)) (kn σ k)) = sCH σ (sNH σ) k from by unfold sCH; rw [if_pos (znot_f g32), if_pos h54]; rfl) ?_
              refine z_istore_n (pc := 72) (lv' := [(2, .int (sCH σ (sNH σ) k)), (1, .int (nI k)), (0, .ref (g.1 95))]) hC dX6_findNaturalHeights_72 rfl (by decide) rfl ?_
              refine z_aload_n (pc := 73) hC 2 dX6_findNaturalHeights_73 rfl rfl z_isr_r ?_
              refine z_iload_n (pc := 74) hC 1 dX6_findNaturalHeights_74 rfl rfl ?_
              refine z_iconst (pc := 75) (v := 1) hC dX6_findNaturalHeights_75 rfl ?_
              refine z_iload_n (pc := 76) hC 0 dX6_findNaturalHeights_76 rfl rfl ?_
              refine z_cV (pc := 77) (st := []) hC [.int (nI k), .int 1, .int (sCH σ (sNH σ) k)] (kX6_setNatural C.2.1 g N I2 P J hm2 k (sSh_ex hm.1 hs).2 1 (by decide) (sCH σ (sNH σ) k)) rfl (z_lt hC (by decide)) rfl zkX6_setNatural zm_4_228 ⟨rfl, rfl⟩ rfl rfl hRm ⟨Nat.le_of_ble_eq_true rfl, Nat.le_of_ble_eq_true rfl⟩ (Nat.le_of_ble_eq_true rfl) ⟨Nat.zero_le _, Nat.zero_le _⟩ dX6_findNaturalHeights_77 ?_
              refine z_iinc (pc := 80) (v := (nI k) + (-1)) (lv' := [(1, .int ((nI k) + (-1))), (2, .int (sCH σ (sNH σ) k)), (0, .ref (g.1 95))]) hC 1 dX6_findNaturalHeights_80 rfl rfl (by decide) rfl ?_
              refine z_goto (pc := 83) (tgt := 9) hC dX6_findNaturalHeights_83 (by decide) ?_
              refine z_lvs (lv' := [(1, .int ((nI k) + (-1))), (0, .ref (g.1 95))]) [0, 2] rfl ?_
              exact ih k _ (by omega) (zNa_s (by decide) hz hfr (zsn_H.trans (sNH_fix hm.1 k).symm)) (by omega)
          · skip
            have g32 := zB_t h32
            refine z_bipush (pc := 35) (v := 16) hC dX6_findNaturalHeights_35 rfl ?_
            refine z_aload_n (pc := 37) hC 1 dX6_findNaturalHeights_37 rfl rfl z_isr_r ?_
            refine z_gF (pc := 38) hC 6 11 (t := 105) rfl (z_lt hC (by decide)) rfl inX6 (by decide) rfl zm_4_84 rfl dX6_findNaturalHeights_38 ?_
            refine z_iload_n (pc := 41) hC 0 dX6_findNaturalHeights_41 rfl rfl ?_
            refine z_iaN (pc := 42) hC k (x := sLC σ (sNW σ) k (sWD σ k)) rfl (z_lt hC (by decide)) rfl hk40 (by decide) h105 dX6_findNaturalHeights_42 ?_
            refine z_imul (pc := 43) hC dX6_findNaturalHeights_43 ?_
            refine z_goto (pc := 44) (tgt := 72) hC dX6_findNaturalHeights_44 (by decide) ?_
            refine z_eqI (show (16 * (sLC σ (sNW σ) k (sWD σ k))) = sCH σ (sNH σ) k from by unfold sCH; rw [if_neg (by rw [znot_t g32]; decide)]) ?_
            refine z_istore_n (pc := 72) (lv' := [(2, .int (sCH σ (sNH σ) k)), (1, .int (nI k)), (0, .ref (g.1 95))]) hC dX6_findNaturalHeights_72 rfl (by decide) rfl ?_
            refine z_aload_n (pc := 73) hC 2 dX6_findNaturalHeights_73 rfl rfl z_isr_r ?_
            refine z_iload_n (pc := 74) hC 1 dX6_findNaturalHeights_74 rfl rfl ?_
            refine z_iconst (pc := 75) (v := 1) hC dX6_findNaturalHeights_75 rfl ?_
            refine z_iload_n (pc := 76) hC 0 dX6_findNaturalHeights_76 rfl rfl ?_
            refine z_cV (pc := 77) (st := []) hC [.int (nI k), .int 1, .int (sCH σ (sNH σ) k)] (kX6_setNatural C.2.1 g N I2 P J hm2 k (sSh_ex hm.1 hs).2 1 (by decide) (sCH σ (sNH σ) k)) rfl (z_lt hC (by decide)) rfl zkX6_setNatural zm_4_228 ⟨rfl, rfl⟩ rfl rfl hRm ⟨Nat.le_of_ble_eq_true rfl, Nat.le_of_ble_eq_true rfl⟩ (Nat.le_of_ble_eq_true rfl) ⟨Nat.zero_le _, Nat.zero_le _⟩ dX6_findNaturalHeights_77 ?_
            refine z_iinc (pc := 80) (v := (nI k) + (-1)) (lv' := [(1, .int ((nI k) + (-1))), (2, .int (sCH σ (sNH σ) k)), (0, .ref (g.1 95))]) hC 1 dX6_findNaturalHeights_80 rfl rfl (by decide) rfl ?_
            refine z_goto (pc := 83) (tgt := 9) hC dX6_findNaturalHeights_83 (by decide) ?_
            refine z_lvs (lv' := [(1, .int ((nI k) + (-1))), (0, .ref (g.1 95))]) [0, 2] rfl ?_
            exact ih k _ (by omega) (zNa_s (by decide) hz hfr (zsn_H.trans (sNH_fix hm.1 k).symm)) (by omega)
  exact L9 41 (sGv σ) I (Nat.le_refl _) (zNa_0 hm.1 I) (by have := hm.gv; omega)
end ZM10
