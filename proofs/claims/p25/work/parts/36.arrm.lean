section ZARM
theorem zcon_lc {σ : zS} (hw : sWF σ) {k : Nat} (h : kn σ k ≠ 0) : sLC σ (sNW σ) k (sWD σ k) = nI (sLCn σ (sNW σ) k (sWD σ k)) := by
  unfold sLC
  rw [if_pos (sKids_con hw (kd_mem (i := 0) (by omega)))]
set_option maxHeartbeats 4000000 in
set_option maxRecDepth 100000 in
theorem kX2_arrange (lx : Launch) (g : zG) (N : Nat) (I : Nat → Nat → Int32) (P : Nat → Nat → Option Nat) (J : Nat → Nat → Int64) {σ : zS} (ht : zTr σ I P) (hr : zRt I) (hs0 : I 82 2 = 0 → zAr σ I P) : z_Ct lx yX2_arrange (zT yX2_arrange cX2_arrange 3 (Option.none : Option FieldType)) ({ frames := 5, cells := 0, slots := 0, locals := 141 } : Room) g N I P J [.ref (g.1 82)] (zArQ σ I P J) 0 0 := by
  refine z_of (by decide) (Nat.le_of_ble_eq_true rfl) (lv0 := [(0, .ref (g.1 82))]) rfl ?_
  intro C hlx hC hE hRm
  have hC : zX C cX2_arrange 3 RX2 (zT yX2_arrange cX2_arrange 3 (Option.none : Option FieldType)) g N := hC
  refine z_aload_n (pc := 0) hC 0 dX2_arrange_0 rfl rfl z_isr_r ?_
  refine z_gI (pc := 1) hC 2 2 (x := I 82 2) rfl (z_lt hC (by decide)) rfl inX2 (by decide) rfl zm_1_196 rfl dX2_arrange_1 ?_
  refine z_if_ne (pc := 4) (tgt := 8) hC dX2_arrange_4 (by decide) (fun h4 => ?_) (fun h4 => ?_)
  · skip
    refine z_aload_n (pc := 8) hC 0 dX2_arrange_8 rfl rfl z_isr_r ?_
    refine z_iconst (pc := 9) (v := 0) hC dX2_arrange_9 rfl ?_
    refine z_pI (pc := 10) hC 2 2 rfl (z_lt hC (by decide)) rfl inX2 tyX2_ok nmX2 (by decide) rfl zm_1_196 rfl (z_b01 (Or.inl rfl)) (z_f01 (Or.inl rfl)) dX2_arrange_10 ?_
    have ht0 : zTr σ (z_u I 82 2 0) P := ht.lay (zLay.rf.u (zNK2 (by decide)))
    refine z_aload_n (pc := 13) hC 0 dX2_arrange_13 rfl rfl z_isr_r ?_
    refine z_gF (pc := 14) hC 2 0 (t := 81) rfl (z_lt hC (by decide)) rfl inX2 (by decide) rfl zm_1_194 rfl dX2_arrange_14 ?_
    refine z_callV (pc := 17) (st := []) hC [] ((kX4_link C.2.1 g N _ P J σ ht0)) rfl (z_lt hC (by decide)) rfl zkX4_link zm_2_90 ⟨rfl, rfl⟩ rfl rfl hRm ⟨Nat.le_of_ble_eq_true rfl, Nat.le_of_ble_eq_true rfl⟩ (Nat.le_of_ble_eq_true rfl) ⟨Nat.zero_le _, Nat.zero_le _⟩ dX2_arrange_17 ?_
    intro v I1 P1 J1 hq
    obtain ⟨hv, hJ2, hl1, hfi, hfp⟩ := hq
    subst hv
    rw [hJ2]
    have ht1 := zTr_link ht0 hfi hfp
    show zJ C g N 3 0 0 I1 P1 J 20 [(0, .ref (g.1 82))] []
    refine z_bipush (pc := 20) (v := 39) hC dX2_arrange_20 rfl ?_
    refine z_istore_n (pc := 22) (lv' := [(1, .int 39), (0, .ref (g.1 82))]) hC dX2_arrange_22 rfl (by decide) rfl ?_
    have L23 : ∀ (zf : Nat) (n : Nat) (Ia : Nat → Nat → Int32) (hn : n ≤ 40) (hA1 : zA1 σ n I1 Ia), n < zf → zJ C g N 3 0 0 Ia P1 J 23 [(1, .int (nI n + (-1))), (0, .ref (g.1 82))] [] := by
      intro zf
      induction zf with
      | zero =>
        intro n Ia hn hA1 hn2
        exact absurd hn2 (Nat.not_lt_zero _)
      | succ zf ih =>
        intro n Ia hn hA1 hn2
        have hlya := hA1.1.lay (by decide)
        have hta := ht1.lay hlya
        have hla := hl1.lay hlya
        refine z_iload_n (pc := 23) hC 0 dX2_arrange_23 rfl rfl ?_
        refine z_if_lt (pc := 24) (tgt := 50) hC dX2_arrange_24 (by decide) (fun h24 => ?_) (fun h24 => ?_)
        · skip
          have g24 := Int32.not_le.mpr h24
          have e0 := zdec_t hn h24
          subst e0
          refine z_aload_n (pc := 50) hC 1 dX2_arrange_50 rfl rfl z_isr_r ?_
          refine z_gF (pc := 51) hC 2 0 (t := 81) rfl (z_lt hC (by decide)) rfl inX2 (by decide) rfl zm_1_194 rfl dX2_arrange_51 ?_
          refine z_gF (pc := 54) hC 4 1 (t := 0) rfl (z_lt hC (by decide)) rfl inX4 (by decide) rfl zm_1_128 rfl dX2_arrange_54 ?_
          refine z_aload_n (pc := 57) hC 1 dX2_arrange_57 rfl rfl z_isr_r ?_
          refine z_gF (pc := 58) hC 2 0 (t := 81) rfl (z_lt hC (by decide)) rfl inX2 (by decide) rfl zm_1_194 rfl dX2_arrange_58 ?_
          refine z_gI (pc := 61) hC 4 3 (x := sVw σ) rfl (z_lt hC (by decide)) rfl inX4 (by decide) rfl zm_1_131 hta.2.2.2.2.2.2.2.2.1 dX2_arrange_61 ?_
          refine z_pI (pc := 64) hC 0 14 (z_shb (by decide)) (z_ltb hC (by decide)) rfl inX0 tyX0_ok nmX0 (by decide) rfl zm_1_72 rfl rfl rfl dX2_arrange_64 ?_
          refine z_iconst (pc := 67) (v := 0) hC dX2_arrange_67 rfl ?_
          refine z_istore_n (pc := 68) (lv' := [(1, .int 0), (0, .ref (g.1 82))]) hC dX2_arrange_68 rfl (by decide) rfl ?_
          have hly2 : zLay Ia (z_u Ia 0 14 (sVw σ)) := zLay.rf.u (zNK (by decide) (by decide))
          have ht2 := hta.lay hly2
          have hl2 := hla.lay hly2
          have L69 : ∀ (zf : Nat) (k : Nat) (Ib : Nat → Nat → Int32) (hk : k ≤ 40) (hA2 : zA2 σ k (z_u Ia 0 14 (sVw σ)) Ib), 40 - k < zf → zJ C g N 3 0 0 Ib P1 J 69 [(1, .int (nI k)), (0, .ref (g.1 82))] [] := by
            intro zf
            induction zf with
            | zero =>
              intro k Ib hk hA2 hn2
              exact absurd hn2 (Nat.not_lt_zero _)
            | succ zf ih =>
              intro k Ib hk hA2 hn2
              have hlyb := hA2.1.lay (by decide)
              have htb := ht2.lay hlyb
              have hlb := hl2.lay hlyb
              refine z_iload_n (pc := 69) hC 0 dX2_arrange_69 rfl rfl ?_
              refine z_bipush (pc := 70) (v := 40) hC dX2_arrange_70 rfl ?_
              refine z_icmp_ge (pc := 72) (tgt := 99) hC dX2_arrange_72 (by decide) (fun h72 => ?_) (fun h72 => ?_)
              · skip
                have g72 := Int32.not_lt.mpr h72
                have e40 : k = 40 := Nat.le_antisymm hk (zc_ge (n := 40) h72 (by omega) (by decide))
                subst e40
                refine z_bipush (pc := 99) (v := 39) hC dX2_arrange_99 rfl ?_
                refine z_istore_n (pc := 101) (lv' := [(1, .int 39), (0, .ref (g.1 82))]) hC dX2_arrange_101 rfl (by decide) rfl ?_
                have L102 : ∀ (zf : Nat) (n : Nat) (Ic : Nat → Nat → Int32) (hn : n ≤ 40) (hA3 : zA3 σ n Ib Ic), n < zf → zJ C g N 3 0 0 Ic P1 J 102 [(1, .int (nI n + (-1))), (0, .ref (g.1 82))] [] := by
                  intro zf
                  induction zf with
                  | zero =>
                    intro n Ic hn hA3 hn2
                    exact absurd hn2 (Nat.not_lt_zero _)
                  | succ zf ih =>
                    intro n Ic hn hA3 hn2
                    have hlyc := hA3.1.lay (by decide)
                    have htc := htb.lay hlyc
                    have hlc := hlb.lay hlyc
                    refine z_iload_n (pc := 102) hC 0 dX2_arrange_102 rfl rfl ?_
                    refine z_if_lt (pc := 103) (tgt := 129) hC dX2_arrange_103 (by decide) (fun h103 => ?_) (fun h103 => ?_)
                    · skip
                      have g103 := Int32.not_le.mpr h103
                      have e0 := zdec_t hn h103
                      subst e0
                      refine z_aload_n (pc := 129) hC 1 dX2_arrange_129 rfl rfl z_isr_r ?_
                      refine z_gF (pc := 130) hC 2 0 (t := 81) rfl (z_lt hC (by decide)) rfl inX2 (by decide) rfl zm_1_194 rfl dX2_arrange_130 ?_
                      refine z_gF (pc := 133) hC 4 1 (t := 0) rfl (z_lt hC (by decide)) rfl inX4 (by decide) rfl zm_1_128 rfl dX2_arrange_133 ?_
                      refine z_aload_n (pc := 136) hC 1 dX2_arrange_136 rfl rfl z_isr_r ?_
                      refine z_gF (pc := 137) hC 2 0 (t := 81) rfl (z_lt hC (by decide)) rfl inX2 (by decide) rfl zm_1_194 rfl dX2_arrange_137 ?_
                      refine z_gI (pc := 140) hC 4 4 (x := sVh σ) rfl (z_lt hC (by decide)) rfl inX4 (by decide) rfl zm_1_134 htc.2.2.2.2.2.2.2.2.2 dX2_arrange_140 ?_
                      refine z_pI (pc := 143) hC 0 15 (z_shb (by decide)) (z_ltb hC (by decide)) rfl inX0 tyX0_ok nmX0 (by decide) rfl zm_1_75 rfl rfl rfl dX2_arrange_143 ?_
                      refine z_iconst (pc := 146) (v := 0) hC dX2_arrange_146 rfl ?_
                      refine z_istore_n (pc := 147) (lv' := [(1, .int 0), (0, .ref (g.1 82))]) hC dX2_arrange_147 rfl (by decide) rfl ?_
                      have hly4 : zLay Ic (z_u Ic 0 15 (sVh σ)) := zLay.rf.u (zNK (by decide) (by decide))
                      have ht4 := htc.lay hly4
                      have hl4 := hlc.lay hly4
                      have h0x : ∀ j, j = 12 ∨ j = 13 → (z_u Ic 0 15 (sVh σ)) 0 j = I 0 j := fun j hj => by rcases hj with e | e <;> rw [e, z_u_b _ _ (by decide), hA3.1.oth (by decide) (by decide), hA2.1.oth (by decide) (by decide), z_u_b _ _ (by decide), hA1.1.oth (by decide) (by decide), hfi _ _ (by omega), z_u_a _ _ (by decide)]
                      have L148 : ∀ (zf : Nat) (k : Nat) (Id : Nat → Nat → Int32) (hk : k ≤ 40) (hA4 : zA4 σ k (z_u Ic 0 15 (sVh σ)) Id), 40 - k < zf → zJ C g N 3 0 0 Id P1 J 148 [(1, .int (nI k)), (0, .ref (g.1 82))] [] := by
                        intro zf
                        induction zf with
                        | zero =>
                          intro k Id hk hA4 hn2
                          exact absurd hn2 (Nat.not_lt_zero _)
                        | succ zf ih =>
                          intro k Id hk hA4 hn2
                          have hlyd := hA4.1.lay (by decide)
                          have htd := ht4.lay hlyd
                          have hld := hl4.lay hlyd
                          refine z_iload_n (pc := 148) hC 0 dX2_arrange_148 rfl rfl ?_
                          refine z_bipush (pc := 149) (v := 40) hC dX2_arrange_149 rfl ?_
                          refine z_icmp_ge (pc := 151) (tgt := 196) hC dX2_arrange_151 (by decide) (fun h151 => ?_) (fun h151 => ?_)
                          · skip
                            have g151 := Int32.not_lt.mpr h151
                            have e40 : k = 40 := Nat.le_antisymm hk (zc_ge (n := 40) h151 (by omega) (by decide))
                            subst e40
                            exact z_vret (pc := 196) hC hE dX2_arrange_196 (zAr_end hr ht1 hl1 hfi hfp hA1 hA2 hA3 hA4)
                          · skip
                            have g151 := Int32.not_le.mp h151
                            have hk40 : k < 40 := zc_lt (n := 40) h151 (by omega) (by decide)
                            refine z_aload_n (pc := 154) hC 1 dX2_arrange_154 rfl rfl z_isr_r ?_
                            refine z_gF (pc := 155) hC 2 0 (t := 81) rfl (z_lt hC (by decide)) rfl inX2 (by decide) rfl zm_1_194 rfl dX2_arrange_155 ?_
                            refine z_iload_n (pc := 158) hC 0 dX2_arrange_158 rfl rfl ?_
                            refine z_cV (pc := 159) (st := []) hC [.int (nI k)] (kSX4_shownAt C.2.1 g N Id P1 J htd hld k (by omega)) rfl (z_lt hC (by decide)) rfl zkX4_shownAt zm_2_107 ⟨rfl, rfl⟩ rfl rfl hRm ⟨Nat.le_of_ble_eq_true rfl, Nat.le_of_ble_eq_true rfl⟩ (Nat.le_of_ble_eq_true rfl) ⟨Nat.zero_le _, Nat.zero_le _⟩ dX2_arrange_159 ?_
                            refine z_astore_n (pc := 162) (lv' := [(2, va_rf (Option.map g.1 (zsh σ k))), (1, .int (nI k)), (0, .ref (g.1 82))]) hC dX2_arrange_162 rfl (by decide) (z_isr_o _) rfl ?_
                            refine z_aload_n (pc := 163) hC 0 dX2_arrange_163 rfl rfl (z_isr_o _) ?_
                            refine z_ifnull (pc := 164) (tgt := 182) hC dX2_arrange_164 (by decide) (fun h164 => ?_) (fun a164 h164 => ?_)
                            · skip
                              rw [h164]
                              show zJ C g N 3 0 0 Id P1 J 182 [(2, .null), (1, .int (nI k)), (0, .ref (g.1 82))] []
                              have hs := zsh_t h164
                              refine z_aload_n (pc := 182) hC 0 dX2_arrange_182 rfl rfl z_isr_n ?_
                              refine z_ifnullN (pc := 183) (tgt := 190) hC dX2_arrange_183 (by decide) ?_
                              refine z_iinc (pc := 190) (v := nI (k + 1)) (lv' := [(1, .int (nI (k + 1))), (2, .null), (0, .ref (g.1 82))]) hC 1 dX2_arrange_190 rfl (nI_1 k) (by decide) rfl ?_
                              refine z_goto (pc := 193) (tgt := 148) hC dX2_arrange_193 (by decide) ?_
                              refine z_lvs (lv' := [(1, .int (nI (k + 1))), (0, .ref (g.1 82))]) [0, 2] rfl ?_
                              exact ih (k + 1) Id (by omega) (zA4_n hA4 hs) (by omega)
                            · skip
                              rw [h164]
                              show zJ C g N 3 0 0 Id P1 J 167 [(2, .ref (g.1 a164)), (1, .int (nI k)), (0, .ref (g.1 82))] []
                              obtain ⟨e, hs⟩ := zsh_f h164
                              replace e := e.symm
                              subst e
                              have k40 := (sSh_ex ht.1 hs).1
                              have h4W : Id k 14 = sWD σ k := (hA4.1.oth k40 (by decide)).trans ((z_u_b _ _ (by decide)).trans ((hA3.1.oth k40 (by decide)).trans (zA2_W ht.1 hA2 (by omega) hs)))
                              have h4w : ∀ c, c ∈ sKids σ k → Id c 14 = sWD σ c := fun c hc => (hA4.1.oth (sKids_lt ht.1 hc).2.1 (by decide)).trans ((z_u_b _ _ (by decide)).trans ((hA3.1.oth (sKids_lt ht.1 hc).2.1 (by decide)).trans (zA2_W ht.1 hA2 (Nat.le_of_lt (sKids_lt ht.1 hc).2.1) (sKids_sh ht.1 hs hc))))
                              have h4n : ∀ c, c ∈ sKids σ k → Id c 11 = sNH σ c := fun c hc => (hA4.1.oth (sKids_lt ht.1 hc).2.1 (by decide)).trans ((z_u_b _ _ (by decide)).trans (hA3.2.2 c (Nat.zero_le _) (sKids_sh ht.1 hs hc)).1)
                              have h4H := (zA4_W ht.1 hA4 (Nat.le_refl k) hs).1
                              have h4l : ∀ i q, (sKids σ k)[i]? = some q → Id q 17 = nI (sLn σ (sNW σ) k (sWD σ k) i) := fun i q hiq => (hA4.1.oth (sKids_lt ht.1 (List.mem_of_getElem? hiq)).2.1 (by decide)).trans ((z_u_b _ _ (by decide)).trans ((hA3.1.oth (sKids_lt ht.1 (List.mem_of_getElem? hiq)).2.1 (by decide)).trans ((hA2.2.2.2 k k40 hs).2 i q hiq).2))
                              have h4c : Id k 16 = sLC σ (sNW σ) k (sWD σ k) := (hA4.1.oth k40 (by decide)).trans ((z_u_b _ _ (by decide)).trans (hA3.2.2 k (Nat.zero_le _) hs).2)
                              refine z_aload_n (pc := 167) hC 0 dX2_arrange_167 rfl rfl z_isr_r ?_
                              refine z_cV (pc := 168) (st := []) hC [] (kX0_isColumn C.2.1 g N Id P1 J k (sSh_ex ht.1 hs).1 (sSt σ k 0) (zTr_st htd (sSh_ex ht.1 hs).2 (by decide))) (z_shb (sSh_ex ht.1 hs).1) (z_ltb hC (sSh_ex ht.1 hs).1) rfl zkX0_isColumn zm_2_136 ⟨rfl, rfl⟩ rfl rfl hRm ⟨Nat.le_of_ble_eq_true rfl, Nat.le_of_ble_eq_true rfl⟩ (Nat.le_of_ble_eq_true rfl) ⟨Nat.zero_le _, Nat.zero_le _⟩ dX2_arrange_168 ?_
                              refine z_if_eq (pc := 171) (tgt := 182) hC dX2_arrange_171 (by decide) (fun h171 => ?_) (fun h171 => ?_)
                              · skip
                                have g171 := zB_f h171
                                have q171 := of_decide_eq_false g171
                                refine z_aload_n (pc := 182) hC 0 dX2_arrange_182 rfl rfl z_isr_r ?_
                                refine z_ifnullR (pc := 183) hC dX2_arrange_183 ?_
                                refine z_aload_n (pc := 186) hC 0 dX2_arrange_186 rfl rfl z_isr_r ?_
                                refine z_callS (pc := 187) (st := []) hC [.ref (g.1 k)] ((kX2_placeRow C.2.1 g N Id P1 J htd hld k (sSh_ex ht.1 hs).2 q171 h4W h4w h4n h4H h4l _ h4c (fun e => zcon_lc ht.1 e))) zkX2_placeRow zm_3_17 ⟨rfl, rfl⟩ rfl rfl hRm ⟨Nat.le_of_ble_eq_true rfl, Nat.le_of_ble_eq_true rfl⟩ (Nat.le_of_ble_eq_true rfl) ⟨Nat.zero_le _, Nat.zero_le _⟩ dX2_arrange_187 ?_
                                intro v Ix P2 J2 hq4
                                obtain ⟨hv, hP2, hJ2, _⟩ := id hq4
                                subst hv
                                rw [hP2, hJ2]
                                show zJ C g N 3 0 0 Ix P1 J 190 [(2, .ref (g.1 k)), (1, .int (nI k)), (0, .ref (g.1 82))] []
                                refine z_iinc (pc := 190) (v := nI (k + 1)) (lv' := [(1, .int (nI (k + 1))), (2, .ref (g.1 k)), (0, .ref (g.1 82))]) hC 1 dX2_arrange_190 rfl (nI_1 k) (by decide) rfl ?_
                                refine z_goto (pc := 193) (tgt := 148) hC dX2_arrange_193 (by decide) ?_
                                refine z_lvs (lv' := [(1, .int (nI (k + 1))), (0, .ref (g.1 82))]) [0, 2] rfl ?_
                                exact ih (k + 1) _ (by omega) (zA4_s ht.1 hk40 hA4 hs hq4) (by omega)
                              · skip
                                have g171 := zB_t h171
                                have q171 := of_decide_eq_true g171
                                refine z_aload_n (pc := 174) hC 2 dX2_arrange_174 rfl rfl z_isr_r ?_
                                refine z_aload_n (pc := 175) hC 0 dX2_arrange_175 rfl rfl z_isr_r ?_
                                refine z_callV (pc := 176) (st := []) hC [.ref (g.1 k)] ((kX2_placeColumn C.2.1 g N Id P1 J htd hld k (sSh_ex ht.1 hs).2 q171 h4W h4w h4n h4H)) rfl (z_lt hC (by decide)) rfl zkX2_placeColumn zm_3_3 ⟨rfl, rfl⟩ rfl rfl hRm ⟨Nat.le_of_ble_eq_true rfl, Nat.le_of_ble_eq_true rfl⟩ (Nat.le_of_ble_eq_true rfl) ⟨Nat.zero_le _, Nat.zero_le _⟩ dX2_arrange_176 ?_
                                intro v Ix P2 J2 hq4
                                obtain ⟨hv, hP2, hJ2, _⟩ := id hq4
                                subst hv
                                rw [hP2, hJ2]
                                show zJ C g N 3 0 0 Ix P1 J 179 [(2, .ref (g.1 k)), (1, .int (nI k)), (0, .ref (g.1 82))] []
                                refine z_goto (pc := 179) (tgt := 190) hC dX2_arrange_179 (by decide) ?_
                                refine z_iinc (pc := 190) (v := nI (k + 1)) (lv' := [(1, .int (nI (k + 1))), (2, .ref (g.1 k)), (0, .ref (g.1 82))]) hC 1 dX2_arrange_190 rfl (nI_1 k) (by decide) rfl ?_
                                refine z_goto (pc := 193) (tgt := 148) hC dX2_arrange_193 (by decide) ?_
                                refine z_lvs (lv' := [(1, .int (nI (k + 1))), (0, .ref (g.1 82))]) [0, 2] rfl ?_
                                exact ih (k + 1) _ (by omega) (zA4_s ht.1 hk40 hA4 hs hq4) (by omega)
                      exact L148 41 0 _ (by decide) (zA4_0 (z_u_s _ _ _ _) ((h0x 12 (Or.inl rfl)).trans hr.1) ((h0x 13 (Or.inr rfl)).trans hr.2.1)) (by decide)
                    · skip
                      have g103 := Int32.not_lt.mp h103
                      obtain ⟨k, rfl⟩ := zdec_f h103
                      rw [zdec k]
                      refine z_aload_n (pc := 106) hC 1 dX2_arrange_106 rfl rfl z_isr_r ?_
                      refine z_gF (pc := 107) hC 2 0 (t := 81) rfl (z_lt hC (by decide)) rfl inX2 (by decide) rfl zm_1_194 rfl dX2_arrange_107 ?_
                      refine z_iload_n (pc := 110) hC 0 dX2_arrange_110 rfl rfl ?_
                      refine z_cV (pc := 111) (st := []) hC [.int (nI k)] (kSX4_shownAt C.2.1 g N Ic P1 J htc hlc k (by omega)) rfl (z_lt hC (by decide)) rfl zkX4_shownAt zm_2_107 ⟨rfl, rfl⟩ rfl rfl hRm ⟨Nat.le_of_ble_eq_true rfl, Nat.le_of_ble_eq_true rfl⟩ (Nat.le_of_ble_eq_true rfl) ⟨Nat.zero_le _, Nat.zero_le _⟩ dX2_arrange_111 ?_
                      refine z_astore_n (pc := 114) (lv' := [(2, va_rf (Option.map g.1 (zsh σ k))), (1, .int (nI k)), (0, .ref (g.1 82))]) hC dX2_arrange_114 rfl (by decide) (z_isr_o _) rfl ?_
                      refine z_aload_n (pc := 115) hC 0 dX2_arrange_115 rfl rfl (z_isr_o _) ?_
                      refine z_ifnull (pc := 116) (tgt := 123) hC dX2_arrange_116 (by decide) (fun h116 => ?_) (fun a116 h116 => ?_)
                      · skip
                        rw [h116]
                        show zJ C g N 3 0 0 Ic P1 J 123 [(2, .null), (1, .int (nI k)), (0, .ref (g.1 82))] []
                        have hs := zsh_t h116
                        refine z_iinc (pc := 123) (v := (nI k) + (-1)) (lv' := [(1, .int ((nI k) + (-1))), (2, .null), (0, .ref (g.1 82))]) hC 1 dX2_arrange_123 rfl rfl (by decide) rfl ?_
                        refine z_goto (pc := 126) (tgt := 102) hC dX2_arrange_126 (by decide) ?_
                        refine z_lvs (lv' := [(1, .int ((nI k) + (-1))), (0, .ref (g.1 82))]) [0, 2] rfl ?_
                        exact ih k Ic (by omega) (zA3_n hA3 hs) (by omega)
                      · skip
                        rw [h116]
                        show zJ C g N 3 0 0 Ic P1 J 119 [(2, .ref (g.1 a116)), (1, .int (nI k)), (0, .ref (g.1 82))] []
                        obtain ⟨e, hs⟩ := zsh_f h116
                        replace e := e.symm
                        subst e
                        refine z_aload_n (pc := 119) hC 0 dX2_arrange_119 rfl rfl z_isr_r ?_
                        refine z_cS (pc := 120) (st := []) hC [.ref (g.1 k)] ((kX2_measureHeight C.2.1 g N Ic P1 J htc hlc k (sSh_ex ht.1 hs).2 ((hA3.1.oth (sSh_ex ht.1 hs).1 (by decide)).trans (zA2_W ht.1 hA2 (by omega) hs)) (sNH σ) (zA3_kid ht.1 hA3 hs) (sNH_bd ht.1 k) (fun i q hiq => (hA3.1.oth (sKids_lt ht.1 (List.mem_of_getElem? hiq)).2.1 (by decide)).trans ((hA2.2.2.2 k (sSh_ex ht.1 hs).1 hs).2 i q hiq).2) (fun _ => (hA3.2.1 k (by omega)).trans (hA2.2.2.2 k (sSh_ex ht.1 hs).1 hs).1))) zkX2_measureHeight zm_2_225 ⟨rfl, rfl⟩ rfl rfl hRm ⟨Nat.le_of_ble_eq_true rfl, Nat.le_of_ble_eq_true rfl⟩ (Nat.le_of_ble_eq_true rfl) ⟨Nat.zero_le _, Nat.zero_le _⟩ dX2_arrange_120 ?_
                        refine z_iinc (pc := 123) (v := (nI k) + (-1)) (lv' := [(1, .int ((nI k) + (-1))), (2, .ref (g.1 k)), (0, .ref (g.1 82))]) hC 1 dX2_arrange_123 rfl rfl (by decide) rfl ?_
                        refine z_goto (pc := 126) (tgt := 102) hC dX2_arrange_126 (by decide) ?_
                        refine z_lvs (lv' := [(1, .int ((nI k) + (-1))), (0, .ref (g.1 82))]) [0, 2] rfl ?_
                        exact ih k _ (by omega) (zA3_s (by omega) hA3 (sNH_fix ht.1 k).symm) (by omega)
                exact L102 41 40 Ib (by decide) (zA3_0 ht.1 Ib) (by decide)
              · skip
                have g72 := Int32.not_le.mp h72
                have hk40 : k < 40 := zc_lt (n := 40) h72 (by omega) (by decide)
                refine z_aload_n (pc := 75) hC 1 dX2_arrange_75 rfl rfl z_isr_r ?_
                refine z_gF (pc := 76) hC 2 0 (t := 81) rfl (z_lt hC (by decide)) rfl inX2 (by decide) rfl zm_1_194 rfl dX2_arrange_76 ?_
                refine z_iload_n (pc := 79) hC 0 dX2_arrange_79 rfl rfl ?_
                refine z_cV (pc := 80) (st := []) hC [.int (nI k)] (kSX4_shownAt C.2.1 g N Ib P1 J htb hlb k (by omega)) rfl (z_lt hC (by decide)) rfl zkX4_shownAt zm_2_107 ⟨rfl, rfl⟩ rfl rfl hRm ⟨Nat.le_of_ble_eq_true rfl, Nat.le_of_ble_eq_true rfl⟩ (Nat.le_of_ble_eq_true rfl) ⟨Nat.zero_le _, Nat.zero_le _⟩ dX2_arrange_80 ?_
                refine z_astore_n (pc := 83) (lv' := [(2, va_rf (Option.map g.1 (zsh σ k))), (1, .int (nI k)), (0, .ref (g.1 82))]) hC dX2_arrange_83 rfl (by decide) (z_isr_o _) rfl ?_
                refine z_aload_n (pc := 84) hC 0 dX2_arrange_84 rfl rfl (z_isr_o _) ?_
                refine z_ifnull (pc := 85) (tgt := 93) hC dX2_arrange_85 (by decide) (fun h85 => ?_) (fun a85 h85 => ?_)
                · skip
                  rw [h85]
                  show zJ C g N 3 0 0 Ib P1 J 93 [(2, .null), (1, .int (nI k)), (0, .ref (g.1 82))] []
                  have hs := zsh_t h85
                  refine z_iinc (pc := 93) (v := nI (k + 1)) (lv' := [(1, .int (nI (k + 1))), (2, .null), (0, .ref (g.1 82))]) hC 1 dX2_arrange_93 rfl (nI_1 k) (by decide) rfl ?_
                  refine z_goto (pc := 96) (tgt := 69) hC dX2_arrange_96 (by decide) ?_
                  refine z_lvs (lv' := [(1, .int (nI (k + 1))), (0, .ref (g.1 82))]) [0, 2] rfl ?_
                  exact ih (k + 1) Ib (by omega) (zA2_n hA2 hs) (by omega)
                · skip
                  rw [h85]
                  show zJ C g N 3 0 0 Ib P1 J 88 [(2, .ref (g.1 a85)), (1, .int (nI k)), (0, .ref (g.1 82))] []
                  obtain ⟨e, hs⟩ := zsh_f h85
                  replace e := e.symm
                  subst e
                  refine z_aload_n (pc := 88) hC 2 dX2_arrange_88 rfl rfl z_isr_r ?_
                  refine z_aload_n (pc := 89) hC 0 dX2_arrange_89 rfl rfl z_isr_r ?_
                  refine z_callV (pc := 90) (st := []) hC [.ref (g.1 k)] ((kX2_spreadWidths C.2.1 g N Ib P1 J htb hlb k (sSh_ex ht.1 hs).2 (sWD σ k) (zA2_W ht.1 hA2 (Nat.le_refl k) hs) (sNW σ) (fun c hc => (hA2.1.oth (sKids_lt ht.1 hc).2.1 (by decide)).trans ((z_u_b _ _ (by decide)).trans (hA1.2 c (Nat.zero_le _) (sKids_sh ht.1 hs hc)))) (sNW_bd ht.1 k))) rfl (z_lt hC (by decide)) rfl zkX2_spreadWidths zm_2_147 ⟨rfl, rfl⟩ rfl rfl hRm ⟨Nat.le_of_ble_eq_true rfl, Nat.le_of_ble_eq_true rfl⟩ (Nat.le_of_ble_eq_true rfl) ⟨Nat.zero_le _, Nat.zero_le _⟩ dX2_arrange_90 ?_
                  intro v Ix P2 J2 hq2
                  obtain ⟨hv, hP2, hJ2, _⟩ := id hq2
                  subst hv
                  rw [hP2, hJ2]
                  show zJ C g N 3 0 0 Ix P1 J 93 [(2, .ref (g.1 k)), (1, .int (nI k)), (0, .ref (g.1 82))] []
                  refine z_iinc (pc := 93) (v := nI (k + 1)) (lv' := [(1, .int (nI (k + 1))), (2, .ref (g.1 k)), (0, .ref (g.1 82))]) hC 1 dX2_arrange_93 rfl (nI_1 k) (by decide) rfl ?_
                  refine z_goto (pc := 96) (tgt := 69) hC dX2_arrange_96 (by decide) ?_
                  refine z_lvs (lv' := [(1, .int (nI (k + 1))), (0, .ref (g.1 82))]) [0, 2] rfl ?_
                  exact ih (k + 1) _ (by omega) (zA2_s ht.1 hk40 hA2 hs hq2) (by omega)
          exact L69 41 0 _ (by decide) (zA2_0 (z_u_s _ _ _ _)) (by decide)
        · skip
          have g24 := Int32.not_lt.mp h24
          obtain ⟨k, rfl⟩ := zdec_f h24
          rw [zdec k]
          refine z_aload_n (pc := 27) hC 1 dX2_arrange_27 rfl rfl z_isr_r ?_
          refine z_gF (pc := 28) hC 2 0 (t := 81) rfl (z_lt hC (by decide)) rfl inX2 (by decide) rfl zm_1_194 rfl dX2_arrange_28 ?_
          refine z_iload_n (pc := 31) hC 0 dX2_arrange_31 rfl rfl ?_
          refine z_cV (pc := 32) (st := []) hC [.int (nI k)] (kSX4_shownAt C.2.1 g N Ia P1 J hta hla k (by omega)) rfl (z_lt hC (by decide)) rfl zkX4_shownAt zm_2_107 ⟨rfl, rfl⟩ rfl rfl hRm ⟨Nat.le_of_ble_eq_true rfl, Nat.le_of_ble_eq_true rfl⟩ (Nat.le_of_ble_eq_true rfl) ⟨Nat.zero_le _, Nat.zero_le _⟩ dX2_arrange_32 ?_
          refine z_astore_n (pc := 35) (lv' := [(2, va_rf (Option.map g.1 (zsh σ k))), (1, .int (nI k)), (0, .ref (g.1 82))]) hC dX2_arrange_35 rfl (by decide) (z_isr_o _) rfl ?_
          refine z_aload_n (pc := 36) hC 0 dX2_arrange_36 rfl rfl (z_isr_o _) ?_
          refine z_ifnull (pc := 37) (tgt := 44) hC dX2_arrange_37 (by decide) (fun h37 => ?_) (fun a37 h37 => ?_)
          · skip
            rw [h37]
            show zJ C g N 3 0 0 Ia P1 J 44 [(2, .null), (1, .int (nI k)), (0, .ref (g.1 82))] []
            have hs := zsh_t h37
            refine z_iinc (pc := 44) (v := (nI k) + (-1)) (lv' := [(1, .int ((nI k) + (-1))), (2, .null), (0, .ref (g.1 82))]) hC 1 dX2_arrange_44 rfl rfl (by decide) rfl ?_
            refine z_goto (pc := 47) (tgt := 23) hC dX2_arrange_47 (by decide) ?_
            refine z_lvs (lv' := [(1, .int ((nI k) + (-1))), (0, .ref (g.1 82))]) [0, 2] rfl ?_
            exact ih k Ia (by omega) (zA1_n hA1 hs) (by omega)
          · skip
            rw [h37]
            show zJ C g N 3 0 0 Ia P1 J 40 [(2, .ref (g.1 a37)), (1, .int (nI k)), (0, .ref (g.1 82))] []
            obtain ⟨e, hs⟩ := zsh_f h37
            replace e := e.symm
            subst e
            refine z_aload_n (pc := 40) hC 0 dX2_arrange_40 rfl rfl z_isr_r ?_
            refine z_cS (pc := 41) (st := []) hC [.ref (g.1 k)] ((kX2_measureWidth C.2.1 g N Ia P1 J hta hla k (sSh_ex ht.1 hs).2 (sNW σ) (zA1_kid ht.1 hA1 hs))) zkX2_measureWidth zm_2_111 ⟨rfl, rfl⟩ rfl rfl hRm ⟨Nat.le_of_ble_eq_true rfl, Nat.le_of_ble_eq_true rfl⟩ (Nat.le_of_ble_eq_true rfl) ⟨Nat.zero_le _, Nat.zero_le _⟩ dX2_arrange_41 ?_
            refine z_iinc (pc := 44) (v := (nI k) + (-1)) (lv' := [(1, .int ((nI k) + (-1))), (2, .ref (g.1 k)), (0, .ref (g.1 82))]) hC 1 dX2_arrange_44 rfl rfl (by decide) rfl ?_
            refine z_goto (pc := 47) (tgt := 23) hC dX2_arrange_47 (by decide) ?_
            refine z_lvs (lv' := [(1, .int ((nI k) + (-1))), (0, .ref (g.1 82))]) [0, 2] rfl ?_
            exact ih k _ (by omega) (zA1_s (by omega) hA1 (sNW_fix ht.1 k).symm) (by omega)
    exact L23 41 40 I1 (by decide) (zA1_0 ht.1 I1) (by decide)
  · skip
    exact z_vret (pc := 7) hC hE dX2_arrange_7 ⟨rfl, rfl, ht, hs0 h4, h4, hr, fun _ _ _ => rfl, fun _ _ _ => rfl⟩
end ZARM
