section ZM2
set_option maxHeartbeats 4000000 in
set_option maxRecDepth 100000 in
theorem kX6_isLeaf (lx : Launch) (g : zG) (N : Nat) (I : Nat → Nat → Int32) (P : Nat → Nat → Option Nat) (J : Nat → Nat → Int64) {σ : zS} (hm : zMd σ I) (p : Nat) (he : sEx σ p = true) : z_Ct lx yX6_isLeaf (zT yX6_isLeaf cX6_isLeaf 3 (Option.some FieldType.boolean)) ({ frames := 3, cells := 0, slots := 0, locals := 65 } : Room) g N I P J [.ref (g.1 95), .int (nI p)] (zMu (some (.int (zB (!sCon σ p)))) I P J) 0 0 := by
  refine z_of (by decide) (Nat.le_of_ble_eq_true rfl) (lv0 := [(0, .ref (g.1 95)), (1, .int (nI p))]) rfl ?_
  intro C hlx hC hE hRm
  have hC : zX C cX6_isLeaf 3 RX6 (zT yX6_isLeaf cX6_isLeaf 3 (Option.some FieldType.boolean)) g N := hC
  refine z_iload_n (pc := 0) hC 1 dX6_isLeaf_0 rfl rfl ?_
  refine z_iconst (pc := 1) (v := 1) hC dX6_isLeaf_1 rfl ?_
  refine z_iadd (pc := 2) hC dX6_isLeaf_2 ?_
  refine z_istore_n (pc := 3) (lv' := [(2, .int ((nI p) + 1)), (0, .ref (g.1 95)), (1, .int (nI p))]) hC dX6_isLeaf_3 rfl (by decide) rfl ?_
  rw [nI_1]
  have L4 : ∀ (zf : Nat) (c : Nat) (hc : c ≤ sGv σ) (hf : sConN σ p c = false), sGv σ - c < zf → zJ C g N 3 0 0 I P J 4 [(2, .int (nI c)), (0, .ref (g.1 95)), (1, .int (nI p))] [] := by
    intro zf
    induction zf with
    | zero =>
      intro c hc hf hn2
      exact absurd hn2 (Nat.not_lt_zero _)
    | succ zf ih =>
      intro c hc hf hn2
      refine z_iload_n (pc := 4) hC 0 dX6_isLeaf_4 rfl rfl ?_
      refine z_aload_n (pc := 5) hC 1 dX6_isLeaf_5 rfl rfl z_isr_r ?_
      refine z_gF (pc := 6) hC 6 0 (t := 96) rfl (z_lt hC (by decide)) rfl inX6 (by decide) rfl zm_4_73 rfl dX6_isLeaf_6 ?_
      refine z_iconst (pc := 9) (v := 0) hC dX6_isLeaf_9 rfl ?_
      refine z_iaN (pc := 10) hC 0 (x := nI (sGv σ)) rfl (z_lt hC (by decide)) rfl (by decide) (by decide) hm.2.1 dX6_isLeaf_10 ?_
      refine z_icmp_ge (pc := 11) (tgt := 31) hC dX6_isLeaf_11 (by decide) (fun h11 => ?_) (fun h11 => ?_)
      · skip
        have g11 := Int32.not_lt.mpr h11
        have ec : c = sGv σ := Nat.le_antisymm hc (zc_ge h11 (by have := hm.gv; omega) (by have := hm.gv; omega))
        refine z_iconst (pc := 31) (v := 1) hC dX6_isLeaf_31 rfl ?_
        exact z_zret (pc := 32) hC hE (z_b01 (Or.inr rfl)) dX6_isLeaf_32 (zMu_i (by rw [ec] at hf; rw [sCon_f hm.1 hf]; rfl))
      · skip
        have g11 := Int32.not_le.mp h11
        have hcg : c < sGv σ := zc_lt h11 (by have := hm.gv; omega) (by have := hm.gv; omega)
        refine z_aload_n (pc := 14) hC 1 dX6_isLeaf_14 rfl rfl z_isr_r ?_
        refine z_iload_n (pc := 15) hC 0 dX6_isLeaf_15 rfl rfl ?_
        refine z_iload_n (pc := 16) hC 2 dX6_isLeaf_16 rfl rfl ?_
        refine z_cV (pc := 17) (st := []) hC [.int (nI c), .int (nI p)] (kX6_isChild C.2.1 g N I P J hm c p (by have := hm.gv; omega) (hm.lt he).2) rfl (z_lt hC (by decide)) rfl zkX6_isChild zm_4_158 ⟨rfl, rfl⟩ rfl rfl hRm ⟨Nat.le_of_ble_eq_true rfl, Nat.le_of_ble_eq_true rfl⟩ (Nat.le_of_ble_eq_true rfl) ⟨Nat.zero_le _, Nat.zero_le _⟩ dX6_isLeaf_17 ?_
        refine z_if_eq (pc := 20) (tgt := 25) hC dX6_isLeaf_20 (by decide) (fun h20 => ?_) (fun h20 => ?_)
        · skip
          have g20 := zB_f h20
          refine z_iinc (pc := 25) (v := nI (c + 1)) (lv' := [(2, .int (nI (c + 1))), (0, .ref (g.1 95)), (1, .int (nI p))]) hC 0 dX6_isLeaf_25 rfl (nI_1 c) (by decide) rfl ?_
          refine z_goto (pc := 28) (tgt := 4) hC dX6_isLeaf_28 (by decide) ?_
          exact ih (c + 1) (by omega) (by rw [sConN_s, hf, g20]; rfl) (by omega)
        · skip
          have g20 := zB_t h20
          refine z_iconst (pc := 23) (v := 0) hC dX6_isLeaf_23 rfl ?_
          exact z_zret (pc := 24) hC hE (z_b01 (Or.inl rfl)) dX6_isLeaf_24 (zMu_i (by rw [sCon_t g20 (by have := hm.gv; omega)]; rfl))
  exact L4 41 (p + 1) (by have := (hm.lt he).1; omega) (sCon_lo hm.1 (Nat.le_refl _)) (by have := hm.gv; omega)
theorem zk_0 {k : Nat} (h : nI k ≤ 0) (hk : k < 2 ^ 31) : k = 0 := by
  rw [zi_le, nI_toInt hk] at h
  have e : (0 : Int32).toInt = 0 := rfl
  omega
theorem zk_s {k : Nat} (h : ¬ nI k ≤ 0) : ∃ j, k = j + 1 := by
  cases k with
  | zero => exact absurd (by decide) h
  | succ j => exact ⟨j, rfl⟩
theorem zj_1 (j : Nat) : nI (j + 1) - 1 = nI j := by
  rw [← nI_1, Int32.add_sub_cancel]
set_option maxHeartbeats 4000000 in
set_option maxRecDepth 100000 in
theorem kX6_layKids (lx : Launch) (g : zG) (N : Nat) (I : Nat → Nat → Int32) (P : Nat → Nat → Option Nat) (J : Nat → Nat → Int64) {σ : zS} (hm : zMd σ I) (p : Nat) (he : sEx σ p = true) : z_Ct lx yX6_layKids (zT yX6_layKids cX6_layKids 4 (Option.none : Option FieldType)) ({ frames := 3, cells := 0, slots := 0, locals := 65 } : Room) g N I P J [.ref (g.1 95), .int (nI p)] (zlkQ σ p I P J) 0 0 := by
  refine z_of (by decide) (Nat.le_of_ble_eq_true rfl) (lv0 := [(0, .ref (g.1 95)), (1, .int (nI p))]) rfl ?_
  intro C hlx hC hE hRm
  have hC : zX C cX6_layKids 4 RX6 (zT yX6_layKids cX6_layKids 4 (Option.none : Option FieldType)) g N := hC
  refine z_aload_n (pc := 0) hC 0 dX6_layKids_0 rfl rfl z_isr_r ?_
  refine z_iconst (pc := 1) (v := 0) hC dX6_layKids_1 rfl ?_
  refine z_pI (pc := 2) hC 6 5 rfl (z_lt hC (by decide)) rfl inX6 tyX6_ok nmX6 (by decide) rfl zm_4_78 rfl rfl rfl dX6_layKids_2 ?_
  refine z_iload_n (pc := 5) hC 1 dX6_layKids_5 rfl rfl ?_
  refine z_iconst (pc := 6) (v := 1) hC dX6_layKids_6 rfl ?_
  refine z_iadd (pc := 7) hC dX6_layKids_7 ?_
  refine z_istore_n (pc := 8) (lv' := [(2, .int ((nI p) + 1)), (0, .ref (g.1 95)), (1, .int (nI p))]) hC dX6_layKids_8 rfl (by decide) rfl ?_
  rw [nI_1]
  have L9 : ∀ (zf : Nat) (c : Nat) (Ir : Nat → Nat → Int32) (hc : c ≤ sGv σ) (hz : zlo σ p c I Ir), sGv σ - c < zf → zJ C g N 4 0 0 Ir P J 9 [(2, .int (nI c)), (0, .ref (g.1 95)), (1, .int (nI p))] [] := by
    intro zf
    induction zf with
    | zero =>
      intro c Ir hc hz hn2
      exact absurd hn2 (Nat.not_lt_zero _)
    | succ zf ih =>
      intro c Ir hc hz hn2
      have hmr := hm.eq (fun k => hz.1 96 k (by decide) (by omega))
      refine z_iload_n (pc := 9) hC 0 dX6_layKids_9 rfl rfl ?_
      refine z_aload_n (pc := 10) hC 1 dX6_layKids_10 rfl rfl z_isr_r ?_
      refine z_gF (pc := 11) hC 6 0 (t := 96) rfl (z_lt hC (by decide)) rfl inX6 (by decide) rfl zm_4_73 rfl dX6_layKids_11 ?_
      refine z_iconst (pc := 14) (v := 0) hC dX6_layKids_14 rfl ?_
      refine z_iaN (pc := 15) hC 0 (x := nI (sGv σ)) rfl (z_lt hC (by decide)) rfl (by decide) (by decide) hmr.2.1 dX6_layKids_15 ?_
      refine z_icmp_ge (pc := 16) (tgt := 106) hC dX6_layKids_16 (by decide) (fun h16 => ?_) (fun h16 => ?_)
      · skip
        have g16 := Int32.not_lt.mpr h16
        have ec : c = sGv σ := Nat.le_antisymm hc (zc_ge h16 (by have := hm.gv; omega) (by have := hm.gv; omega))
        exact z_vret (pc := 106) hC hE dX6_layKids_106 (by rw [ec] at hz; exact zlo_end hm.1 hz)
      · skip
        have g16 := Int32.not_le.mp h16
        have hcg : c < sGv σ := zc_lt h16 (by have := hm.gv; omega) (by have := hm.gv; omega)
        refine z_aload_n (pc := 19) hC 1 dX6_layKids_19 rfl rfl z_isr_r ?_
        refine z_iload_n (pc := 20) hC 0 dX6_layKids_20 rfl rfl ?_
        refine z_iload_n (pc := 21) hC 2 dX6_layKids_21 rfl rfl ?_
        refine z_cV (pc := 22) (st := []) hC [.int (nI c), .int (nI p)] (kX6_isChild C.2.1 g N Ir P J hmr c p (by have := hm.gv; omega) (hm.lt he).2) rfl (z_lt hC (by decide)) rfl zkX6_isChild zm_4_158 ⟨rfl, rfl⟩ rfl rfl hRm ⟨Nat.le_of_ble_eq_true rfl, Nat.le_of_ble_eq_true rfl⟩ (Nat.le_of_ble_eq_true rfl) ⟨Nat.zero_le _, Nat.zero_le _⟩ dX6_layKids_22 ?_
        refine z_if_eq (pc := 25) (tgt := 100) hC dX6_layKids_25 (by decide) (fun h25 => ?_) (fun h25 => ?_)
        · skip
          have g25 := zB_f h25
          refine z_iinc (pc := 100) (v := nI (c + 1)) (lv' := [(2, .int (nI (c + 1))), (0, .ref (g.1 95)), (1, .int (nI p))]) hC 0 dX6_layKids_100 rfl (nI_1 c) (by decide) rfl ?_
          refine z_goto (pc := 103) (tgt := 9) hC dX6_layKids_103 (by decide) ?_
          exact ih (c + 1) Ir (by omega) (zlo_n (by unfold sV; rw [g25]; rfl) hz) (by omega)
        · skip
          have g25 := zB_t h25
          have hec := (sK_iff.mp g25).2.1
          refine z_aload_n (pc := 28) hC 1 dX6_layKids_28 rfl rfl z_isr_r ?_
          refine z_iload_n (pc := 29) hC 0 dX6_layKids_29 rfl rfl ?_
          refine z_bipush (pc := 30) (v := 18) hC dX6_layKids_30 rfl ?_
          refine z_cV (pc := 32) (st := []) hC [.int (nI c), .int 18] (kX6_of C.2.1 g N Ir P J hmr c 18 hec (by decide) 18 rfl) rfl (z_lt hC (by decide)) rfl zkX6_of zm_4_162 ⟨rfl, rfl⟩ rfl rfl hRm ⟨Nat.le_of_ble_eq_true rfl, Nat.le_of_ble_eq_true rfl⟩ (Nat.le_of_ble_eq_true rfl) ⟨Nat.zero_le _, Nat.zero_le _⟩ dX6_layKids_32 ?_
          refine z_if_ne (pc := 35) (tgt := 100) hC dX6_layKids_35 (by decide) (fun h35 => ?_) (fun h35 => ?_)
          · skip
            refine z_iinc (pc := 100) (v := nI (c + 1)) (lv' := [(2, .int (nI (c + 1))), (0, .ref (g.1 95)), (1, .int (nI p))]) hC 0 dX6_layKids_100 rfl (nI_1 c) (by decide) rfl ?_
            refine z_goto (pc := 103) (tgt := 9) hC dX6_layKids_103 (by decide) ?_
            exact ih (c + 1) Ir (by omega) (zlo_n (by unfold sV; rw [g25, decide_eq_false h35]; rfl) hz) (by omega)
          · skip
            have hec := (sK_iff.mp g25).2.1
            have hv : sV σ p c = true := by unfold sV; rw [g25, decide_eq_true h35]; rfl
            have ihc := ih
            refine z_aload_n (pc := 38) hC 1 dX6_layKids_38 rfl rfl z_isr_r ?_
            refine z_gI (pc := 39) hC 6 5 (x := nI (sKidsN σ p c).length) rfl (z_lt hC (by decide)) rfl inX6 (by decide) rfl zm_4_78 hz.2.1 dX6_layKids_39 ?_
            refine z_istore_n (pc := 42) (lv' := [(3, .int (nI (sKidsN σ p c).length)), (2, .int (nI c)), (0, .ref (g.1 95)), (1, .int (nI p))]) hC dX6_layKids_42 rfl (by decide) rfl ?_
            have L43 : ∀ (zf : Nat) (k : Nat) (Ir2 : Nat → Nat → Int32) (hk : k ≤ (sKidsN σ p c).length) (hi : zli σ p c k I Ir2), k < zf → zJ C g N 4 0 0 Ir2 P J 43 [(3, .int (nI k)), (2, .int (nI c)), (0, .ref (g.1 95)), (1, .int (nI p))] [] := by
              intro zf
              induction zf with
              | zero =>
                intro k Ir2 hk hi hn2
                exact absurd hn2 (Nat.not_lt_zero _)
              | succ zf ih =>
                intro k Ir2 hk hi hn2
                refine z_iload_n (pc := 43) hC 0 dX6_layKids_43 rfl rfl ?_
                refine z_if_le (pc := 44) (tgt := 83) hC dX6_layKids_44 (by decide) (fun h44 => ?_) (fun h44 => ?_)
                · skip
                  have g44 := Int32.not_lt.mpr h44
                  have ek : k = 0 := zk_0 h44 (by have := sKidsN_len (σ := σ) (p := p) (n := c); have := hm.gv; omega)
                  subst ek
                  refine z_aload_n (pc := 83) hC 2 dX6_layKids_83 rfl rfl z_isr_r ?_
                  refine z_gF (pc := 84) hC 6 4 (t := 99) rfl (z_lt hC (by decide)) rfl inX6 (by decide) rfl zm_4_77 rfl dX6_layKids_84 ?_
                  refine z_iload_n (pc := 87) hC 0 dX6_layKids_87 rfl rfl ?_
                  refine z_iload_n (pc := 88) hC 1 dX6_layKids_88 rfl rfl ?_
                  refine z_isN (pc := 89) hC 0 rfl (z_lt hC (by decide)) rfl (by decide) (by decide) dX6_layKids_89 ?_
                  refine z_aload_n (pc := 90) hC 2 dX6_layKids_90 rfl rfl z_isr_r ?_
                  refine z_dup (pc := 91) hC dX6_layKids_91 rfl ?_
                  refine z_gI (pc := 92) hC 6 5 (x := Ir2 95 5) rfl (z_lt hC (by decide)) rfl inX6 (by decide) rfl zm_4_78 (z_u_a _ _ (by decide)) dX6_layKids_92 ?_
                  refine z_iconst (pc := 95) (v := 1) hC dX6_layKids_95 rfl ?_
                  refine z_iadd (pc := 96) hC dX6_layKids_96 ?_
                  refine z_pI (pc := 97) hC 6 5 rfl (z_lt hC (by decide)) rfl inX6 tyX6_ok nmX6 (by decide) rfl zm_4_78 rfl rfl rfl dX6_layKids_97 ?_
                  refine z_iinc (pc := 100) (v := nI (c + 1)) (lv' := [(2, .int (nI (c + 1))), (3, .int (nI 0)), (0, .ref (g.1 95)), (1, .int (nI p))]) hC 1 dX6_layKids_100 rfl (nI_1 c) (by decide) rfl ?_
                  refine z_goto (pc := 103) (tgt := 9) hC dX6_layKids_103 (by decide) ?_
                  refine z_lvs (lv' := [(2, .int (nI (c + 1))), (0, .ref (g.1 95)), (1, .int (nI p))]) [0, 2, 3] rfl ?_
                  exact ihc (c + 1) _ (by omega) (zli_end hv (Nat.zero_le _) hi (fun j hj => absurd hj (by omega)) (by rw [hi.2.1]; exact nI_1 _)) (by omega)
                · skip
                  have g44 := Int32.not_le.mp h44
                  obtain ⟨j, rfl⟩ := zk_s h44
                  have hjl : j < (sKidsN σ p c).length := by omega
                  have hj40 : j + 1 < 40 := by have := sKidsN_len (σ := σ) (p := p) (n := c); have := hm.gv; omega
                  refine z_aload_n (pc := 47) hC 2 dX6_layKids_47 rfl rfl z_isr_r ?_
                  refine z_iload_n (pc := 48) hC 1 dX6_layKids_48 rfl rfl ?_
                  refine z_aload_n (pc := 49) hC 2 dX6_layKids_49 rfl rfl z_isr_r ?_
                  refine z_gF (pc := 50) hC 6 4 (t := 99) rfl (z_lt hC (by decide)) rfl inX6 (by decide) rfl zm_4_77 rfl dX6_layKids_50 ?_
                  refine z_iload_n (pc := 53) hC 0 dX6_layKids_53 rfl rfl ?_
                  refine z_iconst (pc := 54) (v := 1) hC dX6_layKids_54 rfl ?_
                  refine z_isub (pc := 55) hC dX6_layKids_55 ?_
                  refine z_iaN (pc := 56) hC j (x := nI (lk σ p c j)) rfl (z_lt hC (by decide)) (zj_1 j) (by omega) (by decide) (hi.2.2.1 j (Nat.lt_succ_self _)) dX6_layKids_56 ?_
                  refine z_cV (pc := 57) (st := []) hC [.int (nI c), .int (nI (lk σ p c j))] (kX6_isAhead C.2.1 g N Ir2 P J (hm.eq (fun k => hi.1 96 k (by decide) (by omega))) c (lk σ p c j) hec (lk_mem hm.1 hjl).2 (lk_mem hm.1 hjl).1) rfl (z_lt hC (by decide)) rfl zkX6_isAhead zm_4_166 ⟨rfl, rfl⟩ rfl rfl hRm ⟨Nat.le_of_ble_eq_true rfl, Nat.le_of_ble_eq_true rfl⟩ (Nat.le_of_ble_eq_true rfl) ⟨Nat.zero_le _, Nat.zero_le _⟩ dX6_layKids_57 ?_
                  refine z_if_eq (pc := 60) (tgt := 83) hC dX6_layKids_60 (by decide) (fun h60 => ?_) (fun h60 => ?_)
                  · skip
                    have g60 := zB_f h60
                    refine z_aload_n (pc := 83) hC 2 dX6_layKids_83 rfl rfl z_isr_r ?_
                    refine z_gF (pc := 84) hC 6 4 (t := 99) rfl (z_lt hC (by decide)) rfl inX6 (by decide) rfl zm_4_77 rfl dX6_layKids_84 ?_
                    refine z_iload_n (pc := 87) hC 0 dX6_layKids_87 rfl rfl ?_
                    refine z_iload_n (pc := 88) hC 1 dX6_layKids_88 rfl rfl ?_
                    refine z_isN (pc := 89) hC (j + 1) rfl (z_lt hC (by decide)) rfl hj40 (by decide) dX6_layKids_89 ?_
                    refine z_aload_n (pc := 90) hC 2 dX6_layKids_90 rfl rfl z_isr_r ?_
                    refine z_dup (pc := 91) hC dX6_layKids_91 rfl ?_
                    refine z_gI (pc := 92) hC 6 5 (x := Ir2 95 5) rfl (z_lt hC (by decide)) rfl inX6 (by decide) rfl zm_4_78 (z_u_a _ _ (by decide)) dX6_layKids_92 ?_
                    refine z_iconst (pc := 95) (v := 1) hC dX6_layKids_95 rfl ?_
                    refine z_iadd (pc := 96) hC dX6_layKids_96 ?_
                    refine z_pI (pc := 97) hC 6 5 rfl (z_lt hC (by decide)) rfl inX6 tyX6_ok nmX6 (by decide) rfl zm_4_78 rfl rfl rfl dX6_layKids_97 ?_
                    refine z_iinc (pc := 100) (v := nI (c + 1)) (lv' := [(2, .int (nI (c + 1))), (3, .int (nI (j + 1))), (0, .ref (g.1 95)), (1, .int (nI p))]) hC 1 dX6_layKids_100 rfl (nI_1 c) (by decide) rfl ?_
                    refine z_goto (pc := 103) (tgt := 9) hC dX6_layKids_103 (by decide) ?_
                    refine z_lvs (lv' := [(2, .int (nI (c + 1))), (0, .ref (g.1 95)), (1, .int (nI p))]) [0, 2, 3] rfl ?_
                    exact ihc (c + 1) _ (by omega) (zli_end hv hk hi (fun j2 hj2 => by rw [show j2 = j by omega]; exact Int32.not_lt.mp (of_decide_eq_false g60)) (by rw [hi.2.1]; exact nI_1 _)) (by omega)
                  · skip
                    have g60 := zB_t h60
                    refine z_aload_n (pc := 63) hC 2 dX6_layKids_63 rfl rfl z_isr_r ?_
                    refine z_gF (pc := 64) hC 6 4 (t := 99) rfl (z_lt hC (by decide)) rfl inX6 (by decide) rfl zm_4_77 rfl dX6_layKids_64 ?_
                    refine z_iload_n (pc := 67) hC 0 dX6_layKids_67 rfl rfl ?_
                    refine z_aload_n (pc := 68) hC 2 dX6_layKids_68 rfl rfl z_isr_r ?_
                    refine z_gF (pc := 69) hC 6 4 (t := 99) rfl (z_lt hC (by decide)) rfl inX6 (by decide) rfl zm_4_77 rfl dX6_layKids_69 ?_
                    refine z_iload_n (pc := 72) hC 0 dX6_layKids_72 rfl rfl ?_
                    refine z_iconst (pc := 73) (v := 1) hC dX6_layKids_73 rfl ?_
                    refine z_isub (pc := 74) hC dX6_layKids_74 ?_
                    refine z_iaN (pc := 75) hC j (x := nI (lk σ p c j)) rfl (z_lt hC (by decide)) (zj_1 j) (by omega) (by decide) (hi.2.2.1 j (Nat.lt_succ_self _)) dX6_layKids_75 ?_
                    refine z_isN (pc := 76) hC (j + 1) rfl (z_lt hC (by decide)) rfl hj40 (by decide) dX6_layKids_76 ?_
                    refine z_iinc (pc := 77) (v := nI j) (lv' := [(3, .int (nI j)), (2, .int (nI c)), (0, .ref (g.1 95)), (1, .int (nI p))]) hC 0 dX6_layKids_77 rfl (zdec j) (by decide) rfl ?_
                    refine z_goto (pc := 80) (tgt := 43) hC dX6_layKids_80 (by decide) ?_
                    exact ih j _ (by omega) (zli_s hi (of_decide_eq_true g60)) (by omega)
            exact L43 41 (sKidsN σ p c).length Ir (Nat.le_refl _) (zli_0 hz) (by have := sKidsN_len (σ := σ) (p := p) (n := c); have := hm.gv; omega)
  exact L9 41 (p + 1) _ (by have := (hm.lt he).1; omega) (zlo_0 hm.1 I) (by have := hm.gv; omega)
theorem zcnt_gv {σ : zS} (hw : sWF σ) : sCnt (sEx σ) (sGv σ) = sCnt (sEx σ) 40 := by
  have e := zcnt_ge (f := sEx σ) (g := sGv σ) (d := 40 - sGv σ) (fun b hb => hw.2.2.2.1 b hb)
  rw [show sGv σ + (40 - sGv σ) = 40 by have := hw.2.2.1; omega] at e
  exact e.symm
set_option maxHeartbeats 4000000 in
set_option maxRecDepth 100000 in
theorem kX6_boxes (lx : Launch) (g : zG) (N : Nat) (I : Nat → Nat → Int32) (P : Nat → Nat → Option Nat) (J : Nat → Nat → Int64) {σ : zS} (hm : zMd σ I) : z_Ct lx yX6_boxes (zT yX6_boxes cX6_boxes 3 (Option.some FieldType.int)) ({ frames := 2, cells := 0, slots := 0, locals := 43 } : Room) g N I P J [.ref (g.1 95)] (zMu (some (.int (sCnt (sEx σ) 40))) (z_u I 95 3 0) P J) 0 0 := by
  refine z_of (by decide) (Nat.le_of_ble_eq_true rfl) (lv0 := [(0, .ref (g.1 95))]) rfl ?_
  intro C hlx hC hE hRm
  have hC : zX C cX6_boxes 3 RX6 (zT yX6_boxes cX6_boxes 3 (Option.some FieldType.int)) g N := hC
  refine z_aload_n (pc := 0) hC 0 dX6_boxes_0 rfl rfl z_isr_r ?_
  refine z_iconst (pc := 1) (v := 0) hC dX6_boxes_1 rfl ?_
  refine z_pI (pc := 2) hC 6 3 rfl (z_lt hC (by decide)) rfl inX6 tyX6_ok nmX6 (by decide) rfl zm_4_76 rfl rfl rfl dX6_boxes_2 ?_
  refine z_iconst (pc := 5) (v := 0) hC dX6_boxes_5 rfl ?_
  refine z_istore_n (pc := 6) (lv' := [(1, .int 0), (0, .ref (g.1 95))]) hC dX6_boxes_6 rfl (by decide) rfl ?_
  refine z_iconst (pc := 7) (v := 0) hC dX6_boxes_7 rfl ?_
  refine z_istore_n (pc := 8) (lv' := [(2, .int 0), (1, .int 0), (0, .ref (g.1 95))]) hC dX6_boxes_8 rfl (by decide) rfl ?_
  have L9 : ∀ (zf : Nat) (b : Nat) (hb : b ≤ sGv σ), sGv σ - b < zf → zJ C g N 3 0 0 (z_u I 95 3 0) P J 9 [(2, .int (nI b)), (1, .int (sCnt (sEx σ) b)), (0, .ref (g.1 95))] [] := by
    intro zf
    induction zf with
    | zero =>
      intro b hb hn2
      exact absurd hn2 (Nat.not_lt_zero _)
    | succ zf ih =>
      intro b hb hn2
      refine z_iload_n (pc := 9) hC 0 dX6_boxes_9 rfl rfl ?_
      refine z_aload_n (pc := 10) hC 2 dX6_boxes_10 rfl rfl z_isr_r ?_
      refine z_gF (pc := 11) hC 6 0 (t := 96) rfl (z_lt hC (by decide)) rfl inX6 (by decide) rfl zm_4_73 rfl dX6_boxes_11 ?_
      refine z_iconst (pc := 14) (v := 0) hC dX6_boxes_14 rfl ?_
      refine z_iaN (pc := 15) hC 0 (x := nI (sGv σ)) rfl (z_lt hC (by decide)) rfl (by decide) (by decide) ((z_u_a _ _ (by decide)).trans hm.2.1) dX6_boxes_15 ?_
      refine z_icmp_ge (pc := 16) (tgt := 41) hC dX6_boxes_16 (by decide) (fun h16 => ?_) (fun h16 => ?_)
      · skip
        have g16 := Int32.not_lt.mpr h16
        have eb : b = sGv σ := Nat.le_antisymm hb (zc_ge h16 (by have := hm.gv; omega) (by have := hm.gv; omega))
        refine z_iload_n (pc := 41) hC 1 dX6_boxes_41 rfl rfl ?_
        exact z_iret (pc := 42) hC hE dX6_boxes_42 ⟨by rw [eb, zcnt_gv hm.1], rfl, rfl, rfl⟩
      · skip
        have g16 := Int32.not_le.mp h16
        have hbg : b < sGv σ := zc_lt h16 (by have := hm.gv; omega) (by have := hm.gv; omega)
        have hb40 : b < 40 := by have := hm.gv; omega
        refine z_iload_n (pc := 19) hC 1 dX6_boxes_19 rfl rfl ?_
        refine z_aload_n (pc := 20) hC 2 dX6_boxes_20 rfl rfl z_isr_r ?_
        refine z_iload_n (pc := 21) hC 0 dX6_boxes_21 rfl rfl ?_
        refine z_cV (pc := 22) (st := [.int (sCnt (sEx σ) b)]) hC [.int (nI b)] (kX6_isBox C.2.1 g N (z_u I 95 3 0) P J (hm.u (show 96 ≠ 95 by decide)) (nI b)) rfl (z_lt hC (by decide)) rfl zkX6_isBox zm_4_131 ⟨rfl, rfl⟩ rfl rfl hRm ⟨Nat.le_of_ble_eq_true rfl, Nat.le_of_ble_eq_true rfl⟩ (Nat.le_of_ble_eq_true rfl) ⟨Nat.zero_le _, Nat.zero_le _⟩ dX6_boxes_22 ?_
        refine z_if_eq (pc := 25) (tgt := 32) hC dX6_boxes_25 (by decide) (fun h25 => ?_) (fun h25 => ?_)
        · skip
          have g25 := zB_f h25
          rw [zbx_nI hb40] at g25
          refine z_iconst (pc := 32) (v := 0) hC dX6_boxes_32 rfl ?_
          refine z_iadd (pc := 33) hC dX6_boxes_33 ?_
          refine z_istore_n (pc := 34) (lv' := [(1, .int ((sCnt (sEx σ) b) + 0)), (2, .int (nI b)), (0, .ref (g.1 95))]) hC dX6_boxes_34 rfl (by decide) rfl ?_
          refine z_iinc (pc := 35) (v := nI (b + 1)) (lv' := [(2, .int (nI (b + 1))), (1, .int ((sCnt (sEx σ) b) + 0)), (0, .ref (g.1 95))]) hC 1 dX6_boxes_35 rfl (nI_1 b) (by decide) rfl ?_
          refine z_goto (pc := 38) (tgt := 9) hC dX6_boxes_38 (by decide) ?_
          have K := ih (b + 1) (by omega) (by omega)
          rw [show sCnt (sEx σ) (b + 1) = (sCnt (sEx σ) b) + 0 by rw [zcnt_s, g25]; first | rfl | exact (Int32.add_zero _).symm] at K
          exact K
        · skip
          have g25 := zB_t h25
          rw [zbx_nI hb40] at g25
          refine z_iconst (pc := 28) (v := 1) hC dX6_boxes_28 rfl ?_
          refine z_goto (pc := 29) (tgt := 33) hC dX6_boxes_29 (by decide) ?_
          refine z_iadd (pc := 33) hC dX6_boxes_33 ?_
          refine z_istore_n (pc := 34) (lv' := [(1, .int ((sCnt (sEx σ) b) + 1)), (2, .int (nI b)), (0, .ref (g.1 95))]) hC dX6_boxes_34 rfl (by decide) rfl ?_
          refine z_iinc (pc := 35) (v := nI (b + 1)) (lv' := [(2, .int (nI (b + 1))), (1, .int ((sCnt (sEx σ) b) + 1)), (0, .ref (g.1 95))]) hC 1 dX6_boxes_35 rfl (nI_1 b) (by decide) rfl ?_
          refine z_goto (pc := 38) (tgt := 9) hC dX6_boxes_38 (by decide) ?_
          have K := ih (b + 1) (by omega) (by omega)
          rw [show sCnt (sEx σ) (b + 1) = (sCnt (sEx σ) b) + 1 by rw [zcnt_s, g25]; first | rfl | exact (Int32.add_zero _).symm] at K
          exact K
  exact L9 41 0 (Nat.zero_le _) (by have := hm.gv; omega)
end ZM2
