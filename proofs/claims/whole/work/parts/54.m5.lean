section ZM5
set_option maxHeartbeats 4000000 in
set_option maxRecDepth 100000 in
theorem kX6_copyStyleF (lx : Launch) (g : zG) (N : Nat) (I : Nat → Nat → Int32) (P : Nat → Nat → Option Nat) (J : Nat → Nat → Int64) {σ : zS} (hm : zMd σ I) (x y : Int32) (h : zbx σ x = false ∨ zbx σ y = false) : z_Ct lx yX6_copyStyle (zT yX6_copyStyle cX6_copyStyle 5 (Option.some FieldType.int)) ({ frames := 2, cells := 0, slots := 0, locals := 43 } : Room) g N I P J [.ref (g.1 95), .int x, .int y] (fun v I' P' J' => v = some (.int 0) ∧ I' 95 3 = 1 ∧ zMd σ I' ∧ zKm I P J I' P' J') 0 0 := by
  refine z_of (by decide) (Nat.le_of_ble_eq_true rfl) (lv0 := [(0, .ref (g.1 95)), (1, .int x), (2, .int y)]) rfl ?_
  intro C hlx hC hE hRm
  have hC : zX C cX6_copyStyle 5 RX6 (zT yX6_copyStyle cX6_copyStyle 5 (Option.some FieldType.int)) g N := hC
  refine z_aload_n (pc := 0) hC 0 dX6_copyStyle_0 rfl rfl z_isr_r ?_
  refine z_aload_n (pc := 1) hC 0 dX6_copyStyle_1 rfl rfl z_isr_r ?_
  refine z_iload_n (pc := 2) hC 1 dX6_copyStyle_2 rfl rfl ?_
  refine z_cV (pc := 3) (st := [.ref (g.1 95)]) hC [.int x] (kX6_isBox C.2.1 g N I P J hm x) rfl (z_lt hC (by decide)) rfl zkX6_isBox zm_4_131 ⟨rfl, rfl⟩ rfl rfl hRm ⟨Nat.le_of_ble_eq_true rfl, Nat.le_of_ble_eq_true rfl⟩ (Nat.le_of_ble_eq_true rfl) ⟨Nat.zero_le _, Nat.zero_le _⟩ dX6_copyStyle_3 ?_
  refine z_if_eq (pc := 6) (tgt := 21) hC dX6_copyStyle_6 (by decide) (fun h6 => ?_) (fun h6 => ?_)
  · skip
    have g6 := zB_f h6
    refine z_iconst (pc := 21) (v := 1) hC dX6_copyStyle_21 rfl ?_
    refine z_pI (pc := 22) hC 6 3 rfl (z_lt hC (by decide)) rfl inX6 tyX6_ok nmX6 (by decide) rfl zm_4_76 rfl rfl rfl dX6_copyStyle_22 ?_
    refine z_iconst (pc := 25) (v := 0) hC dX6_copyStyle_25 rfl ?_
    refine z_istore_n (pc := 26) (lv' := [(3, .int 0), (0, .ref (g.1 95)), (1, .int x), (2, .int y)]) hC dX6_copyStyle_26 rfl (by decide) rfl ?_
    refine z_iconst (pc := 27) (v := 0) hC dX6_copyStyle_27 rfl ?_
    refine z_istore (pc := 28) (lv' := [(4, .int 0), (3, .int 0), (0, .ref (g.1 95)), (1, .int x), (2, .int y)]) hC dX6_copyStyle_28 (by decide) rfl ?_
    refine z_iload (pc := 30) hC 0 dX6_copyStyle_30 rfl ?_
    refine z_bipush (pc := 32) (v := 17) hC dX6_copyStyle_32 rfl ?_
    refine z_icmp_ge (pc := 34) (tgt := 97) hC dX6_copyStyle_34 (by decide) (fun h34 => ?_) (fun h34 => ?_)
    · skip
      have g34 := Int32.not_lt.mpr h34
      exact absurd h34 (by decide)
    · skip
      have g34 := Int32.not_le.mp h34
      refine z_aload_n (pc := 37) hC 2 dX6_copyStyle_37 rfl rfl z_isr_r ?_
      refine z_gI (pc := 38) hC 6 3 (x := 1) rfl (z_lt hC (by decide)) rfl inX6 (by decide) rfl zm_4_76 (z_u_s _ _ _ _) dX6_copyStyle_38 ?_
      refine z_if_ne (pc := 41) (tgt := 97) hC dX6_copyStyle_41 (by decide) (fun h41 => ?_) (fun h41 => ?_)
      · skip
        refine z_iload_n (pc := 97) hC 1 dX6_copyStyle_97 rfl rfl ?_
        exact z_iret (pc := 98) hC hE dX6_copyStyle_98 ⟨rfl, z_u_s _ _ _ _, hm.u (by decide), zKm.rf.u (by decide)⟩
      · skip
        exact absurd h41 (by decide)
  · skip
    have g6 := zB_t h6
    refine z_aload_n (pc := 9) hC 0 dX6_copyStyle_9 rfl rfl z_isr_r ?_
    refine z_iload_n (pc := 10) hC 2 dX6_copyStyle_10 rfl rfl ?_
    refine z_cV (pc := 11) (st := [.ref (g.1 95)]) hC [.int y] (kX6_isBox C.2.1 g N I P J hm y) rfl (z_lt hC (by decide)) rfl zkX6_isBox zm_4_131 ⟨rfl, rfl⟩ rfl rfl hRm ⟨Nat.le_of_ble_eq_true rfl, Nat.le_of_ble_eq_true rfl⟩ (Nat.le_of_ble_eq_true rfl) ⟨Nat.zero_le _, Nat.zero_le _⟩ dX6_copyStyle_11 ?_
    refine z_if_eq (pc := 14) (tgt := 21) hC dX6_copyStyle_14 (by decide) (fun h14 => ?_) (fun h14 => ?_)
    · skip
      have g14 := zB_f h14
      refine z_iconst (pc := 21) (v := 1) hC dX6_copyStyle_21 rfl ?_
      refine z_pI (pc := 22) hC 6 3 rfl (z_lt hC (by decide)) rfl inX6 tyX6_ok nmX6 (by decide) rfl zm_4_76 rfl rfl rfl dX6_copyStyle_22 ?_
      refine z_iconst (pc := 25) (v := 0) hC dX6_copyStyle_25 rfl ?_
      refine z_istore_n (pc := 26) (lv' := [(3, .int 0), (0, .ref (g.1 95)), (1, .int x), (2, .int y)]) hC dX6_copyStyle_26 rfl (by decide) rfl ?_
      refine z_iconst (pc := 27) (v := 0) hC dX6_copyStyle_27 rfl ?_
      refine z_istore (pc := 28) (lv' := [(4, .int 0), (3, .int 0), (0, .ref (g.1 95)), (1, .int x), (2, .int y)]) hC dX6_copyStyle_28 (by decide) rfl ?_
      refine z_iload (pc := 30) hC 0 dX6_copyStyle_30 rfl ?_
      refine z_bipush (pc := 32) (v := 17) hC dX6_copyStyle_32 rfl ?_
      refine z_icmp_ge (pc := 34) (tgt := 97) hC dX6_copyStyle_34 (by decide) (fun h34 => ?_) (fun h34 => ?_)
      · skip
        have g34 := Int32.not_lt.mpr h34
        exact absurd h34 (by decide)
      · skip
        have g34 := Int32.not_le.mp h34
        refine z_aload_n (pc := 37) hC 2 dX6_copyStyle_37 rfl rfl z_isr_r ?_
        refine z_gI (pc := 38) hC 6 3 (x := 1) rfl (z_lt hC (by decide)) rfl inX6 (by decide) rfl zm_4_76 (z_u_s _ _ _ _) dX6_copyStyle_38 ?_
        refine z_if_ne (pc := 41) (tgt := 97) hC dX6_copyStyle_41 (by decide) (fun h41 => ?_) (fun h41 => ?_)
        · skip
          refine z_iload_n (pc := 97) hC 1 dX6_copyStyle_97 rfl rfl ?_
          exact z_iret (pc := 98) hC hE dX6_copyStyle_98 ⟨rfl, z_u_s _ _ _ _, hm.u (by decide), zKm.rf.u (by decide)⟩
        · skip
          exact absurd h41 (by decide)
    · skip
      have g14 := zB_t h14
      rcases h with h | h
      · rw [h] at g6; cases g6
      · rw [h] at g14; cases g14
theorem zb_0 {b : Nat} (h : nI b = 0) (hb : b < 40) : b = 0 := (nI_eq (a := b) (b := 0) (by omega) (by decide)).mp h
theorem z3_pa {p : Nat} (h : nI p ≤ 0) (hp : p < 40) : p = 0 := zk_0 h (by omega)
theorem zcut_0 {σ : zS} (hw : sWF σ) {t n : Nat} (ht0 : t ≠ 0) : sCut σ t n 0 = true := by
  have e : ∀ n, sCut σ t n 0 = true := by
    intro n
    induction n with
    | zero =>
      show (sEx σ 0 && decide (0 ≠ t)) = true
      rw [hw.1, decide_eq_true (Ne.symm ht0)]
      rfl
    | succ n ih =>
      show (if 0 = n then sCut σ t n n && (decide (n ≤ t) || sCut σ t n (sPa σ n)) else sCut σ t n 0) = true
      by_cases e : 0 = n
      · rw [if_pos e, ← e, decide_eq_true (Nat.zero_le t)]
        rw [← e] at ih
        rw [ih]
        rfl
      · rw [if_neg e]; exact ih
  exact e n
theorem sCutC_s {σ : zS} {t n : Nat} : sCutC σ t (n + 1) = if t < n ∧ sCut σ t n n = true ∧ sCut σ t n (sPa σ n) = false then sCutC σ t n + 1 else sCutC σ t n := rfl
theorem zcx_t {σ : zS} {t n c : Nat} (h : -1 ≤ (if sCut σ t n c = true then sPnu σ c else -2)) : sCut σ t n c = true := by
  by_cases q : sCut σ t n c = true
  · exact q
  · rw [if_neg q] at h
    exact absurd h (by decide)
theorem zcx_f {σ : zS} (hw : sWF σ) {t n c : Nat} (h : ¬ -1 ≤ (if sCut σ t n c = true then sPnu σ c else -2)) : sCut σ t n c = false := by
  by_cases q : sCut σ t n c = true
  · rw [if_pos q] at h
    exact absurd (Int32.not_lt.mp (sPnu_ge hw (sCut_ex q).1)) h
  · simpa using q
theorem zcy_t {σ : zS} {t n c : Nat} (h : ¬ (if sCut σ t n c = true then sPnu σ c else -2) = -2) : sCut σ t n c = true := by
  by_cases q : sCut σ t n c = true
  · exact q
  · rw [if_neg q] at h
    exact absurd rfl h
theorem zcy_f {σ : zS} (hw : sWF σ) {t n c : Nat} (h : (if sCut σ t n c = true then sPnu σ c else -2) = -2) : sCut σ t n c = false := by
  by_cases q : sCut σ t n c = true
  · rw [if_pos q] at h
    exact absurd h (sPnu_2 hw (sCut_ex q).1)
  · simpa using q
set_option maxHeartbeats 4000000 in
set_option maxRecDepth 100000 in
theorem kX6_findShown (lx : Launch) (g : zG) (N : Nat) (I : Nat → Nat → Int32) (P : Nat → Nat → Option Nat) (J : Nat → Nat → Int64) {σ : zS} (hm : zMd σ I) : z_Ct lx yX6_findShown (zT yX6_findShown cX6_findShown 2 (Option.none : Option FieldType)) ({ frames := 2, cells := 0, slots := 0, locals := 43 } : Room) g N I P J [.ref (g.1 95)] (fun v I' P' J' => v = none ∧ P' = P ∧ J' = J ∧ zmsh σ (sGv σ) I I') 0 0 := by
  refine z_of (by decide) (Nat.le_of_ble_eq_true rfl) (lv0 := [(0, .ref (g.1 95))]) rfl ?_
  intro C hlx hC hE hRm
  have hC : zX C cX6_findShown 2 RX6 (zT yX6_findShown cX6_findShown 2 (Option.none : Option FieldType)) g N := hC
  refine z_iconst (pc := 0) (v := 0) hC dX6_findShown_0 rfl ?_
  refine z_istore_n (pc := 1) (lv' := [(1, .int 0), (0, .ref (g.1 95))]) hC dX6_findShown_1 rfl (by decide) rfl ?_
  have L2 : ∀ (zf : Nat) (b : Nat) (Ir : Nat → Nat → Int32) (hb : b ≤ sGv σ) (hz : zmsh σ b I Ir), sGv σ - b < zf → zJ C g N 2 0 0 Ir P J 2 [(1, .int (nI b)), (0, .ref (g.1 95))] [] := by
    intro zf
    induction zf with
    | zero =>
      intro b Ir hb hz hn2
      exact absurd hn2 (Nat.not_lt_zero _)
    | succ zf ih =>
      intro b Ir hb hz hn2
      have hmr := hm.eq (fun k => hz.1 96 k (by decide))
      refine z_iload_n (pc := 2) hC 0 dX6_findShown_2 rfl rfl ?_
      refine z_aload_n (pc := 3) hC 1 dX6_findShown_3 rfl rfl z_isr_r ?_
      refine z_gF (pc := 4) hC 6 0 (t := 96) rfl (z_lt hC (by decide)) rfl inX6 (by decide) rfl zm_4_73 rfl dX6_findShown_4 ?_
      refine z_iconst (pc := 7) (v := 0) hC dX6_findShown_7 rfl ?_
      refine z_iaN (pc := 8) hC 0 (x := nI (sGv σ)) rfl (z_lt hC (by decide)) rfl (by decide) (by decide) hmr.2.1 dX6_findShown_8 ?_
      refine z_icmp_ge (pc := 9) (tgt := 67) hC dX6_findShown_9 (by decide) (fun h9 => ?_) (fun h9 => ?_)
      · skip
        have g9 := Int32.not_lt.mpr h9
        have eb : b = sGv σ := Nat.le_antisymm hb (zc_ge h9 (by have := hm.gv; omega) (by have := hm.gv; omega))
        exact z_vret (pc := 67) hC hE dX6_findShown_67 (by subst eb; exact ⟨rfl, rfl, rfl, hz⟩)
      · skip
        have g9 := Int32.not_le.mp h9
        have hbg : b < sGv σ := zc_lt h9 (by have := hm.gv; omega) (by have := hm.gv; omega)
        have hb40 : b < 40 := by have := hm.gv; omega
        refine z_aload_n (pc := 12) hC 1 dX6_findShown_12 rfl rfl z_isr_r ?_
        refine z_gF (pc := 13) hC 6 6 (t := 100) rfl (z_lt hC (by decide)) rfl inX6 (by decide) rfl zm_4_79 rfl dX6_findShown_13 ?_
        refine z_iload_n (pc := 16) hC 0 dX6_findShown_16 rfl rfl ?_
        refine z_iload_n (pc := 17) hC 0 dX6_findShown_17 rfl rfl ?_
        refine z_if_eq (pc := 18) (tgt := 55) hC dX6_findShown_18 (by decide) (fun h18 => ?_) (fun h18 => ?_)
        · skip
          have g18x := h18
          refine z_iconst (pc := 55) (v := 1) hC dX6_findShown_55 rfl ?_
          refine z_goto (pc := 56) (tgt := 60) hC dX6_findShown_56 (by decide) ?_
          refine z_zsN (pc := 60) hC b rfl (z_lt hC (by decide)) rfl hb40 (by decide) (Or.inr rfl) dX6_findShown_60 ?_
          refine z_iinc (pc := 61) (v := nI (b + 1)) (lv' := [(1, .int (nI (b + 1))), (0, .ref (g.1 95))]) hC 0 dX6_findShown_61 rfl (nI_1 b) (by decide) rfl ?_
          refine z_goto (pc := 64) (tgt := 2) hC dX6_findShown_64 (by decide) ?_
          exact ih (b + 1) _ (by omega) (zmsh_s hz (by rw [sSh_rule hm.1 hb40, decide_eq_true (zb_0 g18x hb40)]; rfl)) (by omega)
        · skip
          have h0 : b ≠ 0 := fun e => h18 (by rw [e]; rfl)
          refine z_aload_n (pc := 21) hC 1 dX6_findShown_21 rfl rfl z_isr_r ?_
          refine z_iload_n (pc := 22) hC 0 dX6_findShown_22 rfl rfl ?_
          refine z_cV (pc := 23) (st := [.int (nI b), .ref (g.1 100)]) hC [.int (nI b)] (kX6_isBox C.2.1 g N Ir P J hmr (nI b)) rfl (z_lt hC (by decide)) rfl zkX6_isBox zm_4_131 ⟨rfl, rfl⟩ rfl rfl hRm ⟨Nat.le_of_ble_eq_true rfl, Nat.le_of_ble_eq_true rfl⟩ (Nat.le_of_ble_eq_true rfl) ⟨Nat.zero_le _, Nat.zero_le _⟩ dX6_findShown_23 ?_
          refine z_if_eq (pc := 26) (tgt := 59) hC dX6_findShown_26 (by decide) (fun h26 => ?_) (fun h26 => ?_)
          · skip
            have g26 := zB_f h26
            rw [zbx_nI hb40] at g26
            refine z_iconst (pc := 59) (v := 0) hC dX6_findShown_59 rfl ?_
            refine z_zsN (pc := 60) hC b rfl (z_lt hC (by decide)) rfl hb40 (by decide) (Or.inl rfl) dX6_findShown_60 ?_
            refine z_iinc (pc := 61) (v := nI (b + 1)) (lv' := [(1, .int (nI (b + 1))), (0, .ref (g.1 95))]) hC 0 dX6_findShown_61 rfl (nI_1 b) (by decide) rfl ?_
            refine z_goto (pc := 64) (tgt := 2) hC dX6_findShown_64 (by decide) ?_
            exact ih (b + 1) _ (by omega) (zmsh_s hz (by rw [sSh_rule hm.1 hb40, decide_eq_false h0, g26, Bool.false_and]; rfl)) (by omega)
          · skip
            have g26 := zB_t h26
            rw [zbx_nI hb40] at g26
            have he := g26
            refine z_aload_n (pc := 29) hC 1 dX6_findShown_29 rfl rfl z_isr_r ?_
            refine z_iload_n (pc := 30) hC 0 dX6_findShown_30 rfl rfl ?_
            refine z_bipush (pc := 31) (v := 18) hC dX6_findShown_31 rfl ?_
            refine z_cV (pc := 33) (st := [.int (nI b), .ref (g.1 100)]) hC [.int (nI b), .int 18] (kX6_of C.2.1 g N Ir P J hmr b 18 he (by decide) 18 rfl) rfl (z_lt hC (by decide)) rfl zkX6_of zm_4_162 ⟨rfl, rfl⟩ rfl rfl hRm ⟨Nat.le_of_ble_eq_true rfl, Nat.le_of_ble_eq_true rfl⟩ (Nat.le_of_ble_eq_true rfl) ⟨Nat.zero_le _, Nat.zero_le _⟩ dX6_findShown_33 ?_
            refine z_if_ne (pc := 36) (tgt := 59) hC dX6_findShown_36 (by decide) (fun h36 => ?_) (fun h36 => ?_)
            · skip
              refine z_iconst (pc := 59) (v := 0) hC dX6_findShown_59 rfl ?_
              refine z_zsN (pc := 60) hC b rfl (z_lt hC (by decide)) rfl hb40 (by decide) (Or.inl rfl) dX6_findShown_60 ?_
              refine z_iinc (pc := 61) (v := nI (b + 1)) (lv' := [(1, .int (nI (b + 1))), (0, .ref (g.1 95))]) hC 0 dX6_findShown_61 rfl (nI_1 b) (by decide) rfl ?_
              refine z_goto (pc := 64) (tgt := 2) hC dX6_findShown_64 (by decide) ?_
              exact ih (b + 1) _ (by omega) (zmsh_s hz (by rw [sSh_rule hm.1 hb40, decide_eq_false h0, decide_eq_false h36, Bool.false_and, Bool.and_false]; rfl)) (by omega)
            · skip
              refine z_aload_n (pc := 39) hC 1 dX6_findShown_39 rfl rfl z_isr_r ?_
              refine z_gF (pc := 40) hC 6 6 (t := 100) rfl (z_lt hC (by decide)) rfl inX6 (by decide) rfl zm_4_79 rfl dX6_findShown_40 ?_
              refine z_aload_n (pc := 43) hC 1 dX6_findShown_43 rfl rfl z_isr_r ?_
              refine z_gF (pc := 44) hC 6 0 (t := 96) rfl (z_lt hC (by decide)) rfl inX6 (by decide) rfl zm_4_73 rfl dX6_findShown_44 ?_
              refine z_iconst (pc := 47) (v := 3) hC dX6_findShown_47 rfl ?_
              refine z_iload_n (pc := 48) hC 0 dX6_findShown_48 rfl rfl ?_
              refine z_iadd (pc := 49) hC dX6_findShown_49 ?_
              refine z_iaN (pc := 50) hC (3 + b) (x := nI (sPa σ b)) rfl (z_lt hC (by decide)) (zix3 b) (by omega) (by decide) ((hmr.pa he).trans (if_neg h0)) dX6_findShown_50 ?_
              refine z_zaN (pc := 51) hC (sPa σ b) (x := zB (sSh σ (sPa σ b))) rfl (z_lt hC (by decide)) rfl (by have := (sPa_lt hm.1 he h0).1; omega) (by decide) (hz.2 _ (sPa_lt hm.1 he h0).1) dX6_findShown_51 ?_
              refine z_if_eq (pc := 52) (tgt := 59) hC dX6_findShown_52 (by decide) (fun h52 => ?_) (fun h52 => ?_)
              · skip
                have g52 := zB_f h52
                refine z_iconst (pc := 59) (v := 0) hC dX6_findShown_59 rfl ?_
                refine z_zsN (pc := 60) hC b rfl (z_lt hC (by decide)) rfl hb40 (by decide) (Or.inl rfl) dX6_findShown_60 ?_
                refine z_iinc (pc := 61) (v := nI (b + 1)) (lv' := [(1, .int (nI (b + 1))), (0, .ref (g.1 95))]) hC 0 dX6_findShown_61 rfl (nI_1 b) (by decide) rfl ?_
                refine z_goto (pc := 64) (tgt := 2) hC dX6_findShown_64 (by decide) ?_
                exact ih (b + 1) _ (by omega) (zmsh_s hz (by rw [sSh_rule hm.1 hb40, decide_eq_false h0, g52, Bool.and_false, Bool.and_false]; rfl)) (by omega)
              · skip
                have g52 := zB_t h52
                refine z_iconst (pc := 55) (v := 1) hC dX6_findShown_55 rfl ?_
                refine z_goto (pc := 56) (tgt := 60) hC dX6_findShown_56 (by decide) ?_
                refine z_zsN (pc := 60) hC b rfl (z_lt hC (by decide)) rfl hb40 (by decide) (Or.inr rfl) dX6_findShown_60 ?_
                refine z_iinc (pc := 61) (v := nI (b + 1)) (lv' := [(1, .int (nI (b + 1))), (0, .ref (g.1 95))]) hC 0 dX6_findShown_61 rfl (nI_1 b) (by decide) rfl ?_
                refine z_goto (pc := 64) (tgt := 2) hC dX6_findShown_64 (by decide) ?_
                exact ih (b + 1) _ (by omega) (zmsh_s hz (by rw [sSh_rule hm.1 hb40, he, decide_eq_true h36, g52, Bool.and_true, Bool.and_true, Bool.or_true]; rfl)) (by omega)
  exact L2 41 0 I (Nat.zero_le _) ⟨fun _ _ _ => rfl, fun c hc => absurd hc (Nat.not_lt_zero _)⟩ (by have := hm.gv; omega)
theorem zin_gv {b gv : Nat} (hb : b < gv) (hg : gv ≤ 40) : 0 ≤ nI b ∧ nI b ≤ nI gv - 1 := by
  have e : (nI gv - 1).toInt = (gv : Int) - 1 := by
    rw [Int32.toInt_sub, nI_toInt (by omega)]
    have e1 : (1 : Int32).toInt = 1 := rfl
    rw [e1]
    apply Int.bmod_eq_of_le <;> omega
  refine ⟨(nI_40 (by omega)).1, ?_⟩
  rw [zi_le, e, nI_toInt (by omega)]
  omega
set_option maxHeartbeats 4000000 in
set_option maxRecDepth 100000 in
theorem kX6_isBoxP (lx : Launch) (g : zG) (N : Nat) (I : Nat → Nat → Int32) (P : Nat → Nat → Option Nat) (J : Nat → Nat → Int64) (b gv : Nat) (hb : b < gv) (hg : gv ≤ 40) (h0 : I 96 0 = nI gv) (v : Int32) (hv : I 96 (3 + b) = v) : z_Ct lx yX6_isBox (zT yX6_isBox cX6_isBox 2 (Option.some FieldType.boolean)) ({ frames := 1, cells := 0, slots := 0, locals := 22 } : Room) g N I P J [.ref (g.1 95), .int (nI b)] (zMu (some (.int (zB (decide (-1 ≤ v))))) I P J) 0 0 := by
  refine z_of (by decide) (Nat.le_of_ble_eq_true rfl) (lv0 := [(0, .ref (g.1 95)), (1, .int (nI b))]) rfl ?_
  intro C hlx hC hE hRm
  have hC : zX C cX6_isBox 2 RX6 (zT yX6_isBox cX6_isBox 2 (Option.some FieldType.boolean)) g N := hC
  refine z_iload_n (pc := 0) hC 1 dX6_isBox_0 rfl rfl ?_
  refine z_iconst (pc := 1) (v := 0) hC dX6_isBox_1 rfl ?_
  refine z_aload_n (pc := 2) hC 0 dX6_isBox_2 rfl rfl z_isr_r ?_
  refine z_gF (pc := 3) hC 6 0 (t := 96) rfl (z_lt hC (by decide)) rfl inX6 (by decide) rfl zm_4_73 rfl dX6_isBox_3 ?_
  refine z_iconst (pc := 6) (v := 0) hC dX6_isBox_6 rfl ?_
  refine z_iaN (pc := 7) hC 0 (x := nI gv) rfl (z_lt hC (by decide)) rfl (by decide) (by decide) h0 dX6_isBox_7 ?_
  refine z_iconst (pc := 8) (v := 1) hC dX6_isBox_8 rfl ?_
  refine z_isub (pc := 9) hC dX6_isBox_9 ?_
  refine z_cS (pc := 10) (st := []) hC [.int (nI b), .int 0, .int ((nI gv) - 1)] (kX6_in C.2.1 g N I P J (nI b) 0 ((nI gv) - 1)) zkX6_in zm_4_135 ⟨rfl, rfl⟩ rfl rfl hRm ⟨Nat.le_of_ble_eq_true rfl, Nat.le_of_ble_eq_true rfl⟩ (Nat.le_of_ble_eq_true rfl) ⟨Nat.zero_le _, Nat.zero_le _⟩ dX6_isBox_10 ?_
  refine z_if_eq (pc := 13) (tgt := 32) hC dX6_isBox_13 (by decide) (fun h13 => ?_) (fun h13 => ?_)
  · skip
    have g13 := zB_f h13
    exact absurd (zin_gv hb hg) (of_decide_eq_false g13)
  · skip
    have g13 := zB_t h13
    refine z_aload_n (pc := 16) hC 0 dX6_isBox_16 rfl rfl z_isr_r ?_
    refine z_gF (pc := 17) hC 6 0 (t := 96) rfl (z_lt hC (by decide)) rfl inX6 (by decide) rfl zm_4_73 rfl dX6_isBox_17 ?_
    refine z_iconst (pc := 20) (v := 3) hC dX6_isBox_20 rfl ?_
    refine z_iload_n (pc := 21) hC 1 dX6_isBox_21 rfl rfl ?_
    refine z_iadd (pc := 22) hC dX6_isBox_22 ?_
    refine z_iaN (pc := 23) hC (3 + b) (x := v) rfl (z_lt hC (by decide)) (zix3 b) (by omega) (by decide) hv dX6_isBox_23 ?_
    refine z_iconst (pc := 24) (v := (-1)) hC dX6_isBox_24 rfl ?_
    refine z_icmp_lt (pc := 25) (tgt := 32) hC dX6_isBox_25 (by decide) (fun h25 => ?_) (fun h25 => ?_)
    · skip
      have g25 := Int32.not_le.mpr h25
      refine z_iconst (pc := 32) (v := 0) hC dX6_isBox_32 rfl ?_
      exact z_zret (pc := 33) hC hE (z_b01 (Or.inl rfl)) dX6_isBox_33 (zMu_i (by rw [decide_eq_false (Int32.not_le.mpr h25)]; rfl))
    · skip
      have g25 := Int32.not_lt.mp h25
      refine z_iconst (pc := 28) (v := 1) hC dX6_isBox_28 rfl ?_
      refine z_goto (pc := 29) (tgt := 33) hC dX6_isBox_29 (by decide) ?_
      exact z_zret (pc := 33) hC hE (z_b01 (Or.inr rfl)) dX6_isBox_33 (zMu_i (by rw [decide_eq_true (Int32.not_lt.mp h25)]; rfl))
set_option maxHeartbeats 4000000 in
set_option maxRecDepth 100000 in
theorem kX6_remove (lx : Launch) (g : zG) (N : Nat) (I : Nat → Nat → Int32) (P : Nat → Nat → Option Nat) (J : Nat → Nat → Int64) {σ : zS} (hm : zMd σ I) (x : Int32) : z_Ct lx yX6_remove (zT yX6_remove cX6_remove 4 (Option.some FieldType.int)) ({ frames := 2, cells := 0, slots := 0, locals := 43 } : Room) g N I P J [.ref (g.1 95), .int x] (fun v I' P' J' => ((zbx σ x = false ∧ I' 95 3 = 1 ∧ zMd σ I') ∨ ((zbx σ x = true ∧ x = 0 ∧ I' 95 3 = 2 ∧ zMd σ I') ∨ ∃ b, x = nI b ∧ b < 40 ∧ sEx σ b = true ∧ b ≠ 0 ∧ v = some (.int (sCutC σ b 40)) ∧ I' 95 3 = 0 ∧ zMd (sRem σ b) I')) ∧ zKm I P J I' P' J') 0 0 := by
  refine z_of (by decide) (Nat.le_of_ble_eq_true rfl) (lv0 := [(0, .ref (g.1 95)), (1, .int x)]) rfl ?_
  intro C hlx hC hE hRm
  have hC : zX C cX6_remove 4 RX6 (zT yX6_remove cX6_remove 4 (Option.some FieldType.int)) g N := hC
  refine z_aload_n (pc := 0) hC 0 dX6_remove_0 rfl rfl z_isr_r ?_
  refine z_aload_n (pc := 1) hC 0 dX6_remove_1 rfl rfl z_isr_r ?_
  refine z_iload_n (pc := 2) hC 1 dX6_remove_2 rfl rfl ?_
  refine z_cV (pc := 3) (st := [.ref (g.1 95)]) hC [.int x] (kX6_isBox C.2.1 g N I P J hm x) rfl (z_lt hC (by decide)) rfl zkX6_isBox zm_4_131 ⟨rfl, rfl⟩ rfl rfl hRm ⟨Nat.le_of_ble_eq_true rfl, Nat.le_of_ble_eq_true rfl⟩ (Nat.le_of_ble_eq_true rfl) ⟨Nat.zero_le _, Nat.zero_le _⟩ dX6_remove_3 ?_
  refine z_if_ne (pc := 6) (tgt := 13) hC dX6_remove_6 (by decide) (fun h6 => ?_) (fun h6 => ?_)
  · skip
    have g6 := zB_t h6
    obtain ⟨b, rfl, hb, he⟩ := zbx_iff.mp g6
    refine z_iload_n (pc := 13) hC 1 dX6_remove_13 rfl rfl ?_
    refine z_if_ne (pc := 14) (tgt := 21) hC dX6_remove_14 (by decide) (fun h14 => ?_) (fun h14 => ?_)
    · skip
      have h0 : b ≠ 0 := fun e => h14 (by rw [e]; rfl)
      refine z_iconst (pc := 21) (v := 0) hC dX6_remove_21 rfl ?_
      refine z_pI (pc := 22) hC 6 3 rfl (z_lt hC (by decide)) rfl inX6 tyX6_ok nmX6 (by decide) rfl zm_4_76 rfl rfl rfl dX6_remove_22 ?_
      refine z_aload_n (pc := 25) hC 0 dX6_remove_25 rfl rfl z_isr_r ?_
      refine z_gI (pc := 26) hC 6 3 (x := 0) rfl (z_lt hC (by decide)) rfl inX6 (by decide) rfl zm_4_76 (z_u_s _ _ _ _) dX6_remove_26 ?_
      refine z_if_eq (pc := 29) (tgt := 34) hC dX6_remove_29 (by decide) (fun h29 => ?_) (fun h29 => ?_)
      · skip
        refine z_iconst (pc := 34) (v := 1) hC dX6_remove_34 rfl ?_
        refine z_istore_n (pc := 35) (lv' := [(2, .int 1), (0, .ref (g.1 95)), (1, .int (nI b))]) hC dX6_remove_35 rfl (by decide) rfl ?_
        refine z_aload_n (pc := 36) hC 1 dX6_remove_36 rfl rfl z_isr_r ?_
        refine z_gF (pc := 37) hC 6 0 (t := 96) rfl (z_lt hC (by decide)) rfl inX6 (by decide) rfl zm_4_73 rfl dX6_remove_37 ?_
        refine z_iconst (pc := 40) (v := 3) hC dX6_remove_40 rfl ?_
        refine z_iload_n (pc := 41) hC 2 dX6_remove_41 rfl rfl ?_
        refine z_iadd (pc := 42) hC dX6_remove_42 ?_
        refine z_bipush (pc := 43) (v := (-2)) hC dX6_remove_43 rfl ?_
        refine z_isN (pc := 45) hC (3 + b) rfl (z_lt hC (by decide)) (zix3 b) (by omega) (by decide) dX6_remove_45 ?_
        refine z_iload_n (pc := 46) hC 2 dX6_remove_46 rfl rfl ?_
        refine z_iconst (pc := 47) (v := 1) hC dX6_remove_47 rfl ?_
        refine z_iadd (pc := 48) hC dX6_remove_48 ?_
        refine z_istore_n (pc := 49) (lv' := [(3, .int ((nI b) + 1)), (2, .int 1), (0, .ref (g.1 95)), (1, .int (nI b))]) hC dX6_remove_49 rfl (by decide) rfl ?_
        rw [nI_1]
        have L50 : ∀ (zf : Nat) (n : Nat) (Ir : Nat → Nat → Int32) (hn : n ≤ sGv σ) (hbn : b < n) (hz : zmc σ b n (z_u I 95 3 0) Ir), sGv σ - n < zf → zJ C g N 4 0 0 Ir P J 50 [(3, .int (nI n)), (2, .int (sCutC σ b n)), (0, .ref (g.1 95)), (1, .int (nI b))] [] := by
          intro zf
          induction zf with
          | zero =>
            intro n Ir hn hbn hz hn2
            exact absurd hn2 (Nat.not_lt_zero _)
          | succ zf ih =>
            intro n Ir hn hbn hz hn2
            refine z_iload_n (pc := 50) hC 0 dX6_remove_50 rfl rfl ?_
            refine z_aload_n (pc := 51) hC 2 dX6_remove_51 rfl rfl z_isr_r ?_
            refine z_gF (pc := 52) hC 6 0 (t := 96) rfl (z_lt hC (by decide)) rfl inX6 (by decide) rfl zm_4_73 rfl dX6_remove_52 ?_
            refine z_iconst (pc := 55) (v := 0) hC dX6_remove_55 rfl ?_
            refine z_iaN (pc := 56) hC 0 (x := nI (sGv σ)) rfl (z_lt hC (by decide)) rfl (by decide) (by decide) ((hz.1 96 0 (by omega)).trans (hm.u (i := 95) (by decide)).2.1) dX6_remove_56 ?_
            refine z_icmp_ge (pc := 57) (tgt := 118) hC dX6_remove_57 (by decide) (fun h57 => ?_) (fun h57 => ?_)
            · skip
              have g57 := Int32.not_lt.mpr h57
              have en : n = sGv σ := Nat.le_antisymm hn (zc_ge h57 (by have := hm.gv; omega) (by have := hm.gv; omega))
              refine z_iload_n (pc := 118) hC 1 dX6_remove_118 rfl rfl ?_
              exact z_iret (pc := 119) hC hE dX6_remove_119 (by subst en; exact ⟨Or.inr (Or.inr ⟨b, rfl, hb, he, h0, by rw [sCutC_gv hm.1], (hz.1 95 3 (by omega)).trans (z_u_s _ _ _ _), zmc_end (hm.u (by decide)) h0 (sRem_wf hm.1 h0) hz⟩), rfl, fun _ _ _ => rfl, fun q j hq => (hz.1 q j (by omega)).trans (z_u_a _ _ (by omega))⟩)
            · skip
              have g57 := Int32.not_le.mp h57
              have hng : n < sGv σ := zc_lt h57 (by have := hm.gv; omega) (by have := hm.gv; omega)
              have hn40 : n < 40 := by have := hm.gv; omega
              refine z_aload_n (pc := 60) hC 2 dX6_remove_60 rfl rfl z_isr_r ?_
              refine z_iload_n (pc := 61) hC 0 dX6_remove_61 rfl rfl ?_
              refine z_cV (pc := 62) (st := []) hC [.int (nI n)] (kX6_isBoxP C.2.1 g N Ir P J n (sGv σ) hng hm.gv.2 ((hz.1 96 0 (by omega)).trans (hm.u (i := 95) (by decide)).2.1) (if sCut σ b n n = true then sPnu σ n else -2) (hz.2 n hng)) rfl (z_lt hC (by decide)) rfl zkX6_isBox zm_4_131 ⟨rfl, rfl⟩ rfl rfl hRm ⟨Nat.le_of_ble_eq_true rfl, Nat.le_of_ble_eq_true rfl⟩ (Nat.le_of_ble_eq_true rfl) ⟨Nat.zero_le _, Nat.zero_le _⟩ dX6_remove_62 ?_
              refine z_if_eq (pc := 65) (tgt := 112) hC dX6_remove_65 (by decide) (fun h65 => ?_) (fun h65 => ?_)
              · skip
                have g65 := zB_f h65
                have hcf := zcx_f hm.1 (of_decide_eq_false g65)
                refine z_iinc (pc := 112) (v := nI (n + 1)) (lv' := [(3, .int (nI (n + 1))), (2, .int (sCutC σ b n)), (0, .ref (g.1 95)), (1, .int (nI b))]) hC 0 dX6_remove_112 rfl (nI_1 n) (by decide) rfl ?_
                refine z_goto (pc := 115) (tgt := 50) hC dX6_remove_115 (by decide) ?_
                have K := ih (n + 1) Ir (by omega) (by omega) (zmc_n hbn hz (fun q => by rw [hcf] at q; cases q)) (by omega)
                rw [show sCutC σ b (n + 1) = sCutC σ b n from by rw [sCutC_s, if_neg (fun q => by rw [hcf] at q; exact absurd q.2.1 (by decide))]] at K
                exact K
              · skip
                have g65 := zB_t h65
                have hcn := zcx_t (of_decide_eq_true g65)
                have hen := (sCut_ex hcn).1
                have hpl := sPa_lt hm.1 hen (by omega)
                refine z_aload_n (pc := 68) hC 2 dX6_remove_68 rfl rfl z_isr_r ?_
                refine z_gF (pc := 69) hC 6 0 (t := 96) rfl (z_lt hC (by decide)) rfl inX6 (by decide) rfl zm_4_73 rfl dX6_remove_69 ?_
                refine z_iconst (pc := 72) (v := 3) hC dX6_remove_72 rfl ?_
                refine z_iload_n (pc := 73) hC 0 dX6_remove_73 rfl rfl ?_
                refine z_iadd (pc := 74) hC dX6_remove_74 ?_
                refine z_iaN (pc := 75) hC (3 + n) (x := nI (sPa σ n)) rfl (z_lt hC (by decide)) (zix3 n) (by omega) (by decide) ((hz.2 n hng).trans ((if_pos hcn).trans (if_neg (by omega)))) dX6_remove_75 ?_
                refine z_if_le (pc := 76) (tgt := 112) hC dX6_remove_76 (by decide) (fun h76 => ?_) (fun h76 => ?_)
                · skip
                  have g76 := Int32.not_lt.mpr h76
                  have hp0 : sCut σ b n (sPa σ n) = true := by rw [z3_pa h76 (by omega)]; exact zcut_0 hm.1 h0
                  refine z_iinc (pc := 112) (v := nI (n + 1)) (lv' := [(3, .int (nI (n + 1))), (2, .int (sCutC σ b n)), (0, .ref (g.1 95)), (1, .int (nI b))]) hC 0 dX6_remove_112 rfl (nI_1 n) (by decide) rfl ?_
                  refine z_goto (pc := 115) (tgt := 50) hC dX6_remove_115 (by decide) ?_
                  have K := ih (n + 1) Ir (by omega) (by omega) (zmc_n hbn hz (fun _ => hp0)) (by omega)
                  rw [show sCutC σ b (n + 1) = sCutC σ b n from by rw [sCutC_s, if_neg (fun q => by rw [hp0] at q; exact absurd q.2.2 (by decide))]] at K
                  exact K
                · skip
                  have g76 := Int32.not_le.mp h76
                  refine z_aload_n (pc := 79) hC 2 dX6_remove_79 rfl rfl z_isr_r ?_
                  refine z_gF (pc := 80) hC 6 0 (t := 96) rfl (z_lt hC (by decide)) rfl inX6 (by decide) rfl zm_4_73 rfl dX6_remove_80 ?_
                  refine z_iconst (pc := 83) (v := 3) hC dX6_remove_83 rfl ?_
                  refine z_aload_n (pc := 84) hC 2 dX6_remove_84 rfl rfl z_isr_r ?_
                  refine z_gF (pc := 85) hC 6 0 (t := 96) rfl (z_lt hC (by decide)) rfl inX6 (by decide) rfl zm_4_73 rfl dX6_remove_85 ?_
                  refine z_iconst (pc := 88) (v := 3) hC dX6_remove_88 rfl ?_
                  refine z_iload_n (pc := 89) hC 0 dX6_remove_89 rfl rfl ?_
                  refine z_iadd (pc := 90) hC dX6_remove_90 ?_
                  refine z_iaN (pc := 91) hC (3 + n) (x := nI (sPa σ n)) rfl (z_lt hC (by decide)) (zix3 n) (by omega) (by decide) ((hz.2 n hng).trans ((if_pos hcn).trans (if_neg (by omega)))) dX6_remove_91 ?_
                  refine z_iadd (pc := 92) hC dX6_remove_92 ?_
                  refine z_iaN (pc := 93) hC (3 + sPa σ n) (x := (if sCut σ b n (sPa σ n) = true then sPnu σ (sPa σ n) else -2)) rfl (z_lt hC (by decide)) (zix3 (sPa σ n)) (by omega) (by decide) (hz.2 (sPa σ n) (by omega)) dX6_remove_93 ?_
                  refine z_bipush (pc := 94) (v := (-2)) hC dX6_remove_94 rfl ?_
                  refine z_icmp_ne (pc := 96) (tgt := 112) hC dX6_remove_96 (by decide) (fun h96 => ?_) (fun h96 => ?_)
                  · skip
                    refine z_iinc (pc := 112) (v := nI (n + 1)) (lv' := [(3, .int (nI (n + 1))), (2, .int (sCutC σ b n)), (0, .ref (g.1 95)), (1, .int (nI b))]) hC 0 dX6_remove_112 rfl (nI_1 n) (by decide) rfl ?_
                    refine z_goto (pc := 115) (tgt := 50) hC dX6_remove_115 (by decide) ?_
                    have K := ih (n + 1) Ir (by omega) (by omega) (zmc_n hbn hz (fun _ => zcy_t h96)) (by omega)
                    rw [show sCutC σ b (n + 1) = sCutC σ b n from by rw [sCutC_s, if_neg (fun q => by rw [zcy_t h96] at q; exact absurd q.2.2 (by decide))]] at K
                    exact K
                  · skip
                    refine z_aload_n (pc := 99) hC 2 dX6_remove_99 rfl rfl z_isr_r ?_
                    refine z_gF (pc := 100) hC 6 0 (t := 96) rfl (z_lt hC (by decide)) rfl inX6 (by decide) rfl zm_4_73 rfl dX6_remove_100 ?_
                    refine z_iconst (pc := 103) (v := 3) hC dX6_remove_103 rfl ?_
                    refine z_iload_n (pc := 104) hC 0 dX6_remove_104 rfl rfl ?_
                    refine z_iadd (pc := 105) hC dX6_remove_105 ?_
                    refine z_bipush (pc := 106) (v := (-2)) hC dX6_remove_106 rfl ?_
                    refine z_isN (pc := 108) hC (3 + n) rfl (z_lt hC (by decide)) (zix3 n) (by omega) (by decide) dX6_remove_108 ?_
                    refine z_iinc (pc := 109) (v := (sCutC σ b n) + 1) (lv' := [(2, .int ((sCutC σ b n) + 1)), (3, .int (nI n)), (0, .ref (g.1 95)), (1, .int (nI b))]) hC 1 dX6_remove_109 rfl rfl (by decide) rfl ?_
                    refine z_iinc (pc := 112) (v := nI (n + 1)) (lv' := [(3, .int (nI (n + 1))), (2, .int ((sCutC σ b n) + 1)), (0, .ref (g.1 95)), (1, .int (nI b))]) hC 1 dX6_remove_112 rfl (nI_1 n) (by decide) rfl ?_
                    refine z_goto (pc := 115) (tgt := 50) hC dX6_remove_115 (by decide) ?_
                    have K := ih (n + 1) _ (by omega) (by omega) (zmc_s hbn hn40 hz (zcy_f hm.1 h96)) (by omega)
                    rw [show sCutC σ b (n + 1) = (sCutC σ b n) + 1 from by rw [sCutC_s, if_pos ⟨hbn, hcn, zcy_f hm.1 h96⟩]] at K
                    exact K
        have K := L50 41 (b + 1) _ (by have := (hm.lt he).1; omega) (by omega) (zmc_0 (hm.u (i := 95) (k := 3) (v := 0) (by decide)) hb) (by have := hm.gv; omega)
        rw [(sCut_low (σ := σ) (t := b) (Nat.le_refl (b + 1))).2] at K
        exact K
      · skip
        exact absurd h29 (by decide)
    · skip
      refine z_iconst (pc := 17) (v := 2) hC dX6_remove_17 rfl ?_
      refine z_goto (pc := 18) (tgt := 22) hC dX6_remove_18 (by decide) ?_
      refine z_pI (pc := 22) hC 6 3 rfl (z_lt hC (by decide)) rfl inX6 tyX6_ok nmX6 (by decide) rfl zm_4_76 rfl rfl rfl dX6_remove_22 ?_
      refine z_aload_n (pc := 25) hC 0 dX6_remove_25 rfl rfl z_isr_r ?_
      refine z_gI (pc := 26) hC 6 3 (x := 2) rfl (z_lt hC (by decide)) rfl inX6 (by decide) rfl zm_4_76 (z_u_s _ _ _ _) dX6_remove_26 ?_
      refine z_if_eq (pc := 29) (tgt := 34) hC dX6_remove_29 (by decide) (fun h29 => ?_) (fun h29 => ?_)
      · skip
        exact absurd h29 (by decide)
      · skip
        refine z_iconst (pc := 32) (v := 0) hC dX6_remove_32 rfl ?_
        exact z_iret (pc := 33) hC hE dX6_remove_33 ⟨Or.inr (Or.inl ⟨g6, h14, z_u_s _ _ _ _, hm.u (by decide)⟩), zKm.rf.u (by decide)⟩
  · skip
    have g6 := zB_f h6
    refine z_iconst (pc := 9) (v := 1) hC dX6_remove_9 rfl ?_
    refine z_goto (pc := 10) (tgt := 22) hC dX6_remove_10 (by decide) ?_
    refine z_pI (pc := 22) hC 6 3 rfl (z_lt hC (by decide)) rfl inX6 tyX6_ok nmX6 (by decide) rfl zm_4_76 rfl rfl rfl dX6_remove_22 ?_
    refine z_aload_n (pc := 25) hC 0 dX6_remove_25 rfl rfl z_isr_r ?_
    refine z_gI (pc := 26) hC 6 3 (x := 1) rfl (z_lt hC (by decide)) rfl inX6 (by decide) rfl zm_4_76 (z_u_s _ _ _ _) dX6_remove_26 ?_
    refine z_if_eq (pc := 29) (tgt := 34) hC dX6_remove_29 (by decide) (fun h29 => ?_) (fun h29 => ?_)
    · skip
      exact absurd h29 (by decide)
    · skip
      refine z_iconst (pc := 32) (v := 0) hC dX6_remove_32 rfl ?_
      exact z_iret (pc := 33) hC hE dX6_remove_33 ⟨Or.inl ⟨g6, z_u_s _ _ _ _, hm.u (by decide)⟩, zKm.rf.u (by decide)⟩
end ZM5
