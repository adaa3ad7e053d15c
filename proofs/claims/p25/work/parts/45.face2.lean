section ZF2
set_option maxHeartbeats 4000000 in
set_option maxRecDepth 100000 in
theorem kX5_child (lx : Launch) (hst : lx.stackTraces = false) (g : zG) (sa : Nat → Nat) (N : Nat) (I : Nat → Nat → Int32) (P : Nat → Nat → Option Nat) (J : Nat → Nat → Int64) {σ : zS} (hc : zCl σ I P) (x i : Int32) : z_CtX lx yX5_child (zT yX5_child cX5_child 6 (Option.some FieldType.int)) ({ frames := 7, cells := 1, slots := 6, locals := 163 } : Room) g sa N I P J [.ref (g.1 80), .int x, .int i] (fun v I' P' J' => (∃ b, x = nI b ∧ b < 40 ∧ sEx σ b = true ∧ v = some (.int (sChl σ b i))) ∧ zCl σ I' P' ∧ zKp I P J I' P' J') (zXp σ I P J (fun E => zc0 σ x E)) 1 6 := by
  refine z_ofX (by decide) (Nat.le_of_ble_eq_true rfl) (lv0 := [(0, .ref (g.1 80)), (1, .int x), (2, .int i)]) rfl ?_
  intro C hlx hC hE hRm hX
  have hC : zX C cX5_child 6 RX5 (zT yX5_child cX5_child 6 (Option.some FieldType.int)) g N := hC
  refine z_aload_n (pc := 0) hC 0 dX5_child_0 rfl rfl z_isr_r ?_
  refine z_iload_n (pc := 1) hC 1 dX5_child_1 rfl rfl ?_
  refine z_callVX (pc := 2) (st := []) hC hE hX [.int x] (kX5_existing C.2.1 (by rw [hlx]; exact hst) g sa N I P J hc.1 x) rfl (z_lt hC (by decide)) rfl zkX5_existing zm_1_221 ⟨rfl, rfl⟩ rfl rfl hRm ⟨Nat.le_of_ble_eq_true rfl, Nat.le_of_ble_eq_true rfl⟩ (Nat.le_of_ble_eq_true rfl) ⟨Nat.le_of_ble_eq_true rfl, Nat.le_of_ble_eq_true rfl⟩ ⟨by decide, by decide⟩ dX5_child_2 (fun E I' P' J' h => by obtain ⟨h1, hI', hP', hJ'⟩ := h; rw [hI', hP', hJ']; exact ⟨h1, hc, zKp.rf⟩) ?_
  intro v I' P' J' hq
  obtain ⟨b, rfl, hb, heb, hv, hI', hP', hJ'⟩ := hq
  subst hv
  rw [hI', hP', hJ']
  show zJ C g N 6 1 6 I P J 5 [(0, .ref (g.1 80)), (1, .int (nI b)), (2, .int i)] [.ref (g.1 b)]
  refine z_astore_n (pc := 5) (lv' := [(3, .ref (g.1 b)), (0, .ref (g.1 80)), (1, .int (nI b)), (2, .int i)]) hC dX5_child_5 rfl (by decide) z_isr_r rfl ?_
  refine z_aload_n (pc := 6) hC 1 dX5_child_6 rfl rfl z_isr_r ?_
  refine z_gF (pc := 7) hC 5 1 (t := 82) rfl (z_lt hC (by decide)) rfl inX5 (by decide) rfl zm_1_208 rfl dX5_child_7 ?_
  refine z_callV (pc := 10) (st := []) hC [] ((kX2_arrange C.2.1 g N I P J hc.1 hc.2.1 hc.2.2)) rfl (z_lt hC (by decide)) rfl zkX2_arrange zm_2_86 ⟨rfl, rfl⟩ rfl rfl hRm ⟨Nat.le_of_ble_eq_true rfl, Nat.le_of_ble_eq_true rfl⟩ (Nat.le_of_ble_eq_true rfl) ⟨Nat.le_of_ble_eq_true rfl, Nat.le_of_ble_eq_true rfl⟩ dX5_child_10 ?_
  intro v I2 P2 J2 hq
  obtain ⟨hv, hJ2, ht2, ha2, hs2, hr2, h95, hfp⟩ := hq
  subst hv
  have hkp : zKp I P J I2 P2 J2 := ⟨hJ2, h95, fun q j hq => hfp q j (by omega)⟩
  rw [hJ2] at hkp ⊢
  show zJ C g N 6 1 6 I2 P2 J 13 [(3, .ref (g.1 b)), (0, .ref (g.1 80)), (1, .int (nI b)), (2, .int i)] []
  refine z_iload_n (pc := 13) hC 3 dX5_child_13 rfl rfl ?_
  refine z_iconst (pc := 14) (v := (-1)) hC dX5_child_14 rfl ?_
  refine z_icmp_ne (pc := 15) (tgt := 23) hC dX5_child_15 (by decide) (fun h15 => ?_) (fun h15 => ?_)
  · skip
    refine z_iconst (pc := 23) (v := 0) hC dX5_child_23 rfl ?_
    refine z_istore (pc := 24) (lv' := [(4, .int 0), (3, .ref (g.1 b)), (0, .ref (g.1 80)), (1, .int (nI b)), (2, .int i)]) hC dX5_child_24 (by decide) rfl ?_
    refine z_aload_n (pc := 26) hC 1 dX5_child_26 rfl rfl z_isr_r ?_
    refine z_gP (pc := 27) hC 0 6 (v := va_rf (Option.map g.1 ((sKids σ b)[0]?))) (z_shb hb) (z_ltb hC hb) rfl inX0 (by decide) rfl zm_1_53 (by rw [(zLk_seg ha2.1 hb).2]) dX5_child_27 ?_
    refine z_astore (pc := 30) (lv' := [(5, va_rf (Option.map g.1 ((sKids σ b)[0]?))), (4, .int 0), (3, .ref (g.1 b)), (0, .ref (g.1 80)), (1, .int (nI b)), (2, .int i)]) hC dX5_child_30 (by decide) (z_isr_o _) rfl ?_
    have L32 : ∀ (zf : Nat) (d : Nat) (hd : d ≤ kn σ b) (hni : ∀ k, k < d → i ≠ nI k), kn σ b - d < zf → zJ C g N 6 1 6 I2 P2 J 32 [(5, va_rf (Option.map g.1 ((sKids σ b)[d]?))), (4, .int (nI d)), (3, .ref (g.1 b)), (0, .ref (g.1 80)), (1, .int (nI b)), (2, .int i)] [] := by
      intro zf
      induction zf with
      | zero =>
        intro d hd hni hn2
        exact absurd hn2 (Nat.not_lt_zero _)
      | succ zf ih =>
        intro d hd hni hn2
        refine z_aload (pc := 32) hC 0 dX5_child_32 rfl (z_isr_o _) ?_
        refine z_ifnull (pc := 34) (tgt := 62) hC dX5_child_34 (by decide) (fun h34 => ?_) (fun a34 h34 => ?_)
        · skip
          rw [h34]
          show zJ C g N 6 1 6 I2 P2 J 62 [(5, .null), (4, .int (nI d)), (3, .ref (g.1 b)), (0, .ref (g.1 80)), (1, .int (nI b)), (2, .int i)] []
          have ed : d = kn σ b := Nat.le_antisymm hd (List.getElem?_eq_none_iff.mp h34)
          refine z_iconst (pc := 62) (v := (-1)) hC dX5_child_62 rfl ?_
          exact z_iretX (pc := 63) hC hE ⟨by decide, by decide⟩ dX5_child_63 ⟨⟨b, rfl, hb, heb, by rw [sChl_n ht2.1 h15 (by rw [← ed]; exact hni)]⟩, ⟨ht2, hr2, fun _ => ha2⟩, hkp⟩
        · skip
          rw [h34]
          show zJ C g N 6 1 6 I2 P2 J 37 [(5, .ref (g.1 a34)), (4, .int (nI d)), (3, .ref (g.1 b)), (0, .ref (g.1 80)), (1, .int (nI b)), (2, .int i)] []
          obtain ⟨hkd34, hik34, hmem34⟩ := sKids_get h34
          refine z_iload (pc := 37) hC 1 dX5_child_37 rfl ?_
          refine z_iload_n (pc := 39) hC 5 dX5_child_39 rfl rfl ?_
          refine z_icmp_ne (pc := 40) (tgt := 49) hC dX5_child_40 (by decide) (fun h40 => ?_) (fun h40 => ?_)
          · skip
            refine z_iinc (pc := 49) (v := nI (d + 1)) (lv' := [(4, .int (nI (d + 1))), (5, .ref (g.1 a34)), (3, .ref (g.1 b)), (0, .ref (g.1 80)), (1, .int (nI b)), (2, .int i)]) hC 1 dX5_child_49 rfl (nI_1 d) (by decide) rfl ?_
            refine z_aload (pc := 52) hC 1 dX5_child_52 rfl z_isr_r ?_
            refine z_gP (pc := 54) hC 0 7 (v := va_rf (Option.map g.1 ((sKids σ b)[d + 1]?))) (z_shb (sKids_lt ht2.1 hmem34).2.1) (z_ltb hC (sKids_lt ht2.1 hmem34).2.1) rfl inX0 (by decide) rfl zm_1_56 (by rw [(zLk_seg ha2.1 hb).1 d a34 h34]) dX5_child_54 ?_
            refine z_astore (pc := 57) (lv' := [(5, va_rf (Option.map g.1 ((sKids σ b)[d + 1]?))), (4, .int (nI (d + 1))), (3, .ref (g.1 b)), (0, .ref (g.1 80)), (1, .int (nI b)), (2, .int i)]) hC dX5_child_57 (by decide) (z_isr_o _) rfl ?_
            refine z_goto (pc := 59) (tgt := 32) hC dX5_child_59 (by decide) ?_
            refine ih (d + 1) (by omega) (fun k hk => ?_) (by omega)
            rcases Nat.lt_or_ge k d with q | q
            · exact hni k q
            · rw [show k = d by omega]; exact fun e => h40 e.symm
          · skip
            refine z_aload (pc := 43) hC 0 dX5_child_43 rfl z_isr_r ?_
            refine z_gI (pc := 45) hC 0 0 (x := nI a34) (z_shb (sKids_lt ht2.1 hmem34).2.1) (z_ltb hC (sKids_lt ht2.1 hmem34).2.1) rfl inX0 (by decide) rfl zm_1_36 (ht2.2.1 a34 (sKids_lt ht2.1 hmem34).2.1) dX5_child_45 ?_
            exact z_iretX (pc := 48) hC hE ⟨by decide, by decide⟩ dX5_child_48 ⟨⟨b, rfl, hb, heb, by rw [sChl_k ht2.1 hik34 h40.symm, hkd34]⟩, ⟨ht2, hr2, fun _ => ha2⟩, hkp⟩
    exact L32 (kn σ b + 1) 0 (Nat.zero_le _) (fun k hk => absurd hk (Nat.not_lt_zero _)) (by omega)
  · skip
    refine z_aload_n (pc := 18) hC 0 dX5_child_18 rfl rfl z_isr_r ?_
    refine z_gI (pc := 19) hC 0 8 (x := nI (kn σ b)) (z_shb hb) (z_ltb hC hb) rfl inX0 (by decide) rfl zm_1_59 ((ha2.1.1 b hb).2.2.1) dX5_child_19 ?_
    exact z_iretX (pc := 22) hC hE ⟨by decide, by decide⟩ dX5_child_22 ⟨⟨b, rfl, hb, heb, by unfold sChl; rw [if_pos h15]⟩, ⟨ht2, hr2, fun _ => ha2⟩, hkp⟩
theorem nI_20 {k : Nat} (h : k < 20) : 0 ≤ nI k ∧ nI k < 20 := by
  rw [zi_le, zi_lt, nI_toInt (by omega)]
  have e0 : (0 : Int32).toInt = 0 := rfl
  have e1 : (20 : Int32).toInt = 20 := rfl
  omega
theorem zRt_u2 {I : Nat → Nat → Int32} (h : zRt I) {b k : Nat} {v w : Int32} : zRt (z_u (z_u I 82 2 w) (40 + b) k v) := by
  unfold zRt at *
  rw [z_u_a _ _ (by omega), z_u_a _ _ (by omega), z_u_a _ _ (by omega), z_u_a _ _ (by omega), z_u_a _ _ (by omega), z_u_a _ _ (by omega)]
  exact h
/-- the property and its value are allowed -/
def sOk (q v : Int32) : Prop := ∃ k, q = nI k ∧ k < 20 ∧ z_st 0 k ≤ v ∧ v ≤ z_st 1 k
set_option maxHeartbeats 4000000 in
set_option maxRecDepth 100000 in
theorem kX5_set (lx : Launch) (hst : lx.stackTraces = false) (g : zG) (sa : Nat → Nat) (N : Nat) (I : Nat → Nat → Int32) (P : Nat → Nat → Option Nat) (J : Nat → Nat → Int64) {σ : zS} (hc : zCl σ I P) (x q v : Int32) : z_CtX lx yX5_set (zT yX5_set cX5_set 5 (Option.some FieldType.int)) ({ frames := 7, cells := 2, slots := 12, locals := 112 } : Room) g sa N I P J [.ref (g.1 80), .int x, .int q, .int v] (fun r I' P' J' => (∃ b k, x = nI b ∧ q = nI k ∧ b < 40 ∧ sEx σ b = true ∧ k < 20 ∧ (z_st 0 k ≤ v ∧ v ≤ z_st 1 k) ∧ r = some (.int (sSt σ b k)) ∧ zCl (sSet σ b k v) I' P') ∧ zKp I P J I' P' J') (zXp σ I P J (fun E => zc0 σ x E ∨ (E = zEn 2 ∧ sBx σ x ∧ ¬ sOk q v))) 2 12 := by
  refine z_ofX (by decide) (Nat.le_of_ble_eq_true rfl) (lv0 := [(0, .ref (g.1 80)), (1, .int x), (2, .int q), (3, .int v)]) rfl ?_
  intro C hlx hC hE hRm hX
  have hC : zX C cX5_set 5 RX5 (zT yX5_set cX5_set 5 (Option.some FieldType.int)) g N := hC
  refine z_aload_n (pc := 0) hC 0 dX5_set_0 rfl rfl z_isr_r ?_
  refine z_iload_n (pc := 1) hC 1 dX5_set_1 rfl rfl ?_
  refine z_callVX (pc := 2) (st := []) hC hE hX [.int x] (kX5_existing C.2.1 (by rw [hlx]; exact hst) g sa N I P J hc.1 x) rfl (z_lt hC (by decide)) rfl zkX5_existing zm_1_221 ⟨rfl, rfl⟩ rfl rfl hRm ⟨Nat.le_of_ble_eq_true rfl, Nat.le_of_ble_eq_true rfl⟩ (Nat.le_of_ble_eq_true rfl) ⟨Nat.le_of_ble_eq_true rfl, Nat.le_of_ble_eq_true rfl⟩ ⟨by decide, by decide⟩ dX5_set_2 (fun E I' P' J' h => by obtain ⟨h1, hI', hP', hJ'⟩ := h; rw [hI', hP', hJ']; exact ⟨Or.inl h1, hc, zKp.rf⟩) ?_
  intro v I' P' J' hq
  obtain ⟨b, rfl, hb, heb, hv, hI', hP', hJ'⟩ := hq
  subst hv
  rw [hI', hP', hJ']
  show zJ C g N 5 1 6 I P J 5 [(0, .ref (g.1 80)), (1, .int (nI b)), (2, .int q), (3, .int v)] [.ref (g.1 b)]
  refine z_astore (pc := 5) (lv' := [(4, .ref (g.1 b)), (0, .ref (g.1 80)), (1, .int (nI b)), (2, .int q), (3, .int v)]) hC dX5_set_5 (by decide) z_isr_r rfl ?_
  refine z_iload_n (pc := 7) hC 3 dX5_set_7 rfl rfl ?_
  refine z_cS (pc := 8) (st := []) hC [.int q] (kX5_isProperty C.2.1 g N I P J q) zkX5_isProperty zm_3_30 ⟨rfl, rfl⟩ rfl rfl hRm ⟨Nat.le_of_ble_eq_true rfl, Nat.le_of_ble_eq_true rfl⟩ (Nat.le_of_ble_eq_true rfl) ⟨Nat.le_of_ble_eq_true rfl, Nat.le_of_ble_eq_true rfl⟩ dX5_set_8 ?_
  refine z_if_ne (pc := 11) (tgt := 24) hC dX5_set_11 (by decide) (fun h11 => ?_) (fun h11 => ?_)
  · skip
    have g11 := zB_t h11
    obtain ⟨hq0, hq1⟩ := of_decide_eq_true g11
    obtain ⟨k, hk, rfl⟩ := zi_nI (n := 20) (by decide) hq0 hq1
    refine z_iload_n (pc := 24) hC 4 dX5_set_24 rfl rfl ?_
    refine z_gets (pc := 25) hC 0 (hC.2.2.2.2.2.1.2.1) (z_tw zm_3_49) dX5_set_25 ?_
    refine z_iload_n (pc := 28) hC 3 dX5_set_28 rfl rfl ?_
    refine z_saN (pc := 29) hC 0 k (hC.2.2.2.2.2.1.2.1) rfl hk dX5_set_29 ?_
    refine z_icmp_lt (pc := 30) (tgt := 42) hC dX5_set_30 (by decide) (fun h30 => ?_) (fun h30 => ?_)
    · skip
      have g30 := Int32.not_le.mpr h30
      exact z_throw (pc := 42) hC hE hX hRm (by rw [hlx]; exact hst) 2 3 (by decide) rfl (by decide +kernel) zm_3_33 zm_1_9 zat_2 znb_2 zgw_2 dX5_set_42 dX5_set_45 dX5_set_46 dX5_set_48 dX5_set_51 ⟨Nat.le_of_ble_eq_true rfl, Nat.le_of_ble_eq_true rfl, Nat.le_of_ble_eq_true rfl, Nat.le_of_ble_eq_true rfl⟩ ⟨by decide, by decide⟩ ⟨Or.inr ⟨rfl, ⟨b, rfl, hb, heb⟩, fun z => by obtain ⟨k2, e2, _, hv, _⟩ := z; rw [← (nI_eq (by omega) (by omega)).mp e2] at hv; exact absurd hv (Int32.not_le.mpr h30)⟩, hc, zKp.rf⟩
    · skip
      have g30 := Int32.not_lt.mp h30
      refine z_iload_n (pc := 33) hC 4 dX5_set_33 rfl rfl ?_
      refine z_gets (pc := 34) hC 1 (hC.2.2.2.2.2.1.2.2.1) (z_tw zm_3_51) dX5_set_34 ?_
      refine z_iload_n (pc := 37) hC 3 dX5_set_37 rfl rfl ?_
      refine z_saN (pc := 38) hC 1 k (hC.2.2.2.2.2.1.2.2.1) rfl hk dX5_set_38 ?_
      refine z_icmp_le (pc := 39) (tgt := 52) hC dX5_set_39 (by decide) (fun h39 => ?_) (fun h39 => ?_)
      · skip
        have g39 := Int32.not_lt.mpr h39
        refine z_aload_n (pc := 52) hC 1 dX5_set_52 rfl rfl z_isr_r ?_
        refine z_gF (pc := 53) hC 5 1 (t := 82) rfl (z_lt hC (by decide)) rfl inX5 (by decide) rfl zm_1_208 rfl dX5_set_53 ?_
        refine z_iconst (pc := 56) (v := 1) hC dX5_set_56 rfl ?_
        refine z_pI (pc := 57) hC 2 2 rfl (z_lt hC (by decide)) rfl inX2 tyX2_ok nmX2 (by decide) rfl zm_1_197 rfl (z_b01 (Or.inr rfl)) (z_f01 (Or.inr rfl)) dX5_set_57 ?_
        refine z_aload (pc := 60) hC 0 dX5_set_60 rfl z_isr_r ?_
        refine z_iload_n (pc := 62) hC 3 dX5_set_62 rfl rfl ?_
        refine z_iload_n (pc := 63) hC 4 dX5_set_63 rfl rfl ?_
        refine z_cV (pc := 64) (st := []) hC [.int (nI k), .int v] (kX0_change C.2.1 g N (z_u I 82 2 1) P J b k hb hk (nI k) v rfl) (z_shb hb) (z_ltb hC hb) rfl zkX0_change zm_3_54 ⟨rfl, rfl⟩ rfl rfl hRm ⟨Nat.le_of_ble_eq_true rfl, Nat.le_of_ble_eq_true rfl⟩ (Nat.le_of_ble_eq_true rfl) ⟨Nat.le_of_ble_eq_true rfl, Nat.le_of_ble_eq_true rfl⟩ dX5_set_64 ?_
        exact z_iretX (pc := 67) hC hE ⟨by decide, by decide⟩ dX5_set_67 ⟨⟨b, k, rfl, rfl, hb, heb, hk, ⟨Int32.not_lt.mp h30, Int32.not_lt.mp (Int32.not_lt.mpr h39)⟩, by rw [← zTr_st hc.1 heb hk]; exact congrArg (fun y => some (Value.int y)) (z_u_a _ _ (show 40 + b ≠ 82 by omega)), zCl_st (zTr_set (hc.1.lay (zLay.rf.u (zNK2 (by decide)))) heb hk ⟨Int32.not_lt.mp h30, Int32.not_lt.mp (Int32.not_lt.mpr h39)⟩) (zRt_u2 hc.2.1) ((z_u_a _ _ (show 82 ≠ 40 + b by omega)).trans (z_u_s _ _ _ _))⟩, rfl, fun q j hq => by rw [z_u_a _ _ (show q ≠ 40 + b by omega), z_u_a _ _ (show q ≠ 82 by omega)], fun _ _ _ => rfl⟩
      · skip
        have g39 := Int32.not_le.mp h39
        exact z_throw (pc := 42) hC hE hX hRm (by rw [hlx]; exact hst) 2 3 (by decide) rfl (by decide +kernel) zm_3_33 zm_1_9 zat_2 znb_2 zgw_2 dX5_set_42 dX5_set_45 dX5_set_46 dX5_set_48 dX5_set_51 ⟨Nat.le_of_ble_eq_true rfl, Nat.le_of_ble_eq_true rfl, Nat.le_of_ble_eq_true rfl, Nat.le_of_ble_eq_true rfl⟩ ⟨by decide, by decide⟩ ⟨Or.inr ⟨rfl, ⟨b, rfl, hb, heb⟩, fun z => by obtain ⟨k2, e2, _, _, hv⟩ := z; rw [← (nI_eq (by omega) (by omega)).mp e2] at hv; exact absurd hv (Int32.not_le.mpr (Int32.not_le.mp h39))⟩, hc, zKp.rf⟩
  · skip
    have g11 := zB_f h11
    exact z_throw (pc := 14) hC hE hX hRm (by rw [hlx]; exact hst) 2 2 (by decide) rfl (by decide +kernel) zm_3_33 zm_1_9 zat_2 znb_2 zgw_2 dX5_set_14 dX5_set_17 dX5_set_18 dX5_set_20 dX5_set_23 ⟨Nat.le_of_ble_eq_true rfl, Nat.le_of_ble_eq_true rfl, Nat.le_of_ble_eq_true rfl, Nat.le_of_ble_eq_true rfl⟩ ⟨by decide, by decide⟩ ⟨Or.inr ⟨rfl, ⟨b, rfl, hb, heb⟩, fun z => by obtain ⟨k2, e2, hk2, _⟩ := z; exact of_decide_eq_false g11 (by rw [e2]; exact nI_20 hk2)⟩, hc, zKp.rf⟩
set_option maxHeartbeats 4000000 in
set_option maxRecDepth 100000 in
theorem kX5_viewport (lx : Launch) (hst : lx.stackTraces = false) (g : zG) (sa : Nat → Nat) (N : Nat) (I : Nat → Nat → Int32) (P : Nat → Nat → Option Nat) (J : Nat → Nat → Int64) {σ : zS} (hc : zCl σ I P) (x y : Int32) : z_CtX lx yX5_viewport (zT yX5_viewport cX5_viewport 3 (Option.none : Option FieldType)) ({ frames := 6, cells := 1, slots := 6, locals := 90 } : Room) g sa N I P J [.ref (g.1 80), .int x, .int y] (fun r I' P' J' => ((0 ≤ x ∧ x ≤ 2000) ∧ 0 ≤ y ∧ y ≤ 2000) ∧ r = none ∧ zCl (sVp σ x y) I' P' ∧ zKp I P J I' P' J') (zXp σ I P J (fun E => E = zEn 2 ∧ ¬ ((0 ≤ x ∧ x ≤ 2000) ∧ 0 ≤ y ∧ y ≤ 2000))) 1 6 := by
  refine z_ofX (by decide) (Nat.le_of_ble_eq_true rfl) (lv0 := [(0, .ref (g.1 80)), (1, .int x), (2, .int y)]) rfl ?_
  intro C hlx hC hE hRm hX
  have hC : zX C cX5_viewport 3 RX5 (zT yX5_viewport cX5_viewport 3 (Option.none : Option FieldType)) g N := hC
  refine z_iload_n (pc := 0) hC 1 dX5_viewport_0 rfl rfl ?_
  refine z_cS (pc := 1) (st := []) hC [.int x] (kX5_isViewportLength C.2.1 g N I P J x) zkX5_isViewportLength zm_3_63 ⟨rfl, rfl⟩ rfl rfl hRm ⟨Nat.le_of_ble_eq_true rfl, Nat.le_of_ble_eq_true rfl⟩ (Nat.le_of_ble_eq_true rfl) ⟨Nat.le_of_ble_eq_true rfl, Nat.le_of_ble_eq_true rfl⟩ dX5_viewport_1 ?_
  refine z_if_eq (pc := 4) (tgt := 14) hC dX5_viewport_4 (by decide) (fun h4 => ?_) (fun h4 => ?_)
  · skip
    have g4 := zB_f h4
    exact z_throw (pc := 14) hC hE hX hRm (by rw [hlx]; exact hst) 2 4 (by decide) rfl (by decide +kernel) zm_3_33 zm_1_9 zat_2 znb_2 zgw_2 dX5_viewport_14 dX5_viewport_17 dX5_viewport_18 dX5_viewport_20 dX5_viewport_23 ⟨Nat.le_of_ble_eq_true rfl, Nat.le_of_ble_eq_true rfl, Nat.le_of_ble_eq_true rfl, Nat.le_of_ble_eq_true rfl⟩ ⟨by decide, by decide⟩ ⟨⟨rfl, fun z => of_decide_eq_false g4 z.1⟩, hc, zKp.rf⟩
  · skip
    have g4 := zB_t h4
    refine z_iload_n (pc := 7) hC 2 dX5_viewport_7 rfl rfl ?_
    refine z_cS (pc := 8) (st := []) hC [.int y] (kX5_isViewportLength C.2.1 g N I P J y) zkX5_isViewportLength zm_3_63 ⟨rfl, rfl⟩ rfl rfl hRm ⟨Nat.le_of_ble_eq_true rfl, Nat.le_of_ble_eq_true rfl⟩ (Nat.le_of_ble_eq_true rfl) ⟨Nat.le_of_ble_eq_true rfl, Nat.le_of_ble_eq_true rfl⟩ dX5_viewport_8 ?_
    refine z_if_ne (pc := 11) (tgt := 24) hC dX5_viewport_11 (by decide) (fun h11 => ?_) (fun h11 => ?_)
    · skip
      have g11 := zB_t h11
      refine z_aload_n (pc := 24) hC 0 dX5_viewport_24 rfl rfl z_isr_r ?_
      refine z_gF (pc := 25) hC 5 1 (t := 82) rfl (z_lt hC (by decide)) rfl inX5 (by decide) rfl zm_1_208 rfl dX5_viewport_25 ?_
      refine z_iconst (pc := 28) (v := 1) hC dX5_viewport_28 rfl ?_
      refine z_pI (pc := 29) hC 2 2 rfl (z_lt hC (by decide)) rfl inX2 tyX2_ok nmX2 (by decide) rfl zm_1_197 rfl (z_b01 (Or.inr rfl)) (z_f01 (Or.inr rfl)) dX5_viewport_29 ?_
      refine z_aload_n (pc := 32) hC 0 dX5_viewport_32 rfl rfl z_isr_r ?_
      refine z_gF (pc := 33) hC 5 0 (t := 81) rfl (z_lt hC (by decide)) rfl inX5 (by decide) rfl zm_1_207 rfl dX5_viewport_33 ?_
      refine z_iload_n (pc := 36) hC 1 dX5_viewport_36 rfl rfl ?_
      refine z_pI (pc := 37) hC 4 3 rfl (z_lt hC (by decide)) rfl inX4 tyX4_ok nmX4 (by decide) rfl zm_1_132 rfl rfl rfl dX5_viewport_37 ?_
      refine z_aload_n (pc := 40) hC 0 dX5_viewport_40 rfl rfl z_isr_r ?_
      refine z_gF (pc := 41) hC 5 0 (t := 81) rfl (z_lt hC (by decide)) rfl inX5 (by decide) rfl zm_1_207 rfl dX5_viewport_41 ?_
      refine z_iload_n (pc := 44) hC 2 dX5_viewport_44 rfl rfl ?_
      refine z_pI (pc := 45) hC 4 4 rfl (z_lt hC (by decide)) rfl inX4 tyX4_ok nmX4 (by decide) rfl zm_1_135 rfl rfl rfl dX5_viewport_45 ?_
      exact z_vretX (pc := 48) hC hE ⟨by decide, by decide⟩ dX5_viewport_48 ⟨⟨of_decide_eq_true g4, of_decide_eq_true g11⟩, rfl, zCl_st (zTr_vp (hc.1.lay (zLay.rf.u (zNK2 (by decide)))) (of_decide_eq_true g4) (of_decide_eq_true g11)) hc.2.1 rfl, rfl, fun q j hq => by rw [z_u_a _ _ (show q ≠ 81 by omega), z_u_a _ _ (show q ≠ 81 by omega), z_u_a _ _ (show q ≠ 82 by omega)], fun _ _ _ => rfl⟩
    · skip
      have g11 := zB_f h11
      exact z_throw (pc := 14) hC hE hX hRm (by rw [hlx]; exact hst) 2 4 (by decide) rfl (by decide +kernel) zm_3_33 zm_1_9 zat_2 znb_2 zgw_2 dX5_viewport_14 dX5_viewport_17 dX5_viewport_18 dX5_viewport_20 dX5_viewport_23 ⟨Nat.le_of_ble_eq_true rfl, Nat.le_of_ble_eq_true rfl, Nat.le_of_ble_eq_true rfl, Nat.le_of_ble_eq_true rfl⟩ ⟨by decide, by decide⟩ ⟨⟨rfl, fun z => of_decide_eq_false g11 z.2⟩, hc, zKp.rf⟩
set_option maxHeartbeats 4000000 in
set_option maxRecDepth 100000 in
theorem kX5_overflow (lx : Launch) (hst : lx.stackTraces = false) (g : zG) (sa : Nat → Nat) (N : Nat) (I : Nat → Nat → Int32) (P : Nat → Nat → Option Nat) (J : Nat → Nat → Int64) {σ : zS} (hc : zCl σ I P) (x : Int32) : z_CtX lx yX5_overflow (zT yX5_overflow cX5_overflow 3 (Option.some FieldType.int)) ({ frames := 7, cells := 2, slots := 12, locals := 184 } : Room) g sa N I P J [.ref (g.1 80), .int x] (zGt σ x (sOvf σ) I P J) (zXp σ I P J (fun E => zc0 σ x E ∨ zc1 σ x E)) 2 12 := by
  refine z_ofX (by decide) (Nat.le_of_ble_eq_true rfl) (lv0 := [(0, .ref (g.1 80)), (1, .int x)]) rfl ?_
  intro C hlx hC hE hRm hX
  have hC : zX C cX5_overflow 3 RX5 (zT yX5_overflow cX5_overflow 3 (Option.some FieldType.int)) g N := hC
  refine z_aload_n (pc := 0) hC 0 dX5_overflow_0 rfl rfl z_isr_r ?_
  refine z_aload_n (pc := 1) hC 0 dX5_overflow_1 rfl rfl z_isr_r ?_
  refine z_iload_n (pc := 2) hC 1 dX5_overflow_2 rfl rfl ?_
  refine z_callVX (pc := 3) (st := [.ref (g.1 80)]) hC hE hX [.int x] (kX5_existing C.2.1 (by rw [hlx]; exact hst) g sa N I P J hc.1 x) rfl (z_lt hC (by decide)) rfl zkX5_existing zm_1_221 ⟨rfl, rfl⟩ rfl rfl hRm ⟨Nat.le_of_ble_eq_true rfl, Nat.le_of_ble_eq_true rfl⟩ (Nat.le_of_ble_eq_true rfl) ⟨Nat.le_of_ble_eq_true rfl, Nat.le_of_ble_eq_true rfl⟩ ⟨by decide, by decide⟩ dX5_overflow_3 (fun E I' P' J' h => by obtain ⟨h1, hI', hP', hJ'⟩ := h; rw [hI', hP', hJ']; exact ⟨Or.inl h1, hc, zKp.rf⟩) ?_
  intro v I' P' J' hq
  obtain ⟨b, rfl, hb, heb, hv, hI', hP', hJ'⟩ := hq
  subst hv
  rw [hI', hP', hJ']
  show zJ C g N 3 1 6 I P J 6 [(0, .ref (g.1 80)), (1, .int (nI b))] [.ref (g.1 b), .ref (g.1 80)]
  refine z_callVX (pc := 6) (st := []) hC hE hX [.ref (g.1 b)] (kX5_laidOut C.2.1 (by rw [hlx]; exact hst) g sa N I P J hc b hb) rfl (z_lt hC (by decide)) rfl zkX5_laidOut zm_3_71 ⟨rfl, rfl⟩ rfl rfl hRm ⟨Nat.le_of_ble_eq_true rfl, Nat.le_of_ble_eq_true rfl⟩ (Nat.le_of_ble_eq_true rfl) ⟨Nat.le_of_ble_eq_true rfl, Nat.le_of_ble_eq_true rfl⟩ ⟨by decide, by decide⟩ dX5_overflow_6 (fun E I' P' J' h => ⟨Or.inr ⟨h.1.1, b, rfl, hb, heb, h.1.2⟩, h.2⟩) ?_
  intro v I2 P2 J2 hq
  obtain ⟨hv, hs, ht2, ha2, hs2, hr2, hkp⟩ := hq
  subst hv
  show zJ C g N 3 2 12 I2 P2 J2 9 [(0, .ref (g.1 80)), (1, .int (nI b))] [.ref (g.1 b)]
  refine z_astore_n (pc := 9) (lv' := [(2, .ref (g.1 b)), (0, .ref (g.1 80)), (1, .int (nI b))]) hC dX5_overflow_9 rfl (by decide) z_isr_r rfl ?_
  refine z_aload_n (pc := 10) hC 0 dX5_overflow_10 rfl rfl z_isr_r ?_
  refine z_gI (pc := 11) hC 0 4 (x := zB (sCon σ b)) (z_shb hb) (z_ltb hC hb) rfl inX0 (by decide) rfl zm_1_48 ((ha2.1.1 b hb).1) dX5_overflow_11 ?_
  refine z_if_eq (pc := 14) (tgt := 24) hC dX5_overflow_14 (by decide) (fun h14 => ?_) (fun h14 => ?_)
  · skip
    have g14 := zB_f h14
    refine z_aload_n (pc := 24) hC 0 dX5_overflow_24 rfl rfl z_isr_r ?_
    refine z_cS (pc := 25) (st := []) hC [.ref (g.1 b)] (kX2_textOverflow C.2.1 g N I2 P2 J2 ht2 ha2 b heb hs) zkX2_textOverflow zm_3_103 ⟨rfl, rfl⟩ rfl rfl hRm ⟨Nat.le_of_ble_eq_true rfl, Nat.le_of_ble_eq_true rfl⟩ (Nat.le_of_ble_eq_true rfl) ⟨Nat.le_of_ble_eq_true rfl, Nat.le_of_ble_eq_true rfl⟩ dX5_overflow_25 ?_
    exact z_iretX (pc := 28) hC hE ⟨by decide, by decide⟩ dX5_overflow_28 ⟨⟨b, rfl, hs, by unfold sOvf; rw [if_neg (by rw [g14]; decide)]⟩, ⟨ht2, hr2, fun _ => ha2⟩, hkp⟩
  · skip
    have g14 := zB_t h14
    refine z_aload_n (pc := 17) hC 0 dX5_overflow_17 rfl rfl z_isr_r ?_
    refine z_cS (pc := 18) (st := []) hC [.ref (g.1 b)] (kX2_kidsOverflow C.2.1 g N I2 P2 J2 ht2 ha2 b heb hs) zkX2_kidsOverflow zm_3_100 ⟨rfl, rfl⟩ rfl rfl hRm ⟨Nat.le_of_ble_eq_true rfl, Nat.le_of_ble_eq_true rfl⟩ (Nat.le_of_ble_eq_true rfl) ⟨Nat.le_of_ble_eq_true rfl, Nat.le_of_ble_eq_true rfl⟩ dX5_overflow_18 ?_
    refine z_goto (pc := 21) (tgt := 28) hC dX5_overflow_21 (by decide) ?_
    exact z_iretX (pc := 28) hC hE ⟨by decide, by decide⟩ dX5_overflow_28 ⟨⟨b, rfl, hs, by unfold sOvf; rw [if_pos g14]⟩, ⟨ht2, hr2, fun _ => ha2⟩, hkp⟩
set_option maxHeartbeats 4000000 in
set_option maxRecDepth 100000 in
theorem kX5_hit (lx : Launch) (g : zG) (N : Nat) (I : Nat → Nat → Int32) (P : Nat → Nat → Option Nat) (J : Nat → Nat → Int64) {σ : zS} (hc : zCl σ I P) (x y : Int32) : z_Ct lx yX5_hit (zT yX5_hit cX5_hit 3 (Option.some FieldType.int)) ({ frames := 6, cells := 0, slots := 0, locals := 163 } : Room) g N I P J [.ref (g.1 80), .int x, .int y] (fun v I' P' J' => v = some (.int (sHit σ x y)) ∧ zCl σ I' P' ∧ zKp I P J I' P' J') 0 0 := by
  refine z_of (by decide) (Nat.le_of_ble_eq_true rfl) (lv0 := [(0, .ref (g.1 80)), (1, .int x), (2, .int y)]) rfl ?_
  intro C hlx hC hE hRm
  have hC : zX C cX5_hit 3 RX5 (zT yX5_hit cX5_hit 3 (Option.some FieldType.int)) g N := hC
  refine z_aload_n (pc := 0) hC 0 dX5_hit_0 rfl rfl z_isr_r ?_
  refine z_gF (pc := 1) hC 5 1 (t := 82) rfl (z_lt hC (by decide)) rfl inX5 (by decide) rfl zm_1_208 rfl dX5_hit_1 ?_
  refine z_callV (pc := 4) (st := []) hC [] ((kX2_arrange C.2.1 g N I P J hc.1 hc.2.1 hc.2.2)) rfl (z_lt hC (by decide)) rfl zkX2_arrange zm_2_86 ⟨rfl, rfl⟩ rfl rfl hRm ⟨Nat.le_of_ble_eq_true rfl, Nat.le_of_ble_eq_true rfl⟩ (Nat.le_of_ble_eq_true rfl) ⟨Nat.zero_le _, Nat.zero_le _⟩ dX5_hit_4 ?_
  intro v I2 P2 J2 hq
  obtain ⟨hv, hJ2, ht2, ha2, hs2, hr2, h95, hfp⟩ := hq
  subst hv
  have hkp : zKp I P J I2 P2 J2 := ⟨hJ2, h95, fun q j hq => hfp q j (by omega)⟩
  rw [hJ2] at hkp ⊢
  show zJ C g N 3 0 0 I2 P2 J 7 [(0, .ref (g.1 80)), (1, .int x), (2, .int y)] []
  refine z_aload_n (pc := 7) hC 0 dX5_hit_7 rfl rfl z_isr_r ?_
  refine z_gF (pc := 8) hC 5 1 (t := 82) rfl (z_lt hC (by decide)) rfl inX5 (by decide) rfl zm_1_208 rfl dX5_hit_8 ?_
  refine z_iload_n (pc := 11) hC 1 dX5_hit_11 rfl rfl ?_
  refine z_iload_n (pc := 12) hC 2 dX5_hit_12 rfl rfl ?_
  refine z_cV (pc := 13) (st := []) hC [.int x, .int y] (kX2_topmostAt C.2.1 g N I2 P2 J ht2 ha2 x y) rfl (z_lt hC (by decide)) rfl zkX2_topmostAt zm_3_110 ⟨rfl, rfl⟩ rfl rfl hRm ⟨Nat.le_of_ble_eq_true rfl, Nat.le_of_ble_eq_true rfl⟩ (Nat.le_of_ble_eq_true rfl) ⟨Nat.zero_le _, Nat.zero_le _⟩ dX5_hit_13 ?_
  exact z_iret (pc := 16) hC hE dX5_hit_16 ⟨rfl, ⟨ht2, hr2, fun _ => ha2⟩, hkp⟩
theorem zAr_u {σ : zS} {I : Nat → Nat → Int32} {P : Nat → Nat → Option Nat} (h : zAr σ I P) {v : Int32} : zAr σ (z_u I 82 2 v) P := by
  refine ⟨h.1.lay (zLay.rf.u (zNK2 (by decide))), fun b hb => ?_⟩
  have q := h.2 b hb
  by_cases e : b < 40
  · have ne : b ≠ 82 := by omega
    rw [z_u_a _ _ ne, z_u_a _ _ ne, z_u_a _ _ ne, z_u_a _ _ ne, z_u_a _ _ ne, z_u_a _ _ ne, z_u_a _ _ ne, z_u_a _ _ ne]
    exact q
  · unfold sSh at hb
    rw [sShN_ge (by omega)] at hb
    cases hb
theorem zWf_end {σ : zS} {I2 I3 : Nat → Nat → Int32} {P2 P3 : Nat → Nat → Option Nat} (ht : zTr σ I2 P2) (hr : zRt I2) (hG : zGeo [14, 16, 17] (z_u I2 82 2 1) I3 ∧ I3 0 17 = z_u I2 82 2 1 0 17) (hP : ∀ q j, ¬ (j = 9 ∧ q < 40) → P3 q j = P2 q j) : zCl σ I3 P3 := by
  have ht3 : zTr σ (z_u I2 82 2 1) P2 := ht.lay (zLay.rf.u (zNK2 (by decide)))
  refine zCl_st (zTr_P (ht3.lay (hG.1.lay (by decide))) hP) ⟨?_, ?_, ?_⟩ ?_
  · rw [hG.1.oth (by decide) (by decide), z_u_a _ _ (by decide)]; exact hr.1
  · rw [hG.1.oth (by decide) (by decide), z_u_a _ _ (by decide)]; exact hr.2.1
  · rw [hG.2, z_u_a _ _ (by decide)]; exact hr.2.2
  · rw [hG.1 82 2 (by omega) (by omega) (by omega), z_u_s]
set_option maxHeartbeats 4000000 in
set_option maxRecDepth 100000 in
theorem kX5_widthFor (lx : Launch) (hst : lx.stackTraces = false) (g : zG) (sa : Nat → Nat) (N : Nat) (I : Nat → Nat → Int32) (P : Nat → Nat → Option Nat) (J : Nat → Nat → Int64) {σ : zS} (hc : zCl σ I P) (x n : Int32) : z_CtX lx yX5_widthFor (zT yX5_widthFor cX5_widthFor 4 (Option.some FieldType.int)) ({ frames := 7, cells := 3, slots := 18, locals := 184 } : Room) g sa N I P J [.ref (g.1 80), .int x, .int n] (fun v I' P' J' => (∃ b, x = nI b ∧ sSh σ b = true ∧ (0 ≤ n ∧ n ≤ 100) ∧ v = some (.int (sWf σ b n))) ∧ zCl σ I' P' ∧ zKp I P J I' P' J') (zXp σ I P J (fun E => zc0 σ x E ∨ ((E = zEn 2 ∧ sBx σ x ∧ ¬ (0 ≤ n ∧ n ≤ 100)) ∨ (zc1 σ x E ∧ 0 ≤ n ∧ n ≤ 100)))) 3 18 := by
  refine z_ofX (by decide) (Nat.le_of_ble_eq_true rfl) (lv0 := [(0, .ref (g.1 80)), (1, .int x), (2, .int n)]) rfl ?_
  intro C hlx hC hE hRm hX
  have hC : zX C cX5_widthFor 4 RX5 (zT yX5_widthFor cX5_widthFor 4 (Option.some FieldType.int)) g N := hC
  refine z_aload_n (pc := 0) hC 0 dX5_widthFor_0 rfl rfl z_isr_r ?_
  refine z_iload_n (pc := 1) hC 1 dX5_widthFor_1 rfl rfl ?_
  refine z_callVX (pc := 2) (st := []) hC hE hX [.int x] (kX5_existing C.2.1 (by rw [hlx]; exact hst) g sa N I P J hc.1 x) rfl (z_lt hC (by decide)) rfl zkX5_existing zm_1_221 ⟨rfl, rfl⟩ rfl rfl hRm ⟨Nat.le_of_ble_eq_true rfl, Nat.le_of_ble_eq_true rfl⟩ (Nat.le_of_ble_eq_true rfl) ⟨Nat.le_of_ble_eq_true rfl, Nat.le_of_ble_eq_true rfl⟩ ⟨by decide, by decide⟩ dX5_widthFor_2 (fun E I' P' J' h => by obtain ⟨h1, hI', hP', hJ'⟩ := h; rw [hI', hP', hJ']; exact ⟨Or.inl h1, hc, zKp.rf⟩) ?_
  intro v I' P' J' hq
  obtain ⟨b, rfl, hb, heb, hv, hI', hP', hJ'⟩ := hq
  subst hv
  rw [hI', hP', hJ']
  show zJ C g N 4 1 6 I P J 5 [(0, .ref (g.1 80)), (1, .int (nI b)), (2, .int n)] [.ref (g.1 b)]
  refine z_astore_n (pc := 5) (lv' := [(3, .ref (g.1 b)), (0, .ref (g.1 80)), (1, .int (nI b)), (2, .int n)]) hC dX5_widthFor_5 rfl (by decide) z_isr_r rfl ?_
  refine z_iload_n (pc := 6) hC 3 dX5_widthFor_6 rfl rfl ?_
  refine z_if_lt (pc := 7) (tgt := 16) hC dX5_widthFor_7 (by decide) (fun h7 => ?_) (fun h7 => ?_)
  · skip
    have g7 := Int32.not_le.mpr h7
    exact z_throw (pc := 16) hC hE hX hRm (by rw [hlx]; exact hst) 2 6 (by decide) rfl (by decide +kernel) zm_3_33 zm_1_9 zat_2 znb_2 zgw_2 dX5_widthFor_16 dX5_widthFor_19 dX5_widthFor_20 dX5_widthFor_22 dX5_widthFor_25 ⟨Nat.le_of_ble_eq_true rfl, Nat.le_of_ble_eq_true rfl, Nat.le_of_ble_eq_true rfl, Nat.le_of_ble_eq_true rfl⟩ ⟨by decide, by decide⟩ ⟨Or.inr (Or.inl ⟨rfl, ⟨b, rfl, hb, heb⟩, fun z => absurd z.1 (Int32.not_le.mpr h7)⟩), hc, zKp.rf⟩
  · skip
    have g7 := Int32.not_lt.mp h7
    refine z_iload_n (pc := 10) hC 3 dX5_widthFor_10 rfl rfl ?_
    refine z_bipush (pc := 11) (v := 100) hC dX5_widthFor_11 rfl ?_
    refine z_icmp_le (pc := 13) (tgt := 26) hC dX5_widthFor_13 (by decide) (fun h13 => ?_) (fun h13 => ?_)
    · skip
      have g13 := Int32.not_lt.mpr h13
      refine z_aload_n (pc := 26) hC 1 dX5_widthFor_26 rfl rfl z_isr_r ?_
      refine z_aload_n (pc := 27) hC 0 dX5_widthFor_27 rfl rfl z_isr_r ?_
      refine z_callVX (pc := 28) (st := []) hC hE hX [.ref (g.1 b)] (kX5_laidOut C.2.1 (by rw [hlx]; exact hst) g sa N I P J hc b hb) rfl (z_lt hC (by decide)) rfl zkX5_laidOut zm_3_71 ⟨rfl, rfl⟩ rfl rfl hRm ⟨Nat.le_of_ble_eq_true rfl, Nat.le_of_ble_eq_true rfl⟩ (Nat.le_of_ble_eq_true rfl) ⟨Nat.le_of_ble_eq_true rfl, Nat.le_of_ble_eq_true rfl⟩ ⟨by decide, by decide⟩ dX5_widthFor_28 (fun E I' P' J' h => ⟨Or.inr (Or.inr ⟨⟨h.1.1, b, rfl, hb, heb, h.1.2⟩, Int32.not_lt.mp h7, Int32.not_lt.mp (Int32.not_lt.mpr h13)⟩), h.2⟩) ?_
      intro v I2 P2 J2 hq
      obtain ⟨hv, hs, ht2, ha2, hs2, hr2, hkp⟩ := hq
      subst hv
      show zJ C g N 4 2 12 I2 P2 J2 31 [(3, .ref (g.1 b)), (0, .ref (g.1 80)), (1, .int (nI b)), (2, .int n)] [.ref (g.1 b)]
      refine z_pop (pc := 31) hC dX5_widthFor_31 rfl ?_
      refine z_aload_n (pc := 32) hC 1 dX5_widthFor_32 rfl rfl z_isr_r ?_
      refine z_gF (pc := 33) hC 5 1 (t := 82) rfl (z_lt hC (by decide)) rfl inX5 (by decide) rfl zm_1_208 rfl dX5_widthFor_33 ?_
      refine z_iconst (pc := 36) (v := 1) hC dX5_widthFor_36 rfl ?_
      refine z_pI (pc := 37) hC 2 2 rfl (z_lt hC (by decide)) rfl inX2 tyX2_ok nmX2 (by decide) rfl zm_1_197 rfl (z_b01 (Or.inr rfl)) (z_f01 (Or.inr rfl)) dX5_widthFor_37 ?_
      refine z_aload_n (pc := 40) hC 1 dX5_widthFor_40 rfl rfl z_isr_r ?_
      refine z_gF (pc := 41) hC 5 1 (t := 82) rfl (z_lt hC (by decide)) rfl inX5 (by decide) rfl zm_1_208 rfl dX5_widthFor_41 ?_
      refine z_aload_n (pc := 44) hC 0 dX5_widthFor_44 rfl rfl z_isr_r ?_
      refine z_iload_n (pc := 45) hC 3 dX5_widthFor_45 rfl rfl ?_
      have ht3 : zTr σ (z_u I2 82 2 1) P2 := ht2.lay (zLay.rf.u (zNK2 (by decide)))
      have ha3 := zAr_u ha2 (v := 1)
      refine z_callV (pc := 46) (st := []) hC [.ref (g.1 b), .int n] ((kX2_narrowestFor C.2.1 g N (z_u I2 82 2 1) P2 J2 ht3 ha3 b heb hs hb n)) rfl (z_lt hC (by decide)) rfl zkX2_narrowestFor zm_3_126 ⟨rfl, rfl⟩ rfl rfl hRm ⟨Nat.le_of_ble_eq_true rfl, Nat.le_of_ble_eq_true rfl⟩ (Nat.le_of_ble_eq_true rfl) ⟨Nat.le_of_ble_eq_true rfl, Nat.le_of_ble_eq_true rfl⟩ dX5_widthFor_46 ?_
      intro v I3 P3 J3 hq
      obtain ⟨hv, hJ3, hG, hPP⟩ := hq
      subst hv
      show zJ C g N 4 2 12 I3 P3 J3 49 [(3, .ref (g.1 b)), (0, .ref (g.1 80)), (1, .int (nI b)), (2, .int n)] [.int (sWf σ b n)]
      exact z_iretX (pc := 49) hC hE ⟨by decide, by decide⟩ dX5_widthFor_49 ⟨⟨b, rfl, hs, ⟨Int32.not_lt.mp h7, Int32.not_lt.mp (Int32.not_lt.mpr h13)⟩, rfl⟩, zWf_end ht2 hr2 hG hPP, hkp.tr ⟨hJ3, fun q j hq => (hG.1.hi hq j).trans (z_u_a _ _ (by omega)), fun q j hq => hPP q j (by omega)⟩⟩
    · skip
      have g13 := Int32.not_le.mp h13
      exact z_throw (pc := 16) hC hE hX hRm (by rw [hlx]; exact hst) 2 6 (by decide) rfl (by decide +kernel) zm_3_33 zm_1_9 zat_2 znb_2 zgw_2 dX5_widthFor_16 dX5_widthFor_19 dX5_widthFor_20 dX5_widthFor_22 dX5_widthFor_25 ⟨Nat.le_of_ble_eq_true rfl, Nat.le_of_ble_eq_true rfl, Nat.le_of_ble_eq_true rfl, Nat.le_of_ble_eq_true rfl⟩ ⟨by decide, by decide⟩ ⟨Or.inr (Or.inl ⟨rfl, ⟨b, rfl, hb, heb⟩, fun z => absurd z.2 (Int32.not_le.mpr (Int32.not_le.mp h13))⟩), hc, zKp.rf⟩
end ZF2
