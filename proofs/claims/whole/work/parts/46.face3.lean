section ZF3
theorem zgv_lt {σ : zS} {I : Nat → Nat → Int32} {P : Nat → Nat → Option Nat} (h : zTr σ I P) (q : ¬ 40 ≤ I 81 2) : sGv σ < 40 := by
  have h3 := h.1.2.2.1
  rw [h.2.2.2.2.2.2.2.1] at q
  rcases Nat.lt_or_ge (sGv σ) 40 with e | e
  · exact e
  · exact absurd ((zi_le _ _).mpr (by rw [nI_toInt (by omega)]; show (40 : Int) ≤ _; omega)) q
theorem zgv_ge {σ : zS} {I : Nat → Nat → Int32} {P : Nat → Nat → Option Nat} (h : zTr σ I P) (q : 40 ≤ I 81 2) : sGv σ = 40 := by
  have h3 := h.1.2.2.1
  rw [h.2.2.2.2.2.2.2.1, zi_le, nI_toInt (by omega)] at q
  have e : (40 : Int32).toInt = 40 := rfl
  omega
theorem zAdd_o {I : Nat → Nat → Int32} {gv q j : Nat} {x y : Int32} (hg : gv < 40) (hq : 95 ≤ q) : z_u (zrow (z_st 2) (z_u (z_u I 82 2 x) gv 2 1) (40 + gv) 20) 81 2 y q j = I q j := by
  rw [z_u_a _ _ (by omega)]
  show (if q = 40 + gv ∧ j < 20 then _ else z_u (z_u I 82 2 x) gv 2 1 q j) = _
  rw [if_neg (fun z => by omega), z_u_a _ _ (by omega), z_u_a _ _ (by omega)]
theorem zAdd_end {σ : zS} {I : Nat → Nat → Int32} {P : Nat → Nat → Option Nat} (hc : zCl σ I P) (hg : sGv σ < 40) {b : Nat} (he : sEx σ b = true) : zCl (sAdd σ b) (z_u (zrow (z_st 2) (z_u (z_u I 82 2 1) (sGv σ) 2 1) (40 + sGv σ) 20) 81 2 ((z_u I 82 2 1) 81 2 + 1)) (z_u P (sGv σ) 3 (some b)) := by
  have ht : zTr σ (z_u I 82 2 1) P := hc.1.lay (zLay.rf.u (zNK2 (by decide)))
  have o : ∀ q j, q ≠ 81 → q ≠ 40 + sGv σ → ¬ (q = sGv σ ∧ j = 2) → q ≠ 82 → z_u (zrow (z_st 2) (z_u (z_u I 82 2 1) (sGv σ) 2 1) (40 + sGv σ) 20) 81 2 ((z_u I 82 2 1) 81 2 + 1) q j = I q j := fun q j h1 h2 h3 h4 => by
    rw [z_u_a _ _ h1]
    show (if q = 40 + sGv σ ∧ j < 20 then _ else z_u (z_u I 82 2 1) (sGv σ) 2 1 q j) = _
    rw [if_neg (fun z => h2 z.1), z_u_r2 _ h3, z_u_a _ _ h4]
  refine zCl_st (zTr_add ht he hg) ⟨?_, ?_, ?_⟩ ?_
  · rw [o 0 12 (by decide) (by omega) (by omega) (by decide)]; exact hc.2.1.1
  · rw [o 0 13 (by decide) (by omega) (by omega) (by decide)]; exact hc.2.1.2.1
  · rw [o 0 17 (by decide) (by omega) (by omega) (by decide)]; exact hc.2.1.2.2
  · rw [z_u_a _ _ (by decide)]
    show (if 82 = 40 + sGv σ ∧ 2 < 20 then _ else z_u (z_u I 82 2 1) (sGv σ) 2 1 82 2) = _
    rw [if_neg (fun z => by omega), z_u_a _ _ (by omega), z_u_s]
theorem zRem_end {σ : zS} {I : Nat → Nat → Int32} {P : Nat → Nat → Option Nat} (hc : zCl σ I P) {b : Nat} (h0 : b ≠ 0) : zCl (sRem σ b) (zex (z_u I 82 2 1) (sCut σ b 40)) P := by
  have ht : zTr σ (z_u I 82 2 1) P := hc.1.lay (zLay.rf.u (zNK2 (by decide)))
  refine zCl_st (zTr_cut ht h0) ⟨?_, ?_, ?_⟩ ?_
  · rw [zex_k _ _ (by decide)]; exact hc.2.1.1
  · rw [zex_k _ _ (by decide)]; exact hc.2.1.2.1
  · rw [zex_k _ _ (by decide)]; exact hc.2.1.2.2
  · unfold zex
    rw [if_neg (by decide)]
    rfl
theorem zRem_o {I : Nat → Nat → Int32} {f : Nat → Bool} {q j : Nat} {x : Int32} (hq : 95 ≤ q) : zex (z_u I 82 2 x) f q j = I q j := by
  unfold zex
  rw [if_neg (by omega), z_u_a _ _ (by omega)]
theorem zCpy_end {σ : zS} {I : Nat → Nat → Int32} {P : Nat → Nat → Option Nat} (hc : zCl σ I P) {a b : Nat} (ha : sEx σ a = true) (hb : sEx σ b = true) : zCl (sCpy σ a b) (zrow (sSt σ a) (z_u I 82 2 1) (40 + b) 17) P := by
  have hb4 := zTr_lt hc.1 hb
  have ht : zTr σ (z_u I 82 2 1) P := hc.1.lay (zLay.rf.u (zNK2 (by decide)))
  have o : ∀ q j, q ≠ 40 + b → zrow (sSt σ a) (z_u I 82 2 1) (40 + b) 17 q j = z_u I 82 2 1 q j := fun q j hq => if_neg (fun z => hq z.1)
  refine zCl_st (zTr_cpy ht ha hb) ⟨?_, ?_, ?_⟩ ?_
  · rw [o _ _ (by omega)]; exact hc.2.1.1
  · rw [o _ _ (by omega)]; exact hc.2.1.2.1
  · rw [o _ _ (by omega)]; exact hc.2.1.2.2
  · rw [o _ _ (by omega)]; rfl
theorem zCpy_o {f : Nat → Int32} {I : Nat → Nat → Int32} {b q j n : Nat} {x : Int32} (hb : b < 40) (hq : 95 ≤ q) : zrow f (z_u I 82 2 x) (40 + b) n q j = I q j := by
  show (if q = 40 + b ∧ j < n then _ else z_u I 82 2 x q j) = _
  rw [if_neg (fun z => by omega), z_u_a _ _ (by omega)]
theorem sCpC_s {σ : zS} {a b p : Nat} : sCpC σ a b (p + 1) = if sSt σ a p = sSt σ b p then sCpC σ a b p else sCpC σ a b p + 1 := rfl
set_option maxHeartbeats 4000000 in
set_option maxRecDepth 100000 in
theorem kX5_add (lx : Launch) (hst : lx.stackTraces = false) (g : zG) (sa : Nat → Nat) (N : Nat) (I : Nat → Nat → Int32) (P : Nat → Nat → Option Nat) (J : Nat → Nat → Int64) {σ : zS} (hc : zCl σ I P) (x : Int32) : z_CtX lx yX5_add (zT yX5_add cX5_add 3 (Option.some FieldType.int)) ({ frames := 7, cells := 2, slots := 12, locals := 112 } : Room) g sa N I P J [.ref (g.1 80), .int x] (fun v I' P' J' => (∃ b, x = nI b ∧ b < 40 ∧ sEx σ b = true ∧ sGv σ < 40 ∧ v = some (.int (nI (sGv σ))) ∧ zCl (sAdd σ b) I' P') ∧ zKp I P J I' P' J') (zXp σ I P J (fun E => zc0 σ x E ∨ (E = zEn 1 ∧ sBx σ x ∧ sGv σ = 40))) 2 12 := by
  refine z_ofX (by decide) (Nat.le_of_ble_eq_true rfl) (lv0 := [(0, .ref (g.1 80)), (1, .int x)]) rfl ?_
  intro C hlx hC hE hRm hX
  have hC : zX C cX5_add 3 RX5 (zT yX5_add cX5_add 3 (Option.some FieldType.int)) g N := hC
  refine z_aload_n (pc := 0) hC 0 dX5_add_0 rfl rfl z_isr_r ?_
  refine z_iload_n (pc := 1) hC 1 dX5_add_1 rfl rfl ?_
  refine z_callVX (pc := 2) (st := []) hC hE hX [.int x] (kX5_existing C.2.1 (by rw [hlx]; exact hst) g sa N I P J hc.1 x) rfl (z_lt hC (by decide)) rfl zkX5_existing zm_2_199 ⟨rfl, rfl⟩ rfl rfl hRm ⟨Nat.le_of_ble_eq_true rfl, Nat.le_of_ble_eq_true rfl⟩ (Nat.le_of_ble_eq_true rfl) ⟨Nat.le_of_ble_eq_true rfl, Nat.le_of_ble_eq_true rfl⟩ ⟨by decide, by decide⟩ dX5_add_2 (fun E I' P' J' h => by obtain ⟨h1, hI', hP', hJ'⟩ := h; rw [hI', hP', hJ']; exact ⟨Or.inl h1, hc, zKp.rf⟩) ?_
  intro v I' P' J' hq
  obtain ⟨b, rfl, hb, heb, hv, hI', hP', hJ'⟩ := hq
  subst hv
  rw [hI', hP', hJ']
  show zJ C g N 3 1 6 I P J 5 [(0, .ref (g.1 80)), (1, .int (nI b))] [.ref (g.1 b)]
  refine z_astore_n (pc := 5) (lv' := [(2, .ref (g.1 b)), (0, .ref (g.1 80)), (1, .int (nI b))]) hC dX5_add_5 rfl (by decide) z_isr_r rfl ?_
  refine z_aload_n (pc := 6) hC 1 dX5_add_6 rfl rfl z_isr_r ?_
  refine z_gF (pc := 7) hC 5 0 (t := 81) rfl (z_lt hC (by decide)) rfl inX5 (by decide) rfl zm_1_213 rfl dX5_add_7 ?_
  refine z_cV (pc := 10) (st := []) hC [] (kX4_isFull C.2.1 g N I P J) rfl (z_lt hC (by decide)) rfl zkX4_isFull zm_3_32 ⟨rfl, rfl⟩ rfl rfl hRm ⟨Nat.le_of_ble_eq_true rfl, Nat.le_of_ble_eq_true rfl⟩ (Nat.le_of_ble_eq_true rfl) ⟨Nat.le_of_ble_eq_true rfl, Nat.le_of_ble_eq_true rfl⟩ dX5_add_10 ?_
  refine z_if_eq (pc := 13) (tgt := 26) hC dX5_add_13 (by decide) (fun h13 => ?_) (fun h13 => ?_)
  · skip
    have g13 := zB_f h13
    have hgv : sGv σ < 40 := zgv_lt hc.1 (of_decide_eq_false g13)
    refine z_aload_n (pc := 26) hC 1 dX5_add_26 rfl rfl z_isr_r ?_
    refine z_gF (pc := 27) hC 5 1 (t := 82) rfl (z_lt hC (by decide)) rfl inX5 (by decide) rfl zm_1_214 rfl dX5_add_27 ?_
    refine z_iconst (pc := 30) (v := 1) hC dX5_add_30 rfl ?_
    refine z_pI (pc := 31) hC 2 2 rfl (z_lt hC (by decide)) rfl inX2 tyX2_ok nmX2 (by decide) rfl zm_1_203 rfl (z_b01 (Or.inr rfl)) (z_f01 (Or.inr rfl)) dX5_add_31 ?_
    refine z_aload_n (pc := 34) hC 1 dX5_add_34 rfl rfl z_isr_r ?_
    refine z_gF (pc := 35) hC 5 0 (t := 81) rfl (z_lt hC (by decide)) rfl inX5 (by decide) rfl zm_1_213 rfl dX5_add_35 ?_
    refine z_aload_n (pc := 38) hC 0 dX5_add_38 rfl rfl z_isr_r ?_
    refine z_cV (pc := 39) (st := []) hC [.ref (g.1 b)] (kX4_append C.2.1 g N (z_u I 82 2 1) P J (sGv σ) b hgv hb ((z_u_a _ _ (by decide)).trans hc.1.2.2.2.2.2.2.2.1) ((z_u_a _ _ (show sGv σ ≠ 82 by omega)).trans (hc.1.2.1 _ hgv))) rfl (z_lt hC (by decide)) rfl zkX4_append zm_3_52 ⟨rfl, rfl⟩ rfl rfl hRm ⟨Nat.le_of_ble_eq_true rfl, Nat.le_of_ble_eq_true rfl⟩ (Nat.le_of_ble_eq_true rfl) ⟨Nat.le_of_ble_eq_true rfl, Nat.le_of_ble_eq_true rfl⟩ dX5_add_39 ?_
    exact z_iretX (pc := 42) hC hE ⟨by decide, by decide⟩ dX5_add_42 ⟨⟨b, rfl, hb, heb, hgv, rfl, zAdd_end hc hgv heb⟩, rfl, fun q j hq => zAdd_o hgv hq, fun q j hq => z_u_a _ _ (by omega)⟩
  · skip
    have g13 := zB_t h13
    exact z_throw (pc := 16) hC hE hX hRm (by rw [hlx]; exact hst) 1 1 (by decide) rfl (by decide +kernel) zm_3_36 zm_1_11 zat_1 znb_1 zgw_1 dX5_add_16 dX5_add_19 dX5_add_20 dX5_add_22 dX5_add_25 ⟨Nat.le_of_ble_eq_true rfl, Nat.le_of_ble_eq_true rfl, Nat.le_of_ble_eq_true rfl, Nat.le_of_ble_eq_true rfl⟩ ⟨by decide, by decide⟩ ⟨Or.inr ⟨rfl, ⟨b, rfl, hb, heb⟩, zgv_ge hc.1 (of_decide_eq_true g13)⟩, hc, zKp.rf⟩
set_option maxHeartbeats 4000000 in
set_option maxRecDepth 100000 in
theorem kX5_remove (lx : Launch) (hst : lx.stackTraces = false) (g : zG) (sa : Nat → Nat) (N : Nat) (I : Nat → Nat → Int32) (P : Nat → Nat → Option Nat) (J : Nat → Nat → Int64) {σ : zS} (hc : zCl σ I P) (x : Int32) : z_CtX lx yX5_remove (zT yX5_remove cX5_remove 3 (Option.some FieldType.int)) ({ frames := 7, cells := 2, slots := 12, locals := 112 } : Room) g sa N I P J [.ref (g.1 80), .int x] (fun v I' P' J' => (∃ b, x = nI b ∧ b < 40 ∧ sEx σ b = true ∧ b ≠ 0 ∧ v = some (.int (sCutC σ b 40)) ∧ zCl (sRem σ b) I' P') ∧ zKp I P J I' P' J') (zXp σ I P J (fun E => zc0 σ x E ∨ (E = zEn 2 ∧ x = 0))) 2 12 := by
  refine z_ofX (by decide) (Nat.le_of_ble_eq_true rfl) (lv0 := [(0, .ref (g.1 80)), (1, .int x)]) rfl ?_
  intro C hlx hC hE hRm hX
  have hC : zX C cX5_remove 3 RX5 (zT yX5_remove cX5_remove 3 (Option.some FieldType.int)) g N := hC
  refine z_aload_n (pc := 0) hC 0 dX5_remove_0 rfl rfl z_isr_r ?_
  refine z_iload_n (pc := 1) hC 1 dX5_remove_1 rfl rfl ?_
  refine z_callVX (pc := 2) (st := []) hC hE hX [.int x] (kX5_existing C.2.1 (by rw [hlx]; exact hst) g sa N I P J hc.1 x) rfl (z_lt hC (by decide)) rfl zkX5_existing zm_2_199 ⟨rfl, rfl⟩ rfl rfl hRm ⟨Nat.le_of_ble_eq_true rfl, Nat.le_of_ble_eq_true rfl⟩ (Nat.le_of_ble_eq_true rfl) ⟨Nat.le_of_ble_eq_true rfl, Nat.le_of_ble_eq_true rfl⟩ ⟨by decide, by decide⟩ dX5_remove_2 (fun E I' P' J' h => by obtain ⟨h1, hI', hP', hJ'⟩ := h; rw [hI', hP', hJ']; exact ⟨Or.inl h1, hc, zKp.rf⟩) ?_
  intro v I' P' J' hq
  obtain ⟨b, rfl, hb, heb, hv, hI', hP', hJ'⟩ := hq
  subst hv
  rw [hI', hP', hJ']
  show zJ C g N 3 1 6 I P J 5 [(0, .ref (g.1 80)), (1, .int (nI b))] [.ref (g.1 b)]
  refine z_astore_n (pc := 5) (lv' := [(2, .ref (g.1 b)), (0, .ref (g.1 80)), (1, .int (nI b))]) hC dX5_remove_5 rfl (by decide) z_isr_r rfl ?_
  refine z_aload_n (pc := 6) hC 0 dX5_remove_6 rfl rfl z_isr_r ?_
  refine z_cV (pc := 7) (st := []) hC [] (kX0_isRoot C.2.1 g N I P J b hb (P b 3) rfl) (z_shb hb) (z_ltb hC hb) rfl zkX0_isRoot zm_3_64 ⟨rfl, rfl⟩ rfl rfl hRm ⟨Nat.le_of_ble_eq_true rfl, Nat.le_of_ble_eq_true rfl⟩ (Nat.le_of_ble_eq_true rfl) ⟨Nat.le_of_ble_eq_true rfl, Nat.le_of_ble_eq_true rfl⟩ dX5_remove_7 ?_
  refine z_if_eq (pc := 10) (tgt := 23) hC dX5_remove_10 (by decide) (fun h10 => ?_) (fun h10 => ?_)
  · skip
    have g10 := zB_f h10
    rw [zTr_none hc.1 heb] at g10
    have h0 := of_decide_eq_false g10
    refine z_aload_n (pc := 23) hC 1 dX5_remove_23 rfl rfl z_isr_r ?_
    refine z_gF (pc := 24) hC 5 1 (t := 82) rfl (z_lt hC (by decide)) rfl inX5 (by decide) rfl zm_1_214 rfl dX5_remove_24 ?_
    refine z_iconst (pc := 27) (v := 1) hC dX5_remove_27 rfl ?_
    refine z_pI (pc := 28) hC 2 2 rfl (z_lt hC (by decide)) rfl inX2 tyX2_ok nmX2 (by decide) rfl zm_1_203 rfl (z_b01 (Or.inr rfl)) (z_f01 (Or.inr rfl)) dX5_remove_28 ?_
    refine z_aload_n (pc := 31) hC 1 dX5_remove_31 rfl rfl z_isr_r ?_
    refine z_gF (pc := 32) hC 5 0 (t := 81) rfl (z_lt hC (by decide)) rfl inX5 (by decide) rfl zm_1_213 rfl dX5_remove_32 ?_
    refine z_aload_n (pc := 35) hC 0 dX5_remove_35 rfl rfl z_isr_r ?_
    refine z_cV (pc := 36) (st := []) hC [.ref (g.1 b)] (kX4_cut C.2.1 g N (z_u I 82 2 1) P J σ (hc.1.lay (zLay.rf.u (zNK2 (by decide)))) b hb) rfl (z_lt hC (by decide)) rfl zkX4_cut zm_3_81 ⟨rfl, rfl⟩ rfl rfl hRm ⟨Nat.le_of_ble_eq_true rfl, Nat.le_of_ble_eq_true rfl⟩ (Nat.le_of_ble_eq_true rfl) ⟨Nat.le_of_ble_eq_true rfl, Nat.le_of_ble_eq_true rfl⟩ dX5_remove_36 ?_
    exact z_iretX (pc := 39) hC hE ⟨by decide, by decide⟩ dX5_remove_39 ⟨⟨b, rfl, hb, heb, h0, rfl, zRem_end hc h0⟩, rfl, fun q j hq => zRem_o hq, fun _ _ _ => rfl⟩
  · skip
    have g10 := zB_t h10
    rw [zTr_none hc.1 heb] at g10
    have h0 := of_decide_eq_true g10
    exact z_throw (pc := 13) hC hE hX hRm (by rw [hlx]; exact hst) 2 2 (by decide) rfl (by decide +kernel) zm_3_65 zm_1_12 zat_2 znb_2 zgw_2 dX5_remove_13 dX5_remove_16 dX5_remove_17 dX5_remove_19 dX5_remove_22 ⟨Nat.le_of_ble_eq_true rfl, Nat.le_of_ble_eq_true rfl, Nat.le_of_ble_eq_true rfl, Nat.le_of_ble_eq_true rfl⟩ ⟨by decide, by decide⟩ ⟨Or.inr ⟨rfl, by rw [h0]; rfl⟩, hc, zKp.rf⟩
set_option maxHeartbeats 4000000 in
set_option maxRecDepth 100000 in
theorem kX5_copyStyle (lx : Launch) (hst : lx.stackTraces = false) (g : zG) (sa : Nat → Nat) (N : Nat) (I : Nat → Nat → Int32) (P : Nat → Nat → Option Nat) (J : Nat → Nat → Int64) {σ : zS} (hc : zCl σ I P) (x y : Int32) : z_CtX lx yX5_copyStyle (zT yX5_copyStyle cX5_copyStyle 8 (Option.some FieldType.int)) ({ frames := 7, cells := 2, slots := 12, locals := 112 } : Room) g sa N I P J [.ref (g.1 80), .int x, .int y] (fun v I' P' J' => (∃ a b, x = nI a ∧ y = nI b ∧ a < 40 ∧ b < 40 ∧ sEx σ a = true ∧ sEx σ b = true ∧ v = some (.int (nI (sCpC σ a b 17))) ∧ zCl (sCpy σ a b) I' P') ∧ zKp I P J I' P' J') (zXp σ I P J (fun E => zc0 σ x E ∨ zc0 σ y E)) 2 12 := by
  refine z_ofX (by decide) (Nat.le_of_ble_eq_true rfl) (lv0 := [(0, .ref (g.1 80)), (1, .int x), (2, .int y)]) rfl ?_
  intro C hlx hC hE hRm hX
  have hC : zX C cX5_copyStyle 8 RX5 (zT yX5_copyStyle cX5_copyStyle 8 (Option.some FieldType.int)) g N := hC
  refine z_aload_n (pc := 0) hC 0 dX5_copyStyle_0 rfl rfl z_isr_r ?_
  refine z_iload_n (pc := 1) hC 1 dX5_copyStyle_1 rfl rfl ?_
  refine z_callVX (pc := 2) (st := []) hC hE hX [.int x] (kX5_existing C.2.1 (by rw [hlx]; exact hst) g sa N I P J hc.1 x) rfl (z_lt hC (by decide)) rfl zkX5_existing zm_2_199 ⟨rfl, rfl⟩ rfl rfl hRm ⟨Nat.le_of_ble_eq_true rfl, Nat.le_of_ble_eq_true rfl⟩ (Nat.le_of_ble_eq_true rfl) ⟨Nat.le_of_ble_eq_true rfl, Nat.le_of_ble_eq_true rfl⟩ ⟨by decide, by decide⟩ dX5_copyStyle_2 (fun E I' P' J' h => by obtain ⟨h1, hI', hP', hJ'⟩ := h; rw [hI', hP', hJ']; exact ⟨Or.inl h1, hc, zKp.rf⟩) ?_
  intro v I' P' J' hq
  obtain ⟨a, rfl, ha, hea, hv, hI', hP', hJ'⟩ := hq
  subst hv
  rw [hI', hP', hJ']
  show zJ C g N 8 1 6 I P J 5 [(0, .ref (g.1 80)), (1, .int (nI a)), (2, .int y)] [.ref (g.1 a)]
  refine z_astore_n (pc := 5) (lv' := [(3, .ref (g.1 a)), (0, .ref (g.1 80)), (1, .int (nI a)), (2, .int y)]) hC dX5_copyStyle_5 rfl (by decide) z_isr_r rfl ?_
  refine z_aload_n (pc := 6) hC 1 dX5_copyStyle_6 rfl rfl z_isr_r ?_
  refine z_iload_n (pc := 7) hC 3 dX5_copyStyle_7 rfl rfl ?_
  refine z_callVX (pc := 8) (st := []) hC hE hX [.int y] (kX5_existing C.2.1 (by rw [hlx]; exact hst) g sa N I P J hc.1 y) rfl (z_lt hC (by decide)) rfl zkX5_existing zm_2_199 ⟨rfl, rfl⟩ rfl rfl hRm ⟨Nat.le_of_ble_eq_true rfl, Nat.le_of_ble_eq_true rfl⟩ (Nat.le_of_ble_eq_true rfl) ⟨Nat.le_of_ble_eq_true rfl, Nat.le_of_ble_eq_true rfl⟩ ⟨by decide, by decide⟩ dX5_copyStyle_8 (fun E I' P' J' h => by obtain ⟨h1, hI', hP', hJ'⟩ := h; rw [hI', hP', hJ']; exact ⟨Or.inr h1, hc, zKp.rf⟩) ?_
  intro v I' P' J' hq
  obtain ⟨b, rfl, hb, heb, hv, hI', hP', hJ'⟩ := hq
  subst hv
  rw [hI', hP', hJ']
  show zJ C g N 8 2 12 I P J 11 [(3, .ref (g.1 a)), (0, .ref (g.1 80)), (1, .int (nI a)), (2, .int (nI b))] [.ref (g.1 b)]
  refine z_astore (pc := 11) (lv' := [(4, .ref (g.1 b)), (3, .ref (g.1 a)), (0, .ref (g.1 80)), (1, .int (nI a)), (2, .int (nI b))]) hC dX5_copyStyle_11 (by decide) z_isr_r rfl ?_
  refine z_aload_n (pc := 13) hC 2 dX5_copyStyle_13 rfl rfl z_isr_r ?_
  refine z_gF (pc := 14) hC 5 1 (t := 82) rfl (z_lt hC (by decide)) rfl inX5 (by decide) rfl zm_1_214 rfl dX5_copyStyle_14 ?_
  refine z_iconst (pc := 17) (v := 1) hC dX5_copyStyle_17 rfl ?_
  refine z_pI (pc := 18) hC 2 2 rfl (z_lt hC (by decide)) rfl inX2 tyX2_ok nmX2 (by decide) rfl zm_1_203 rfl (z_b01 (Or.inr rfl)) (z_f01 (Or.inr rfl)) dX5_copyStyle_18 ?_
  refine z_iconst (pc := 21) (v := 0) hC dX5_copyStyle_21 rfl ?_
  refine z_istore (pc := 22) (lv' := [(5, .int 0), (4, .ref (g.1 b)), (3, .ref (g.1 a)), (0, .ref (g.1 80)), (1, .int (nI a)), (2, .int (nI b))]) hC dX5_copyStyle_22 (by decide) rfl ?_
  refine z_iconst (pc := 24) (v := 0) hC dX5_copyStyle_24 rfl ?_
  refine z_istore (pc := 25) (lv' := [(6, .int 0), (5, .int 0), (4, .ref (g.1 b)), (3, .ref (g.1 a)), (0, .ref (g.1 80)), (1, .int (nI a)), (2, .int (nI b))]) hC dX5_copyStyle_25 (by decide) rfl ?_
  have L27 : ∀ (zf : Nat) (p : Nat) (hp : p ≤ 20), 20 - p < zf → zJ C g N 8 2 12 (zrow (sSt σ a) (z_u I 82 2 1) (40 + b) (min p 17)) P J 27 [(6, .int (nI p)), (5, .int (nI (sCpC σ a b (min p 17)))), (4, .ref (g.1 b)), (3, .ref (g.1 a)), (0, .ref (g.1 80)), (1, .int (nI a)), (2, .int (nI b))] [] := by
    intro zf
    induction zf with
    | zero =>
      intro p hp hn2
      exact absurd hn2 (Nat.not_lt_zero _)
    | succ zf ih =>
      intro p hp hn2
      refine z_iload (pc := 27) hC 0 dX5_copyStyle_27 rfl ?_
      refine z_bipush (pc := 29) (v := 20) hC dX5_copyStyle_29 rfl ?_
      refine z_icmp_ge (pc := 31) (tgt := 86) hC dX5_copyStyle_31 (by decide) (fun h31 => ?_) (fun h31 => ?_)
      · skip
        have g31 := Int32.not_lt.mpr h31
        have ep : p = 20 := Nat.le_antisymm hp (zc_ge (n := 20) h31 (by omega) (by decide))
        subst ep
        rw [show min 20 17 = 17 from rfl]
        refine z_iload (pc := 86) hC 1 dX5_copyStyle_86 rfl ?_
        exact z_iretX (pc := 88) hC hE ⟨by decide, by decide⟩ dX5_copyStyle_88 ⟨⟨a, b, rfl, rfl, ha, hb, hea, heb, rfl, zCpy_end hc hea heb⟩, rfl, fun q j hq => zCpy_o hb hq, fun _ _ _ => rfl⟩
      · skip
        have g31 := Int32.not_le.mp h31
        have hp20 : p < 20 := zc_lt (n := 20) h31 (by omega) (by decide)
        refine z_iload (pc := 34) hC 0 dX5_copyStyle_34 rfl ?_
        refine z_bipush (pc := 36) (v := 17) hC dX5_copyStyle_36 rfl ?_
        refine z_icmp_eq (pc := 38) (tgt := 80) hC dX5_copyStyle_38 (by decide) (fun h38 => ?_) (fun h38 => ?_)
        · skip
          have ep : p = 17 := (nI_eq (a := p) (b := 17) (by omega) (by decide)).mp h38
          refine z_iinc (pc := 80) (v := nI (p + 1)) (lv' := [(6, .int (nI (p + 1))), (5, .int (nI (sCpC σ a b (min p 17)))), (4, .ref (g.1 b)), (3, .ref (g.1 a)), (0, .ref (g.1 80)), (1, .int (nI a)), (2, .int (nI b))]) hC 0 dX5_copyStyle_80 rfl (nI_1 p) (by decide) rfl ?_
          refine z_goto (pc := 83) (tgt := 27) hC dX5_copyStyle_83 (by decide) ?_
          have K := ih (p + 1) (by omega) (by omega)
          rw [show min (p + 1) 17 = min p 17 by omega] at K
          exact K
        · skip
          have np17 : p ≠ 17 := fun e => h38 (by rw [e]; rfl)
          refine z_iload (pc := 41) hC 0 dX5_copyStyle_41 rfl ?_
          refine z_bipush (pc := 43) (v := 18) hC dX5_copyStyle_43 rfl ?_
          refine z_icmp_eq (pc := 45) (tgt := 80) hC dX5_copyStyle_45 (by decide) (fun h45 => ?_) (fun h45 => ?_)
          · skip
            have ep : p = 18 := (nI_eq (a := p) (b := 18) (by omega) (by decide)).mp h45
            refine z_iinc (pc := 80) (v := nI (p + 1)) (lv' := [(6, .int (nI (p + 1))), (5, .int (nI (sCpC σ a b (min p 17)))), (4, .ref (g.1 b)), (3, .ref (g.1 a)), (0, .ref (g.1 80)), (1, .int (nI a)), (2, .int (nI b))]) hC 0 dX5_copyStyle_80 rfl (nI_1 p) (by decide) rfl ?_
            refine z_goto (pc := 83) (tgt := 27) hC dX5_copyStyle_83 (by decide) ?_
            have K := ih (p + 1) (by omega) (by omega)
            rw [show min (p + 1) 17 = min p 17 by omega] at K
            exact K
          · skip
            have np18 : p ≠ 18 := fun e => h45 (by rw [e]; rfl)
            refine z_iload (pc := 48) hC 0 dX5_copyStyle_48 rfl ?_
            refine z_bipush (pc := 50) (v := 19) hC dX5_copyStyle_50 rfl ?_
            refine z_icmp_eq (pc := 52) (tgt := 80) hC dX5_copyStyle_52 (by decide) (fun h52 => ?_) (fun h52 => ?_)
            · skip
              have ep : p = 19 := (nI_eq (a := p) (b := 19) (by omega) (by decide)).mp h52
              refine z_iinc (pc := 80) (v := nI (p + 1)) (lv' := [(6, .int (nI (p + 1))), (5, .int (nI (sCpC σ a b (min p 17)))), (4, .ref (g.1 b)), (3, .ref (g.1 a)), (0, .ref (g.1 80)), (1, .int (nI a)), (2, .int (nI b))]) hC 0 dX5_copyStyle_80 rfl (nI_1 p) (by decide) rfl ?_
              refine z_goto (pc := 83) (tgt := 27) hC dX5_copyStyle_83 (by decide) ?_
              have K := ih (p + 1) (by omega) (by omega)
              rw [show min (p + 1) 17 = min p 17 by omega] at K
              exact K
            · skip
              have np19 : p ≠ 19 := fun e => h52 (by rw [e]; rfl)
              have hp17 : p < 17 := by omega
              rw [show min p 17 = p by omega]
              refine z_aload_n (pc := 55) hC 3 dX5_copyStyle_55 rfl rfl z_isr_r ?_
              refine z_iload (pc := 56) hC 0 dX5_copyStyle_56 rfl ?_
              refine z_cV (pc := 58) (st := []) hC [.int (nI p)] (kX0_of C.2.1 g N (zrow (sSt σ a) (z_u I 82 2 1) (40 + b) p) P J a p ha (by omega) (nI p) rfl (sSt σ a p) ((if_neg (fun z => Nat.lt_irrefl _ z.2)).trans ((z_u_a _ _ (show 40 + a ≠ 82 by omega)).trans (zTr_st hc.1 hea (by omega))))) (z_shb ha) (z_ltb hC ha) rfl zkX0_of zm_3_131 ⟨rfl, rfl⟩ rfl rfl hRm ⟨Nat.le_of_ble_eq_true rfl, Nat.le_of_ble_eq_true rfl⟩ (Nat.le_of_ble_eq_true rfl) ⟨Nat.le_of_ble_eq_true rfl, Nat.le_of_ble_eq_true rfl⟩ dX5_copyStyle_58 ?_
              refine z_istore (pc := 61) (lv' := [(7, .int (sSt σ a p)), (6, .int (nI p)), (5, .int (nI (sCpC σ a b p))), (4, .ref (g.1 b)), (3, .ref (g.1 a)), (0, .ref (g.1 80)), (1, .int (nI a)), (2, .int (nI b))]) hC dX5_copyStyle_61 (by decide) rfl ?_
              refine z_aload (pc := 63) hC 3 dX5_copyStyle_63 rfl z_isr_r ?_
              refine z_iload (pc := 65) hC 1 dX5_copyStyle_65 rfl ?_
              refine z_iload (pc := 67) hC 0 dX5_copyStyle_67 rfl ?_
              refine z_cV (pc := 69) (st := []) hC [.int (nI p), .int (sSt σ a p)] (kX0_change C.2.1 g N (zrow (sSt σ a) (z_u I 82 2 1) (40 + b) p) P J b p hb (by omega) (nI p) (sSt σ a p) rfl) (z_shb hb) (z_ltb hC hb) rfl zkX0_change zm_3_119 ⟨rfl, rfl⟩ rfl rfl hRm ⟨Nat.le_of_ble_eq_true rfl, Nat.le_of_ble_eq_true rfl⟩ (Nat.le_of_ble_eq_true rfl) ⟨Nat.le_of_ble_eq_true rfl, Nat.le_of_ble_eq_true rfl⟩ dX5_copyStyle_69 ?_
              rw [show (zrow (sSt σ a) (z_u I 82 2 1) (40 + b) p) (40 + b) p = sSt σ b p from (if_neg (fun z => Nat.lt_irrefl _ z.2)).trans ((z_u_a _ _ (show 40 + b ≠ 82 by omega)).trans (zTr_st hc.1 heb (by omega)))]
              refine z_iload (pc := 72) hC 0 dX5_copyStyle_72 rfl ?_
              refine z_icmp_eq (pc := 74) (tgt := 80) hC dX5_copyStyle_74 (by decide) (fun h74 => ?_) (fun h74 => ?_)
              · skip
                refine z_iinc (pc := 80) (v := nI (p + 1)) (lv' := [(6, .int (nI (p + 1))), (7, .int (sSt σ a p)), (5, .int (nI (sCpC σ a b p))), (4, .ref (g.1 b)), (3, .ref (g.1 a)), (0, .ref (g.1 80)), (1, .int (nI a)), (2, .int (nI b))]) hC 1 dX5_copyStyle_80 rfl (nI_1 p) (by decide) rfl ?_
                refine z_goto (pc := 83) (tgt := 27) hC dX5_copyStyle_83 (by decide) ?_
                refine z_lvs (lv' := [(6, .int (nI (p + 1))), (5, .int (nI (sCpC σ a b p))), (4, .ref (g.1 b)), (3, .ref (g.1 a)), (0, .ref (g.1 80)), (1, .int (nI a)), (2, .int (nI b))]) [0, 2, 3, 4, 5, 6, 7] rfl ?_
                have K := ih (p + 1) (by omega) (by omega)
                rw [show min (p + 1) 17 = p + 1 by omega, ← zrow_s, sCpC_s, if_pos h74.symm] at K
                exact K
              · skip
                refine z_iinc (pc := 77) (v := nI (sCpC σ a b p + 1)) (lv' := [(5, .int (nI (sCpC σ a b p + 1))), (7, .int (sSt σ a p)), (6, .int (nI p)), (4, .ref (g.1 b)), (3, .ref (g.1 a)), (0, .ref (g.1 80)), (1, .int (nI a)), (2, .int (nI b))]) hC 2 dX5_copyStyle_77 rfl (nI_1 _) (by decide) rfl ?_
                refine z_iinc (pc := 80) (v := nI (p + 1)) (lv' := [(6, .int (nI (p + 1))), (5, .int (nI (sCpC σ a b p + 1))), (7, .int (sSt σ a p)), (4, .ref (g.1 b)), (3, .ref (g.1 a)), (0, .ref (g.1 80)), (1, .int (nI a)), (2, .int (nI b))]) hC 2 dX5_copyStyle_80 rfl (nI_1 p) (by decide) rfl ?_
                refine z_goto (pc := 83) (tgt := 27) hC dX5_copyStyle_83 (by decide) ?_
                refine z_lvs (lv' := [(6, .int (nI (p + 1))), (5, .int (nI (sCpC σ a b p + 1))), (4, .ref (g.1 b)), (3, .ref (g.1 a)), (0, .ref (g.1 80)), (1, .int (nI a)), (2, .int (nI b))]) [0, 1, 3, 4, 5, 6, 7] rfl ?_
                have K := ih (p + 1) (by omega) (by omega)
                rw [show min (p + 1) 17 = p + 1 by omega, ← zrow_s, sCpC_s, if_neg (fun e => h74 e.symm)] at K
                exact K
  have L0 := L27 21 0 (by decide) (by decide)
  rw [show min 0 17 = 0 from rfl, zrow_0] at L0
  exact L0
end ZF3
