section ZF3
theorem zgv_lt {σ : zS} {I : Nat → Nat → Int32} {P : Nat → Nat → Option Nat} (h : zTr σ I P) (q : ¬ 40 ≤ I 81 2) : sGv σ < 40 := by
  have h3 := h.1.2.2.1
  rw [h.2.2.2.2.2.2.2.1] at q
  rcases Nat.lt_or_ge (sGv σ) 40 with e | e
  · exact e
  · exact absurd ((zi_le _ _).mpr (by rw [nI_toInt (by omega)]; show (40 : Int) ≤ _; omega)) q
theorem zgv_ge {σ : zS} {I : Nat → Nat → Int32} {P : Nat → Nat → Option Nat} (h : zTr σ I P) (q : 40 ≤ I 81 2) : sGv σ = 40 := by
  have h3 := h.1.2.2.1
  rw [h.2.2.2.2.2.2.2.1, zi_le, nI_toInt (by omega)] at q
  have e : (40 : Int32).toInt = 40 := rfl
  omega
theorem zAdd_o {I : Nat → Nat → Int32} {gv q j : Nat} {x y : Int32} (hg : gv < 40) (hq : 95 ≤ q) : z_u (zrow (z_st 2) (z_u (z_u I 82 2 x) gv 2 1) (40 + gv) 20) 81 2 y q j = I q j := by
  rw [z_u_a _ _ (by omega)]
  show (if q = 40 + gv ∧ j < 20 then _ else z_u (z_u I 82 2 x) gv 2 1 q j) = _
  rw [if_neg (fun z => by omega), z_u_a _ _ (by omega), z_u_a _ _ (by omega)]
theorem zAdd_end {σ : zS} {I : Nat → Nat → Int32} {P : Nat → Nat → Option Nat} (hc : zCl σ I P) (hg : sGv σ < 40) {b : Nat} (he : sEx σ b = true) : zCl (sAdd σ b) (z_u (zrow (z_st 2) (z_u (z_u I 82 2 1) (sGv σ) 2 1) (40 + sGv σ) 20) 81 2 ((z_u I 82 2 1) 81 2 + 1)) (z_u P (sGv σ) 3 (some b)) := by
  have ht : zTr σ (z_u I 82 2 1) P := hc.1.lay (zLay.rf.u (zNK2 (by decide)))
  have o : ∀ q j, q ≠ 81 → q ≠ 40 + sGv σ → ¬ (q = sGv σ ∧ j = 2) → q ≠ 82 → z_u (zrow (z_st 2) (z_u (z_u I 82 2 1) (sGv σ) 2 1) (40 + sGv σ) 20) 81 2 ((z_u I 82 2 1) 81 2 + 1) q j = I q j := fun q j h1 h2 h3 h4 => by
    rw [z_u_a _ _ h1]
    show (if q = 40 + sGv σ ∧ j < 20 then _ else z_u (z_u I 82 2 1) (sGv σ) 2 1 q j) = _
    rw [if_neg (fun z => h2 z.1), z_u_r2 _ h3, z_u_a _ _ h4]
  refine zCl_st (zTr_add ht he hg) ⟨?_, ?_, ?_⟩ ?_
  · rw [o 0 12 (by decide) (by omega) (by omega) (by decide)]; exact hc.2.1.1
  · rw [o 0 13 (by decide) (by omega) (by omega) (by decide)]; exact hc.2.1.2.1
  · rw [o 0 17 (by decide) (by omega) (by omega) (by decide)]; exact hc.2.1.2.2
  · rw [z_u_a _ _ (by decide)]
    show (if 82 = 40 + sGv σ ∧ 2 < 20 then _ else z_u (z_u I 82 2 1) (sGv σ) 2 1 82 2) = _
    rw [if_neg (fun z => by omega), z_u_a _ _ (by omega), z_u_s]
theorem zRem_end {σ : zS} {I : Nat → Nat → Int32} {P : Nat → Nat → Option Nat} (hc : zCl σ I P) {b : Nat} (h0 : b ≠ 0) : zCl (sRem σ b) (zex (z_u I 82 2 1) (sCut σ b 40)) P := by
  have ht : zTr σ (z_u I 82 2 1) P := hc.1.lay (zLay.rf.u (zNK2 (by decide)))
  refine zCl_st (zTr_cut ht h0) ⟨?_, ?_, ?_⟩ ?_
  · rw [zex_k _ _ (by decide)]; exact hc.2.1.1
  · rw [zex_k _ _ (by decide)]; exact hc.2.1.2.1
  · rw [zex_k _ _ (by decide)]; exact hc.2.1.2.2
  · unfold zex
    rw [if_neg (by decide)]
    rfl
theorem zRem_o {I : Nat → Nat → Int32} {f : Nat → Bool} {q j : Nat} {x : Int32} (hq : 95 ≤ q) : zex (z_u I 82 2 x) f q j = I q j := by
  unfold zex
  rw [if_neg (by omega), z_u_a _ _ (by omega)]
theorem zCpy_end {σ : zS} {I : Nat → Nat → Int32} {P : Nat → Nat → Option Nat} (hc : zCl σ I P) {a b : Nat} (ha : sEx σ a = true) (hb : sEx σ b = true) : zCl (sCpy σ a b) (zrow (sSt σ a) (z_u I 82 2 1) (40 + b) 17) P := by
  have hb4 := zTr_lt hc.1 hb
  have ht : zTr σ (z_u I 82 2 1) P := hc.1.lay (zLay.rf.u (zNK2 (by decide)))
  have o : ∀ q j, q ≠ 40 + b → zrow (sSt σ a) (z_u I 82 2 1) (40 + b) 17 q j = z_u I 82 2 1 q j := fun q j hq => if_neg (fun z => hq z.1)
  refine zCl_st (zTr_cpy ht ha hb) ⟨?_, ?_, ?_⟩ ?_
  · rw [o _ _ (by omega)]; exact hc.2.1.1
  · rw [o _ _ (by omega)]; exact hc.2.1.2.1
  · rw [o _ _ (by omega)]; exact hc.2.1.2.2
  · rw [o _ _ (by omega)]; rfl
theorem zCpy_o {f : Nat → Int32} {I : Nat → Nat → Int32} {b q j n : Nat} {x : Int32} (hb : b < 40) (hq : 95 ≤ q) : zrow f (z_u I 82 2 x) (40 + b) n q j = I q j := by
  show (if q = 40 + b ∧ j < n then _ else z_u I 82 2 x q j) = _
  rw [if_neg (fun z => by omega), z_u_a _ _ (by omega)]
theorem sCpC_s {σ : zS} {a b p : Nat} : sCpC σ a b (p + 1) = if sSt σ a p = sSt σ b p then sCpC σ a b p else sCpC σ a b p + 1 := rfl
set_option maxHeartbeats 4000000 in
set_option maxRecDepth 100000 in
theorem kX5_add (lx : Launch) (hst : lx.stackTraces = false) (g : zG) (sa : Nat → Nat) (N : Nat) (I : Nat → Nat → Int32) (P : Nat → Nat → Option Nat) (J : Nat → Nat → Int64) {σ : zS} (hc : zCl σ I P) (x : Int32) : z_CtX lx yX5_add (zT yX5_add cX5_add 3 (Option.some FieldType.int)) ({ frames := 7, cells := 2, slots := 12, locals := 112 } : Room) g sa N I P J [.ref (g.1 80), .int x] (fun v I' P' J' => (∃ b, x = nI b ∧ b < 40 ∧ sEx σ b = true ∧ sGv σ < 40 ∧ v = some (.int (nI (sGv σ))) ∧ zCl (sAdd σ b) I' P') ∧ zKp I P J I' P' J') (zXp σ I P J (fun E => zc0 σ x E ∨ (E = zEn 1 ∧ sBx σ x ∧ sGv σ = 40))) 2 12 := by
  refine z_ofX (by decide) (Nat.le_of_ble_eq_true rfl) (lv0 := [(0, .ref (g.1 80)), (1, .int x)]) rfl ?_
  intro C hlx hC hE hRm hX
  have hC : zX C cX5_add 3 RX5 (zT yX5_add cX5_add 3 (Option.some FieldType.int)) g N := hC
  refine z_aload_n (pc := 0) hC 0 dX5_add_0 rfl rfl z_isr_r ?_
  refine z_iload_n (pc := 1) hC 1 dX5_add_1 rfl rfl ?_
  refine z_callVX (pc := 2) (st := []) hC hE hX [.int x] (kX5_existing C.2.1 (by rw [hlx]; exact hst) g sa N I P J hc.1 x) rfl (z_lt hC (by decide)) rfl zkX5_existing zm_1_221 ⟨rfl, rfl⟩ rfl rfl hRm ⟨Nat.le_of_ble_eq_true rfl, Nat.le_of_ble_eq_true rfl⟩ (Nat.le_of_ble_eq_true rfl) ⟨Nat.le_of_ble_eq_true rfl, Nat.le_of_ble_eq_true rfl⟩ ⟨by decide, by decide⟩ dX5_add_2 (fun E I' P' J' h => by obtain ⟨h1, hI', hP', hJ'⟩ := h; rw [hI', hP', hJ']; exact ⟨Or.inl h1, hc, zKp.rf⟩) ?_
  intro v I' P' J' hq
  obtain ⟨b, rfl, hb, heb, hv, hI', hP', hJ'⟩ := hq
  subst hv
  rw [hI', hP', hJ']
  show zJ C g N 3 1 6 I P J 5 [(0, .ref (g.1 80)), (1, .int (nI b))] [.ref (g.1 b)]
  refine z_astore_n (pc := 5) (lv' := [(2, .ref (g.1 b)), (0, .ref (g.1 80)), (1, .int (nI b))]) hC dX5_add_5 rfl (by decide) z_isr_r rfl ?_
  refine z_aload_n (pc := 6) hC 1 dX5_add_6 rfl rfl z_isr_r ?_
  refine z_gF (pc := 7) hC 5 0 (t := 81) rfl (z_lt hC (by decide)) rfl inX5 (by decide) rfl zm_1_207 rfl dX5_add_7 ?_
  refine z_cV (pc := 10) (st := []) hC [] (kX4_isFull C.2.1 g N I P J) rfl (z_lt hC (by decide)) rfl zkX4_isFull zm_2_57 ⟨rfl, rfl⟩ rfl rfl hRm ⟨Nat.le_of_ble_eq_true rfl, Nat.le_of_ble_eq_true rfl⟩ (Nat.le_of_ble_eq_true rfl) ⟨Nat.le_of_ble_eq_true rfl, Nat.le_of_ble_eq_true rfl⟩ dX5_add_10 ?_
  refine z_if_eq (pc := 13) (tgt := 26) hC dX5_add_13 (by decide) (fun h13 => ?_) (fun h13 => ?_)
  · skip
    have g13 := zB_f h13
    have hgv : sGv σ < 40 := zgv_lt hc.1 (of_decide_eq_false g13)
    refine z_aload_n (pc := 26) hC 1 dX5_add_26 rfl rfl z_isr_r ?_
    refine z_gF (pc := 27) hC 5 1 (t := 82) rfl (z_lt hC (by decide)) rfl inX5 (by decide) rfl zm_1_208 rfl dX5_add_27 ?_
    refine z_iconst (pc := 30) (v := 1) hC dX5_add_30 rfl ?_
    refine z_pI (pc := 31) hC 2 2 rfl (z_lt hC (by decide)) rfl inX2 tyX2_ok nmX2 (by decide) rfl zm_1_197 rfl (z_b01 (Or.inr rfl)) (z_f01 (Or.inr rfl)) dX5_add_31 ?_
    refine z_aload_n (pc := 34) hC 1 dX5_add_34 rfl rfl z_isr_r ?_
    refine z_gF (pc := 35) hC 5 0 (t := 81) rfl (z_lt hC (by decide)) rfl inX5 (by decide) rfl zm_1_207 rfl dX5_add_35 ?_
    refine z_aload_n (pc := 38) hC 0 dX5_add_38 rfl rfl z_isr_r ?_
    refine z_cV (pc := 39) (st := []) hC [.ref (g.1 b)] (kX4_append C.2.1 g N (z_u I 82 2 1) P J (sGv σ) b hgv hb ((z_u_a _ _ (by decide)).trans hc.1.2.2.2.2.2.2.2.1) ((z_u_a _ _ (show sGv σ ≠ 82 by omega)).trans (hc.1.2.1 _ hgv))) rfl (z_lt hC (by decide)) rfl zkX4_append zm_2_77 ⟨rfl, rfl⟩ rfl rfl hRm ⟨Nat.le_of_ble_eq_true rfl, Nat.le_of_ble_eq_true rfl⟩ (Nat.le_of_ble_eq_true rfl) ⟨Nat.le_of_ble_eq_true rfl, Nat.le_of_ble_eq_true rfl⟩ dX5_add_39 ?_
    exact z_iretX (pc := 42) hC hE ⟨by decide, by decide⟩ dX5_add_42 ⟨⟨b, rfl, hb, heb, hgv, rfl, zAdd_end hc hgv heb⟩, rfl, fun q j hq => zAdd_o hgv hq, fun q j hq => z_u_a _ _ (by omega)⟩
  · skip
    have g13 := zB_t h13
    exact z_throw (pc := 16) hC hE hX hRm (by rw [hlx]; exact hst) 1 1 (by decide) rfl (by decide +kernel) zm_2_61 zm_1_11 zat_1 znb_1 zgw_1 dX5_add_16 dX5_add_19 dX5_add_20 dX5_add_22 dX5_add_25 ⟨Nat.le_of_ble_eq_true rfl, Nat.le_of_ble_eq_true rfl, Nat.le_of_ble_eq_true rfl, Nat.le_of_ble_eq_true rfl⟩ ⟨by decide, by decide⟩ ⟨Or.inr ⟨rfl, ⟨b, rfl, hb, heb⟩, zgv_ge hc.1 (of_decide_eq_true g13)⟩, hc, zKp.rf⟩
end ZF3
