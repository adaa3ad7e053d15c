section ZM4
set_option maxHeartbeats 4000000 in
set_option maxRecDepth 100000 in
theorem kX6_make (lx : Launch) (g : zG) (N : Nat) (I : Nat → Nat → Int32) (P : Nat → Nat → Option Nat) (J : Nat → Nat → Int64) (gv : Nat) (hg : gv < 40) (h0 : I 96 0 = nI gv) (v : Int32) : z_Ct lx yX6_make (zT yX6_make cX6_make 4 (Option.some FieldType.int)) ({ frames := 1, cells := 0, slots := 0, locals := 20 } : Room) g N I P J [.ref (g.1 95), .int v] (zMu (some (.int (nI gv))) (z_u (zmr (z_st 2) (z_u I 96 (3 + gv) v) (43 + 20 * gv) 20) 96 0 (nI gv + 1)) P J) 0 0 := by
  refine z_of (by decide) (Nat.le_of_ble_eq_true rfl) (lv0 := [(0, .ref (g.1 95)), (1, .int v)]) rfl ?_
  intro C hlx hC hE hRm
  have hC : zX C cX6_make 4 RX6 (zT yX6_make cX6_make 4 (Option.some FieldType.int)) g N := hC
  refine z_aload_n (pc := 0) hC 0 dX6_make_0 rfl rfl z_isr_r ?_
  refine z_gF (pc := 1) hC 6 0 (t := 96) rfl (z_lt hC (by decide)) rfl inX6 (by decide) rfl zm_4_73 rfl dX6_make_1 ?_
  refine z_iconst (pc := 4) (v := 0) hC dX6_make_4 rfl ?_
  refine z_iaN (pc := 5) hC 0 (x := nI gv) rfl (z_lt hC (by decide)) rfl (by decide) (by decide) h0 dX6_make_5 ?_
  refine z_istore_n (pc := 6) (lv' := [(2, .int (nI gv)), (0, .ref (g.1 95)), (1, .int v)]) hC dX6_make_6 rfl (by decide) rfl ?_
  refine z_aload_n (pc := 7) hC 1 dX6_make_7 rfl rfl z_isr_r ?_
  refine z_gF (pc := 8) hC 6 0 (t := 96) rfl (z_lt hC (by decide)) rfl inX6 (by decide) rfl zm_4_73 rfl dX6_make_8 ?_
  refine z_iconst (pc := 11) (v := 3) hC dX6_make_11 rfl ?_
  refine z_iload_n (pc := 12) hC 0 dX6_make_12 rfl rfl ?_
  refine z_iadd (pc := 13) hC dX6_make_13 ?_
  refine z_iload_n (pc := 14) hC 2 dX6_make_14 rfl rfl ?_
  refine z_isN (pc := 15) hC (3 + gv) rfl (z_lt hC (by decide)) (zix3 gv) (by omega) (by decide) dX6_make_15 ?_
  refine z_iconst (pc := 16) (v := 0) hC dX6_make_16 rfl ?_
  refine z_istore_n (pc := 17) (lv' := [(3, .int 0), (2, .int (nI gv)), (0, .ref (g.1 95)), (1, .int v)]) hC dX6_make_17 rfl (by decide) rfl ?_
  have L18 : ∀ (zf : Nat) (p : Nat) (hp : p ≤ 20), 20 - p < zf → zJ C g N 4 0 0 (zmr (z_st 2) (z_u I 96 (3 + gv) v) (43 + 20 * gv) p) P J 18 [(3, .int (nI p)), (2, .int (nI gv)), (0, .ref (g.1 95)), (1, .int v)] [] := by
    intro zf
    induction zf with
    | zero =>
      intro p hp hn2
      exact absurd hn2 (Nat.not_lt_zero _)
    | succ zf ih =>
      intro p hp hn2
      refine z_iload_n (pc := 18) hC 0 dX6_make_18 rfl rfl ?_
      refine z_bipush (pc := 19) (v := 20) hC dX6_make_19 rfl ?_
      refine z_icmp_ge (pc := 21) (tgt := 48) hC dX6_make_21 (by decide) (fun h21 => ?_) (fun h21 => ?_)
      · skip
        have g21 := Int32.not_lt.mpr h21
        have ep : p = 20 := Nat.le_antisymm hp (zc_ge (n := 20) h21 (by omega) (by decide))
        subst ep
        refine z_aload_n (pc := 48) hC 2 dX6_make_48 rfl rfl z_isr_r ?_
        refine z_gF (pc := 49) hC 6 0 (t := 96) rfl (z_lt hC (by decide)) rfl inX6 (by decide) rfl zm_4_73 rfl dX6_make_49 ?_
        refine z_iconst (pc := 52) (v := 0) hC dX6_make_52 rfl ?_
        refine z_dup2 (pc := 53) hC dX6_make_53 rfl rfl ?_
        refine z_iaN (pc := 54) hC 0 (x := nI gv) rfl (z_lt hC (by decide)) rfl (by decide) (by decide) ((zmr_o _ _ (by omega)).trans ((z_u_b _ _ (by omega)).trans h0)) dX6_make_54 ?_
        refine z_iconst (pc := 55) (v := 1) hC dX6_make_55 rfl ?_
        refine z_iadd (pc := 56) hC dX6_make_56 ?_
        refine z_isN (pc := 57) hC 0 rfl (z_lt hC (by decide)) rfl (by decide) (by decide) dX6_make_57 ?_
        refine z_iload_n (pc := 58) hC 1 dX6_make_58 rfl rfl ?_
        exact z_iret (pc := 59) hC hE dX6_make_59 (zMu_i rfl)
      · skip
        have g21 := Int32.not_le.mp h21
        have hp20 : p < 20 := zc_lt (n := 20) h21 (by omega) (by decide)
        refine z_aload_n (pc := 24) hC 2 dX6_make_24 rfl rfl z_isr_r ?_
        refine z_gF (pc := 25) hC 6 0 (t := 96) rfl (z_lt hC (by decide)) rfl inX6 (by decide) rfl zm_4_73 rfl dX6_make_25 ?_
        refine z_bipush (pc := 28) (v := 43) hC dX6_make_28 rfl ?_
        refine z_bipush (pc := 30) (v := 20) hC dX6_make_30 rfl ?_
        refine z_iload_n (pc := 32) hC 1 dX6_make_32 rfl rfl ?_
        refine z_imul (pc := 33) hC dX6_make_33 ?_
        refine z_iadd (pc := 34) hC dX6_make_34 ?_
        refine z_iload_n (pc := 35) hC 0 dX6_make_35 rfl rfl ?_
        refine z_iadd (pc := 36) hC dX6_make_36 ?_
        refine z_iload_n (pc := 37) hC 0 dX6_make_37 rfl rfl ?_
        refine z_cS (pc := 38) (st := [.int ((43 + (20 * (nI gv))) + (nI p)), .ref (g.1 96)]) hC [.int (nI p)] (kX6_firstOf C.2.1 g N (zmr (z_st 2) (z_u I 96 (3 + gv) v) (43 + 20 * gv) p) P J p hp20) zkX6_firstOf zm_4_70 ⟨rfl, rfl⟩ rfl rfl hRm ⟨Nat.le_of_ble_eq_true rfl, Nat.le_of_ble_eq_true rfl⟩ (Nat.le_of_ble_eq_true rfl) ⟨Nat.zero_le _, Nat.zero_le _⟩ dX6_make_38 ?_
        refine z_isN (pc := 41) hC (43 + 20 * gv + p) rfl (z_lt hC (by decide)) (zix gv p) (by omega) (by decide) dX6_make_41 ?_
        refine z_iinc (pc := 42) (v := nI (p + 1)) (lv' := [(3, .int (nI (p + 1))), (2, .int (nI gv)), (0, .ref (g.1 95)), (1, .int v)]) hC 0 dX6_make_42 rfl (nI_1 p) (by decide) rfl ?_
        refine z_goto (pc := 45) (tgt := 18) hC dX6_make_45 (by decide) ?_
        rw [zmr_s _ _ _ _ rfl]
        exact ih (p + 1) (by omega) (by omega)
  have K := L18 21 0 (by decide) (by decide)
  rw [zmr_0] at K
  exact K
theorem zg_ne {n : Nat} (h : ¬ nI n = 40) (hn : n ≤ 40) : n < 40 := by
  rcases Nat.lt_or_ge n 40 with e | e
  · exact e
  · exact absurd (by rw [show n = 40 by omega]; rfl) h
theorem zadd_k {I : Nat → Nat → Int32} {P : Nat → Nat → Option Nat} {J : Nat → Nat → Int64} {gv : Nat} {f : Nat → Int32} {a v w : Int32} : zKm I P J (z_u (zmr f (z_u (z_u I 95 3 a) 96 (3 + gv) v) (43 + 20 * gv) 20) 96 0 w) P J := by
  refine ⟨rfl, fun _ _ _ => rfl, fun q j hq => ?_⟩
  rw [z_u_a _ _ (by omega), zmr_o _ _ (by omega), z_u_a _ _ (by omega), z_u_a _ _ (by omega)]
theorem zcpy_k {I : Nat → Nat → Int32} {P : Nat → Nat → Option Nat} {J : Nat → Nat → Int64} {o n : Nat} {f : Nat → Int32} {a : Int32} : zKm I P J (zmr f (z_u I 95 3 a) o n) P J := by
  refine ⟨rfl, fun _ _ _ => rfl, fun q j hq => ?_⟩
  rw [zmr_o _ _ (by omega), z_u_a _ _ (by omega)]
set_option maxHeartbeats 4000000 in
set_option maxRecDepth 100000 in
theorem kX6_add (lx : Launch) (g : zG) (N : Nat) (I : Nat → Nat → Int32) (P : Nat → Nat → Option Nat) (J : Nat → Nat → Int64) {σ : zS} (hm : zMd σ I) (x : Int32) : z_Ct lx yX6_add (zT yX6_add cX6_add 2 (Option.some FieldType.int)) ({ frames := 2, cells := 0, slots := 0, locals := 43 } : Room) g N I P J [.ref (g.1 95), .int x] (fun v I' P' J' => ((zbx σ x = false ∧ I' 95 3 = 1 ∧ zMd σ I') ∨ ((zbx σ x = true ∧ sGv σ = 40 ∧ I' 95 3 = 2 ∧ zMd σ I') ∨ ∃ b, x = nI b ∧ b < 40 ∧ sEx σ b = true ∧ sGv σ < 40 ∧ v = some (.int (nI (sGv σ))) ∧ I' 95 3 = 0 ∧ zMd (sAdd σ b) I')) ∧ zKm I P J I' P' J') 0 0 := by
  refine z_of (by decide) (Nat.le_of_ble_eq_true rfl) (lv0 := [(0, .ref (g.1 95)), (1, .int x)]) rfl ?_
  intro C hlx hC hE hRm
  have hC : zX C cX6_add 2 RX6 (zT yX6_add cX6_add 2 (Option.some FieldType.int)) g N := hC
  refine z_aload_n (pc := 0) hC 0 dX6_add_0 rfl rfl z_isr_r ?_
  refine z_aload_n (pc := 1) hC 0 dX6_add_1 rfl rfl z_isr_r ?_
  refine z_iload_n (pc := 2) hC 1 dX6_add_2 rfl rfl ?_
  refine z_cV (pc := 3) (st := [.ref (g.1 95)]) hC [.int x] (kX6_isBox C.2.1 g N I P J hm x) rfl (z_lt hC (by decide)) rfl zkX6_isBox zm_4_131 ⟨rfl, rfl⟩ rfl rfl hRm ⟨Nat.le_of_ble_eq_true rfl, Nat.le_of_ble_eq_true rfl⟩ (Nat.le_of_ble_eq_true rfl) ⟨Nat.zero_le _, Nat.zero_le _⟩ dX6_add_3 ?_
  refine z_if_ne (pc := 6) (tgt := 13) hC dX6_add_6 (by decide) (fun h6 => ?_) (fun h6 => ?_)
  · skip
    have g6 := zB_t h6
    obtain ⟨b, rfl, hb, he⟩ := zbx_iff.mp g6
    refine z_aload_n (pc := 13) hC 0 dX6_add_13 rfl rfl z_isr_r ?_
    refine z_gF (pc := 14) hC 6 0 (t := 96) rfl (z_lt hC (by decide)) rfl inX6 (by decide) rfl zm_4_73 rfl dX6_add_14 ?_
    refine z_iconst (pc := 17) (v := 0) hC dX6_add_17 rfl ?_
    refine z_iaN (pc := 18) hC 0 (x := nI (sGv σ)) rfl (z_lt hC (by decide)) rfl (by decide) (by decide) hm.2.1 dX6_add_18 ?_
    refine z_bipush (pc := 19) (v := 40) hC dX6_add_19 rfl ?_
    refine z_icmp_ne (pc := 21) (tgt := 28) hC dX6_add_21 (by decide) (fun h21 => ?_) (fun h21 => ?_)
    · skip
      have hgv : sGv σ < 40 := zg_ne h21 hm.gv.2
      refine z_iconst (pc := 28) (v := 0) hC dX6_add_28 rfl ?_
      refine z_pI (pc := 29) hC 6 3 rfl (z_lt hC (by decide)) rfl inX6 tyX6_ok nmX6 (by decide) rfl zm_4_76 rfl rfl rfl dX6_add_29 ?_
      refine z_aload_n (pc := 32) hC 0 dX6_add_32 rfl rfl z_isr_r ?_
      refine z_gI (pc := 33) hC 6 3 (x := 0) rfl (z_lt hC (by decide)) rfl inX6 (by decide) rfl zm_4_76 (z_u_s _ _ _ _) dX6_add_33 ?_
      refine z_if_eq (pc := 36) (tgt := 43) hC dX6_add_36 (by decide) (fun h36 => ?_) (fun h36 => ?_)
      · skip
        refine z_aload_n (pc := 43) hC 0 dX6_add_43 rfl rfl z_isr_r ?_
        refine z_iload_n (pc := 44) hC 1 dX6_add_44 rfl rfl ?_
        refine z_cV (pc := 45) (st := []) hC [.int (nI b)] (kX6_make C.2.1 g N (z_u I 95 3 0) P J (sGv σ) hgv (hm.u (by decide)).2.1 (nI b)) rfl (z_lt hC (by decide)) rfl zkX6_make zm_4_66 ⟨rfl, rfl⟩ rfl rfl hRm ⟨Nat.le_of_ble_eq_true rfl, Nat.le_of_ble_eq_true rfl⟩ (Nat.le_of_ble_eq_true rfl) ⟨Nat.zero_le _, Nat.zero_le _⟩ dX6_add_45 ?_
        exact z_iret (pc := 48) hC hE dX6_add_48 ⟨Or.inr (Or.inr ⟨b, rfl, hb, he, hgv, rfl, (z_u_a _ _ (by decide)).trans ((zmr_o _ _ (by omega)).trans ((z_u_a _ _ (by decide)).trans (z_u_s _ _ _ _))), zMd_add (hm.u (by decide)) he hgv⟩), zadd_k⟩
      · skip
        exact absurd h36 (by decide)
    · skip
      have hgv : sGv σ = 40 := (nI_eq (a := sGv σ) (b := 40) (by have := hm.gv; omega) (by decide)).mp h21
      refine z_iconst (pc := 24) (v := 2) hC dX6_add_24 rfl ?_
      refine z_goto (pc := 25) (tgt := 29) hC dX6_add_25 (by decide) ?_
      refine z_pI (pc := 29) hC 6 3 rfl (z_lt hC (by decide)) rfl inX6 tyX6_ok nmX6 (by decide) rfl zm_4_76 rfl rfl rfl dX6_add_29 ?_
      refine z_aload_n (pc := 32) hC 0 dX6_add_32 rfl rfl z_isr_r ?_
      refine z_gI (pc := 33) hC 6 3 (x := 2) rfl (z_lt hC (by decide)) rfl inX6 (by decide) rfl zm_4_76 (z_u_s _ _ _ _) dX6_add_33 ?_
      refine z_if_eq (pc := 36) (tgt := 43) hC dX6_add_36 (by decide) (fun h36 => ?_) (fun h36 => ?_)
      · skip
        exact absurd h36 (by decide)
      · skip
        refine z_iconst (pc := 39) (v := 0) hC dX6_add_39 rfl ?_
        refine z_goto (pc := 40) (tgt := 48) hC dX6_add_40 (by decide) ?_
        exact z_iret (pc := 48) hC hE dX6_add_48 ⟨Or.inr (Or.inl ⟨g6, hgv, z_u_s _ _ _ _, hm.u (by decide)⟩), zKm.rf.u (by decide)⟩
  · skip
    have g6 := zB_f h6
    refine z_iconst (pc := 9) (v := 1) hC dX6_add_9 rfl ?_
    refine z_goto (pc := 10) (tgt := 29) hC dX6_add_10 (by decide) ?_
    refine z_pI (pc := 29) hC 6 3 rfl (z_lt hC (by decide)) rfl inX6 tyX6_ok nmX6 (by decide) rfl zm_4_76 rfl rfl rfl dX6_add_29 ?_
    refine z_aload_n (pc := 32) hC 0 dX6_add_32 rfl rfl z_isr_r ?_
    refine z_gI (pc := 33) hC 6 3 (x := 1) rfl (z_lt hC (by decide)) rfl inX6 (by decide) rfl zm_4_76 (z_u_s _ _ _ _) dX6_add_33 ?_
    refine z_if_eq (pc := 36) (tgt := 43) hC dX6_add_36 (by decide) (fun h36 => ?_) (fun h36 => ?_)
    · skip
      exact absurd h36 (by decide)
    · skip
      refine z_iconst (pc := 39) (v := 0) hC dX6_add_39 rfl ?_
      refine z_goto (pc := 40) (tgt := 48) hC dX6_add_40 (by decide) ?_
      exact z_iret (pc := 48) hC hE dX6_add_48 ⟨Or.inl ⟨g6, z_u_s _ _ _ _, hm.u (by decide)⟩, zKm.rf.u (by decide)⟩
set_option maxHeartbeats 4000000 in
set_option maxRecDepth 100000 in
theorem kX6_ofR (lx : Launch) (g : zG) (N : Nat) (I : Nat → Nat → Int32) (P : Nat → Nat → Option Nat) (J : Nat → Nat → Int64) (b k : Nat) (hb : b < 40) (hk : k < 20) (x : Int32) (hx : x = nI k) (v : Int32) (hv : I 96 (43 + 20 * b + k) = v) : z_Ct lx yX6_of (zT yX6_of cX6_of 3 (Option.some FieldType.int)) ({ frames := 0, cells := 0, slots := 0, locals := 0 } : Room) g N I P J [.ref (g.1 95), .int (nI b), .int x] (zMu (some (.int v)) I P J) 0 0 := by
  refine z_of (by decide) (Nat.le_of_ble_eq_true rfl) (lv0 := [(0, .ref (g.1 95)), (1, .int (nI b)), (2, .int x)]) rfl ?_
  intro C hlx hC hE hRm
  have hC : zX C cX6_of 3 RX6 (zT yX6_of cX6_of 3 (Option.some FieldType.int)) g N := hC
  refine z_aload_n (pc := 0) hC 0 dX6_of_0 rfl rfl z_isr_r ?_
  refine z_gF (pc := 1) hC 6 0 (t := 96) rfl (z_lt hC (by decide)) rfl inX6 (by decide) rfl zm_4_73 rfl dX6_of_1 ?_
  refine z_bipush (pc := 4) (v := 43) hC dX6_of_4 rfl ?_
  refine z_bipush (pc := 6) (v := 20) hC dX6_of_6 rfl ?_
  refine z_iload_n (pc := 8) hC 1 dX6_of_8 rfl rfl ?_
  refine z_imul (pc := 9) hC dX6_of_9 ?_
  refine z_iadd (pc := 10) hC dX6_of_10 ?_
  refine z_iload_n (pc := 11) hC 2 dX6_of_11 rfl rfl ?_
  refine z_iadd (pc := 12) hC dX6_of_12 ?_
  refine z_iaN (pc := 13) hC (43 + 20 * b + k) (x := v) rfl (z_lt hC (by decide)) (by rw [hx]; exact zix b k) (by omega) (by decide) hv dX6_of_13 ?_
  exact z_iret (pc := 14) hC hE dX6_of_14 (zMu_i rfl)
theorem zcpr {σ : zS} {I : Nat → Nat → Int32} (hm : zMd σ I) {a b x p : Nat} (hx : sEx σ x = true) (h : x = a ∨ (x = b ∨ False)) (hp : p < 17) {w : Int32} : zmr (sSt σ a) (z_u I 95 3 w) (43 + 20 * b) p 96 (43 + 20 * x + p) = sSt σ x p := by
  by_cases e : 96 = 96 ∧ 43 + 20 * b ≤ 43 + 20 * x + p ∧ 43 + 20 * x + p < 43 + 20 * b + p
  · omega
  · rw [zmr_o _ _ e, z_u_a _ _ (by decide)]
    exact hm.2.2.2.2.2 x p hx (by omega)
set_option maxHeartbeats 4000000 in
set_option maxRecDepth 100000 in
theorem kX6_copyStyleT (lx : Launch) (g : zG) (N : Nat) (I : Nat → Nat → Int32) (P : Nat → Nat → Option Nat) (J : Nat → Nat → Int64) {σ : zS} (hm : zMd σ I) (a b : Nat) (ha : sEx σ a = true) (hb : sEx σ b = true) : z_Ct lx yX6_copyStyle (zT yX6_copyStyle cX6_copyStyle 5 (Option.some FieldType.int)) ({ frames := 2, cells := 0, slots := 0, locals := 43 } : Room) g N I P J [.ref (g.1 95), .int (nI a), .int (nI b)] (fun v I' P' J' => v = some (.int (nI (sCpC σ a b 17))) ∧ I' 95 3 = 0 ∧ zMd (sCpy σ a b) I' ∧ zKm I P J I' P' J') 0 0 := by
  refine z_of (by decide) (Nat.le_of_ble_eq_true rfl) (lv0 := [(0, .ref (g.1 95)), (1, .int (nI a)), (2, .int (nI b))]) rfl ?_
  intro C hlx hC hE hRm
  have hC : zX C cX6_copyStyle 5 RX6 (zT yX6_copyStyle cX6_copyStyle 5 (Option.some FieldType.int)) g N := hC
  refine z_aload_n (pc := 0) hC 0 dX6_copyStyle_0 rfl rfl z_isr_r ?_
  refine z_aload_n (pc := 1) hC 0 dX6_copyStyle_1 rfl rfl z_isr_r ?_
  refine z_iload_n (pc := 2) hC 1 dX6_copyStyle_2 rfl rfl ?_
  refine z_cV (pc := 3) (st := [.ref (g.1 95)]) hC [.int (nI a)] (kX6_isBox C.2.1 g N I P J hm (nI a)) rfl (z_lt hC (by decide)) rfl zkX6_isBox zm_4_131 ⟨rfl, rfl⟩ rfl rfl hRm ⟨Nat.le_of_ble_eq_true rfl, Nat.le_of_ble_eq_true rfl⟩ (Nat.le_of_ble_eq_true rfl) ⟨Nat.zero_le _, Nat.zero_le _⟩ dX6_copyStyle_3 ?_
  refine z_if_eq (pc := 6) (tgt := 21) hC dX6_copyStyle_6 (by decide) (fun h6 => ?_) (fun h6 => ?_)
  · skip
    have g6 := zB_f h6
    rw [zbx_nI (hm.lt ha).2, ha] at g6
    cases g6
  · skip
    have g6 := zB_t h6
    refine z_aload_n (pc := 9) hC 0 dX6_copyStyle_9 rfl rfl z_isr_r ?_
    refine z_iload_n (pc := 10) hC 2 dX6_copyStyle_10 rfl rfl ?_
    refine z_cV (pc := 11) (st := [.ref (g.1 95)]) hC [.int (nI b)] (kX6_isBox C.2.1 g N I P J hm (nI b)) rfl (z_lt hC (by decide)) rfl zkX6_isBox zm_4_131 ⟨rfl, rfl⟩ rfl rfl hRm ⟨Nat.le_of_ble_eq_true rfl, Nat.le_of_ble_eq_true rfl⟩ (Nat.le_of_ble_eq_true rfl) ⟨Nat.zero_le _, Nat.zero_le _⟩ dX6_copyStyle_11 ?_
    refine z_if_eq (pc := 14) (tgt := 21) hC dX6_copyStyle_14 (by decide) (fun h14 => ?_) (fun h14 => ?_)
    · skip
      have g14 := zB_f h14
      rw [zbx_nI (hm.lt hb).2, hb] at g14
      cases g14
    · skip
      have g14 := zB_t h14
      refine z_iconst (pc := 17) (v := 0) hC dX6_copyStyle_17 rfl ?_
      refine z_goto (pc := 18) (tgt := 22) hC dX6_copyStyle_18 (by decide) ?_
      refine z_pI (pc := 22) hC 6 3 rfl (z_lt hC (by decide)) rfl inX6 tyX6_ok nmX6 (by decide) rfl zm_4_76 rfl rfl rfl dX6_copyStyle_22 ?_
      refine z_iconst (pc := 25) (v := 0) hC dX6_copyStyle_25 rfl ?_
      refine z_istore_n (pc := 26) (lv' := [(3, .int 0), (0, .ref (g.1 95)), (1, .int (nI a)), (2, .int (nI b))]) hC dX6_copyStyle_26 rfl (by decide) rfl ?_
      refine z_iconst (pc := 27) (v := 0) hC dX6_copyStyle_27 rfl ?_
      refine z_istore (pc := 28) (lv' := [(4, .int 0), (3, .int 0), (0, .ref (g.1 95)), (1, .int (nI a)), (2, .int (nI b))]) hC dX6_copyStyle_28 (by decide) rfl ?_
      have L30 : ∀ (zf : Nat) (p : Nat) (hp : p ≤ 17), 17 - p < zf → zJ C g N 5 0 0 (zmr (sSt σ a) (z_u I 95 3 0) (43 + 20 * b) p) P J 30 [(4, .int (nI p)), (3, .int (nI (sCpC σ a b p))), (0, .ref (g.1 95)), (1, .int (nI a)), (2, .int (nI b))] [] := by
        intro zf
        induction zf with
        | zero =>
          intro p hp hn2
          exact absurd hn2 (Nat.not_lt_zero _)
        | succ zf ih =>
          intro p hp hn2
          refine z_iload (pc := 30) hC 0 dX6_copyStyle_30 rfl ?_
          refine z_bipush (pc := 32) (v := 17) hC dX6_copyStyle_32 rfl ?_
          refine z_icmp_ge (pc := 34) (tgt := 97) hC dX6_copyStyle_34 (by decide) (fun h34 => ?_) (fun h34 => ?_)
          · skip
            have g34 := Int32.not_lt.mpr h34
            have ep : p = 17 := Nat.le_antisymm hp (zc_ge (n := 17) h34 (by omega) (by decide))
            subst ep
            refine z_iload_n (pc := 97) hC 1 dX6_copyStyle_97 rfl rfl ?_
            exact z_iret (pc := 98) hC hE dX6_copyStyle_98 ⟨rfl, (zmr_o _ _ (by omega)).trans (z_u_s _ _ _ _), zMd_cpy (hm.u (by decide)) ha hb, zcpy_k⟩
          · skip
            have g34 := Int32.not_le.mp h34
            have hp17 : p < 17 := zc_lt (n := 17) h34 (by omega) (by decide)
            refine z_aload_n (pc := 37) hC 2 dX6_copyStyle_37 rfl rfl z_isr_r ?_
            refine z_gI (pc := 38) hC 6 3 (x := 0) rfl (z_lt hC (by decide)) rfl inX6 (by decide) rfl zm_4_76 ((zmr_o _ _ (by omega)).trans (z_u_s _ _ _ _)) dX6_copyStyle_38 ?_
            refine z_if_ne (pc := 41) (tgt := 97) hC dX6_copyStyle_41 (by decide) (fun h41 => ?_) (fun h41 => ?_)
            · skip
              exact absurd h41 (by decide)
            · skip
              refine z_iload_n (pc := 44) hC 1 dX6_copyStyle_44 rfl rfl ?_
              refine z_aload_n (pc := 45) hC 2 dX6_copyStyle_45 rfl rfl z_isr_r ?_
              refine z_iload_n (pc := 46) hC 3 dX6_copyStyle_46 rfl rfl ?_
              refine z_iload (pc := 47) hC 0 dX6_copyStyle_47 rfl ?_
              refine z_cV (pc := 49) (st := [.int (nI (sCpC σ a b p))]) hC [.int (nI a), .int (nI p)] (kX6_ofR C.2.1 g N (zmr (sSt σ a) (z_u I 95 3 0) (43 + 20 * b) p) P J a p (hm.lt ha).2 (by omega) (nI p) rfl (sSt σ a p) (zcpr hm ha (Or.inl rfl) (by omega))) rfl (z_lt hC (by decide)) rfl zkX6_of zm_4_162 ⟨rfl, rfl⟩ rfl rfl hRm ⟨Nat.le_of_ble_eq_true rfl, Nat.le_of_ble_eq_true rfl⟩ (Nat.le_of_ble_eq_true rfl) ⟨Nat.zero_le _, Nat.zero_le _⟩ dX6_copyStyle_49 ?_
              refine z_aload_n (pc := 52) hC 2 dX6_copyStyle_52 rfl rfl z_isr_r ?_
              refine z_iload_n (pc := 53) hC 4 dX6_copyStyle_53 rfl rfl ?_
              refine z_iload (pc := 54) hC 0 dX6_copyStyle_54 rfl ?_
              refine z_cV (pc := 56) (st := [.int (sSt σ a p), .int (nI (sCpC σ a b p))]) hC [.int (nI b), .int (nI p)] (kX6_ofR C.2.1 g N (zmr (sSt σ a) (z_u I 95 3 0) (43 + 20 * b) p) P J b p (hm.lt hb).2 (by omega) (nI p) rfl (sSt σ b p) (zcpr hm hb (Or.inr (Or.inl rfl)) (by omega))) rfl (z_lt hC (by decide)) rfl zkX6_of zm_4_162 ⟨rfl, rfl⟩ rfl rfl hRm ⟨Nat.le_of_ble_eq_true rfl, Nat.le_of_ble_eq_true rfl⟩ (Nat.le_of_ble_eq_true rfl) ⟨Nat.zero_le _, Nat.zero_le _⟩ dX6_copyStyle_56 ?_
              refine z_icmp_ne (pc := 59) (tgt := 66) hC dX6_copyStyle_59 (by decide) (fun h59 => ?_) (fun h59 => ?_)
              · skip
                refine z_iconst (pc := 66) (v := 1) hC dX6_copyStyle_66 rfl ?_
                refine z_iadd (pc := 67) hC dX6_copyStyle_67 ?_
                refine z_istore_n (pc := 68) (lv' := [(3, .int ((nI (sCpC σ a b p)) + 1)), (4, .int (nI p)), (0, .ref (g.1 95)), (1, .int (nI a)), (2, .int (nI b))]) hC dX6_copyStyle_68 rfl (by decide) rfl ?_
                refine z_aload_n (pc := 69) hC 2 dX6_copyStyle_69 rfl rfl z_isr_r ?_
                refine z_gF (pc := 70) hC 6 0 (t := 96) rfl (z_lt hC (by decide)) rfl inX6 (by decide) rfl zm_4_73 rfl dX6_copyStyle_70 ?_
                refine z_bipush (pc := 73) (v := 43) hC dX6_copyStyle_73 rfl ?_
                refine z_bipush (pc := 75) (v := 20) hC dX6_copyStyle_75 rfl ?_
                refine z_iload_n (pc := 77) hC 4 dX6_copyStyle_77 rfl rfl ?_
                refine z_imul (pc := 78) hC dX6_copyStyle_78 ?_
                refine z_iadd (pc := 79) hC dX6_copyStyle_79 ?_
                refine z_iload (pc := 80) hC 1 dX6_copyStyle_80 rfl ?_
                refine z_iadd (pc := 82) hC dX6_copyStyle_82 ?_
                refine z_aload_n (pc := 83) hC 2 dX6_copyStyle_83 rfl rfl z_isr_r ?_
                refine z_iload_n (pc := 84) hC 3 dX6_copyStyle_84 rfl rfl ?_
                refine z_iload (pc := 85) hC 1 dX6_copyStyle_85 rfl ?_
                refine z_cV (pc := 87) (st := [.int ((43 + (20 * (nI b))) + (nI p)), .ref (g.1 96)]) hC [.int (nI a), .int (nI p)] (kX6_ofR C.2.1 g N (zmr (sSt σ a) (z_u I 95 3 0) (43 + 20 * b) p) P J a p (hm.lt ha).2 (by omega) (nI p) rfl (sSt σ a p) (zcpr hm ha (Or.inl rfl) (by omega))) rfl (z_lt hC (by decide)) rfl zkX6_of zm_4_162 ⟨rfl, rfl⟩ rfl rfl hRm ⟨Nat.le_of_ble_eq_true rfl, Nat.le_of_ble_eq_true rfl⟩ (Nat.le_of_ble_eq_true rfl) ⟨Nat.zero_le _, Nat.zero_le _⟩ dX6_copyStyle_87 ?_
                refine z_isN (pc := 90) hC (43 + 20 * b + p) rfl (z_lt hC (by decide)) (zix b p) (by have := (hm.lt hb).2; omega) (by decide) dX6_copyStyle_90 ?_
                refine z_iinc (pc := 91) (v := nI (p + 1)) (lv' := [(4, .int (nI (p + 1))), (3, .int ((nI (sCpC σ a b p)) + 1)), (0, .ref (g.1 95)), (1, .int (nI a)), (2, .int (nI b))]) hC 1 dX6_copyStyle_91 rfl (nI_1 p) (by decide) rfl ?_
                refine z_goto (pc := 94) (tgt := 30) hC dX6_copyStyle_94 (by decide) ?_
                have K := ih (p + 1) (by omega) (by omega)
                rw [← zmr_s _ _ _ _ rfl] at K
                rw [show nI (sCpC σ a b (p + 1)) = (nI (sCpC σ a b p)) + 1 by rw [sCpC_s, if_neg h59]; first | exact (Int32.add_zero _).symm | exact (nI_1 _).symm] at K
                exact K
              · skip
                refine z_iconst (pc := 62) (v := 0) hC dX6_copyStyle_62 rfl ?_
                refine z_goto (pc := 63) (tgt := 67) hC dX6_copyStyle_63 (by decide) ?_
                refine z_iadd (pc := 67) hC dX6_copyStyle_67 ?_
                refine z_istore_n (pc := 68) (lv' := [(3, .int ((nI (sCpC σ a b p)) + 0)), (4, .int (nI p)), (0, .ref (g.1 95)), (1, .int (nI a)), (2, .int (nI b))]) hC dX6_copyStyle_68 rfl (by decide) rfl ?_
                refine z_aload_n (pc := 69) hC 2 dX6_copyStyle_69 rfl rfl z_isr_r ?_
                refine z_gF (pc := 70) hC 6 0 (t := 96) rfl (z_lt hC (by decide)) rfl inX6 (by decide) rfl zm_4_73 rfl dX6_copyStyle_70 ?_
                refine z_bipush (pc := 73) (v := 43) hC dX6_copyStyle_73 rfl ?_
                refine z_bipush (pc := 75) (v := 20) hC dX6_copyStyle_75 rfl ?_
                refine z_iload_n (pc := 77) hC 4 dX6_copyStyle_77 rfl rfl ?_
                refine z_imul (pc := 78) hC dX6_copyStyle_78 ?_
                refine z_iadd (pc := 79) hC dX6_copyStyle_79 ?_
                refine z_iload (pc := 80) hC 1 dX6_copyStyle_80 rfl ?_
                refine z_iadd (pc := 82) hC dX6_copyStyle_82 ?_
                refine z_aload_n (pc := 83) hC 2 dX6_copyStyle_83 rfl rfl z_isr_r ?_
                refine z_iload_n (pc := 84) hC 3 dX6_copyStyle_84 rfl rfl ?_
                refine z_iload (pc := 85) hC 1 dX6_copyStyle_85 rfl ?_
                refine z_cV (pc := 87) (st := [.int ((43 + (20 * (nI b))) + (nI p)), .ref (g.1 96)]) hC [.int (nI a), .int (nI p)] (kX6_ofR C.2.1 g N (zmr (sSt σ a) (z_u I 95 3 0) (43 + 20 * b) p) P J a p (hm.lt ha).2 (by omega) (nI p) rfl (sSt σ a p) (zcpr hm ha (Or.inl rfl) (by omega))) rfl (z_lt hC (by decide)) rfl zkX6_of zm_4_162 ⟨rfl, rfl⟩ rfl rfl hRm ⟨Nat.le_of_ble_eq_true rfl, Nat.le_of_ble_eq_true rfl⟩ (Nat.le_of_ble_eq_true rfl) ⟨Nat.zero_le _, Nat.zero_le _⟩ dX6_copyStyle_87 ?_
                refine z_isN (pc := 90) hC (43 + 20 * b + p) rfl (z_lt hC (by decide)) (zix b p) (by have := (hm.lt hb).2; omega) (by decide) dX6_copyStyle_90 ?_
                refine z_iinc (pc := 91) (v := nI (p + 1)) (lv' := [(4, .int (nI (p + 1))), (3, .int ((nI (sCpC σ a b p)) + 0)), (0, .ref (g.1 95)), (1, .int (nI a)), (2, .int (nI b))]) hC 1 dX6_copyStyle_91 rfl (nI_1 p) (by decide) rfl ?_
                refine z_goto (pc := 94) (tgt := 30) hC dX6_copyStyle_94 (by decide) ?_
                have K := ih (p + 1) (by omega) (by omega)
                rw [← zmr_s _ _ _ _ rfl] at K
                rw [show nI (sCpC σ a b (p + 1)) = (nI (sCpC σ a b p)) + 0 by rw [sCpC_s, if_pos h59]; first | exact (Int32.add_zero _).symm | exact (nI_1 _).symm] at K
                exact K
      have K := L30 18 0 (by decide) (by decide)
      rw [zmr_0] at K
      exact K
end ZM4
